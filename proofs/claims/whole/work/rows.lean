section
-- ===== PART A: goes FIRST, ahead of the names: the tables' words, and 'selects' of the private methods out of them =====
/-- a private method of a class that the tables say can be made, by its rows of tables_1 -/
def lw_okq (q : MethodName × Nat) : Prop := (q.1.cls ≠ "java/lang/invoke/MethodHandle" ∧ q.1.cls ≠ "java/lang/invoke/VarHandle") ∧ Cond.instantiable q.1.cls q.2 ∈ tables_1 ∧ Cond.privateMethod q.1 ∈ tables_1 ∧ Cond.instanceMethod q.1 ∈ tables_1
theorem lw_p0 : lw_okq (⟨"TreeTables$ShapeReader", "readPart", "()Z"⟩, 4) := ⟨⟨by decide +kernel, by decide +kernel⟩, List.mem_of_getElem? (i := 235) (by decide +kernel), List.mem_of_getElem? (i := 266) (by decide +kernel), List.mem_of_getElem? (i := 267) (by decide +kernel)⟩
theorem lw_p1 : lw_okq (⟨"TreeTables$ShapeReader", "readEnd", "()Z"⟩, 4) := ⟨⟨by decide +kernel, by decide +kernel⟩, List.mem_of_getElem? (i := 235) (by decide +kernel), List.mem_of_getElem? (i := 278) (by decide +kernel), List.mem_of_getElem? (i := 279) (by decide +kernel)⟩
theorem lw_p2 : lw_okq (⟨"TreeTables$ShapeReader", "readClose", "()Z"⟩, 4) := ⟨⟨by decide +kernel, by decide +kernel⟩, List.mem_of_getElem? (i := 235) (by decide +kernel), List.mem_of_getElem? (i := 290) (by decide +kernel), List.mem_of_getElem? (i := 291) (by decide +kernel)⟩
theorem lw_p3 : lw_okq (⟨"TreeTables$ShapeReader", "readMark", "(I)Z"⟩, 4) := ⟨⟨by decide +kernel, by decide +kernel⟩, List.mem_of_getElem? (i := 235) (by decide +kernel), List.mem_of_getElem? (i := 298) (by decide +kernel), List.mem_of_getElem? (i := 299) (by decide +kernel)⟩
theorem lw_p4 : lw_okq (⟨"TreeTables$ShapeReader", "readField", "()Z"⟩, 4) := ⟨⟨by decide +kernel, by decide +kernel⟩, List.mem_of_getElem? (i := 235) (by decide +kernel), List.mem_of_getElem? (i := 323) (by decide +kernel), List.mem_of_getElem? (i := 324) (by decide +kernel)⟩
theorem lw_p5 : lw_okq (⟨"TreeTables$ShapeReader", "readName", "()Z"⟩, 4) := ⟨⟨by decide +kernel, by decide +kernel⟩, List.mem_of_getElem? (i := 235) (by decide +kernel), List.mem_of_getElem? (i := 327) (by decide +kernel), List.mem_of_getElem? (i := 328) (by decide +kernel)⟩
theorem lw_p6 : lw_okq (⟨"TreeTables$ShapeReader", "readOpen", "(I)Z"⟩, 4) := ⟨⟨by decide +kernel, by decide +kernel⟩, List.mem_of_getElem? (i := 235) (by decide +kernel), List.mem_of_getElem? (i := 348) (by decide +kernel), List.mem_of_getElem? (i := 349) (by decide +kernel)⟩
theorem lw_p7 : lw_okq (⟨"TreeTables$ShapeReader", "readLeaf", "(I)Z"⟩, 4) := ⟨⟨by decide +kernel, by decide +kernel⟩, List.mem_of_getElem? (i := 235) (by decide +kernel), List.mem_of_getElem? (i := 352) (by decide +kernel), List.mem_of_getElem? (i := 353) (by decide +kernel)⟩
theorem lw_p8 : lw_okq (⟨"TreeTables", "beginTable", "(I)V"⟩, 6) := ⟨⟨by decide +kernel, by decide +kernel⟩, List.mem_of_getElem? (i := 14) (by decide +kernel), List.mem_of_getElem? (i := 369) (by decide +kernel), List.mem_of_getElem? (i := 370) (by decide +kernel)⟩
theorem lw_p9 : lw_okq (⟨"TreeTables", "tableOf", "(I)LTreeTables$Table;"⟩, 6) := ⟨⟨by decide +kernel, by decide +kernel⟩, List.mem_of_getElem? (i := 14) (by decide +kernel), List.mem_of_getElem? (i := 373) (by decide +kernel), List.mem_of_getElem? (i := 374) (by decide +kernel)⟩
theorem lw_p10 : lw_okq (⟨"TreeTables$PaperReader", "readPart", "()Z"⟩, 8) := ⟨⟨by decide +kernel, by decide +kernel⟩, List.mem_of_getElem? (i := 390) (by decide +kernel), List.mem_of_getElem? (i := 427) (by decide +kernel), List.mem_of_getElem? (i := 428) (by decide +kernel)⟩
theorem lw_p11 : lw_okq (⟨"TreeTables$PaperReader", "readEnd", "()Z"⟩, 8) := ⟨⟨by decide +kernel, by decide +kernel⟩, List.mem_of_getElem? (i := 390) (by decide +kernel), List.mem_of_getElem? (i := 432) (by decide +kernel), List.mem_of_getElem? (i := 433) (by decide +kernel)⟩
theorem lw_p12 : lw_okq (⟨"TreeTables$PaperReader", "layLacking", "()Z"⟩, 8) := ⟨⟨by decide +kernel, by decide +kernel⟩, List.mem_of_getElem? (i := 390) (by decide +kernel), List.mem_of_getElem? (i := 437) (by decide +kernel), List.mem_of_getElem? (i := 438) (by decide +kernel)⟩
theorem lw_p13 : lw_okq (⟨"TreeTables$PaperReader", "layLackingLeaves", "(I)V"⟩, 8) := ⟨⟨by decide +kernel, by decide +kernel⟩, List.mem_of_getElem? (i := 390) (by decide +kernel), List.mem_of_getElem? (i := 441) (by decide +kernel), List.mem_of_getElem? (i := 442) (by decide +kernel)⟩
theorem lw_p14 : lw_okq (⟨"TreeTables$PaperReader", "levelHere", "()I"⟩, 8) := ⟨⟨by decide +kernel, by decide +kernel⟩, List.mem_of_getElem? (i := 390) (by decide +kernel), List.mem_of_getElem? (i := 450) (by decide +kernel), List.mem_of_getElem? (i := 451) (by decide +kernel)⟩
theorem lw_p15 : lw_okq (⟨"TreeTables$PaperReader", "lay", "(IIIJ)V"⟩, 8) := ⟨⟨by decide +kernel, by decide +kernel⟩, List.mem_of_getElem? (i := 390) (by decide +kernel), List.mem_of_getElem? (i := 455) (by decide +kernel), List.mem_of_getElem? (i := 456) (by decide +kernel)⟩
def lw_privs_1 : List (MethodName × Nat) := [(⟨"TreeTables$ShapeReader", "readPart", "()Z"⟩, 4), (⟨"TreeTables$ShapeReader", "readEnd", "()Z"⟩, 4), (⟨"TreeTables$ShapeReader", "readClose", "()Z"⟩, 4), (⟨"TreeTables$ShapeReader", "readMark", "(I)Z"⟩, 4), (⟨"TreeTables$ShapeReader", "readField", "()Z"⟩, 4), (⟨"TreeTables$ShapeReader", "readName", "()Z"⟩, 4), (⟨"TreeTables$ShapeReader", "readOpen", "(I)Z"⟩, 4), (⟨"TreeTables$ShapeReader", "readLeaf", "(I)Z"⟩, 4), (⟨"TreeTables", "beginTable", "(I)V"⟩, 6), (⟨"TreeTables", "tableOf", "(I)LTreeTables$Table;"⟩, 6), (⟨"TreeTables$PaperReader", "readPart", "()Z"⟩, 8), (⟨"TreeTables$PaperReader", "readEnd", "()Z"⟩, 8), (⟨"TreeTables$PaperReader", "layLacking", "()Z"⟩, 8), (⟨"TreeTables$PaperReader", "layLackingLeaves", "(I)V"⟩, 8), (⟨"TreeTables$PaperReader", "levelHere", "()I"⟩, 8), (⟨"TreeTables$PaperReader", "lay", "(IIIJ)V"⟩, 8)]
theorem lw_r1 : ∀ q ∈ lw_privs_1, lw_okq q := List.forall_mem_cons.mpr ⟨lw_p0, List.forall_mem_cons.mpr ⟨lw_p1, List.forall_mem_cons.mpr ⟨lw_p2, List.forall_mem_cons.mpr ⟨lw_p3, List.forall_mem_cons.mpr ⟨lw_p4, List.forall_mem_cons.mpr ⟨lw_p5, List.forall_mem_cons.mpr ⟨lw_p6, List.forall_mem_cons.mpr ⟨lw_p7, List.forall_mem_cons.mpr ⟨lw_p8, List.forall_mem_cons.mpr ⟨lw_p9, List.forall_mem_cons.mpr ⟨lw_p10, List.forall_mem_cons.mpr ⟨lw_p11, List.forall_mem_cons.mpr ⟨lw_p12, List.forall_mem_cons.mpr ⟨lw_p13, List.forall_mem_cons.mpr ⟨lw_p14, List.forall_mem_cons.mpr ⟨lw_p15, fun _ h => absurd h List.not_mem_nil⟩⟩⟩⟩⟩⟩⟩⟩⟩⟩⟩⟩⟩⟩⟩⟩
theorem lw_p16 : lw_okq (⟨"TreeTables$Table", "grow", "()V"⟩, 9) := ⟨⟨by decide +kernel, by decide +kernel⟩, List.mem_of_getElem? (i := 68) (by decide +kernel), List.mem_of_getElem? (i := 463) (by decide +kernel), List.mem_of_getElem? (i := 464) (by decide +kernel)⟩
theorem lw_p17 : lw_okq (⟨"TreeTables$PaperReader", "readClose", "()Z"⟩, 8) := ⟨⟨by decide +kernel, by decide +kernel⟩, List.mem_of_getElem? (i := 390) (by decide +kernel), List.mem_of_getElem? (i := 491) (by decide +kernel), List.mem_of_getElem? (i := 492) (by decide +kernel)⟩
theorem lw_p18 : lw_okq (⟨"TreeTables$PaperReader", "readEntry", "()Z"⟩, 8) := ⟨⟨by decide +kernel, by decide +kernel⟩, List.mem_of_getElem? (i := 390) (by decide +kernel), List.mem_of_getElem? (i := 497) (by decide +kernel), List.mem_of_getElem? (i := 498) (by decide +kernel)⟩
theorem lw_p19 : lw_okq (⟨"TreeTables$PaperReader", "readValue", "(II)Z"⟩, 8) := ⟨⟨by decide +kernel, by decide +kernel⟩, List.mem_of_getElem? (i := 390) (by decide +kernel), List.mem_of_getElem? (i := 511) (by decide +kernel), List.mem_of_getElem? (i := 512) (by decide +kernel)⟩
theorem lw_p20 : lw_okq (⟨"TreeTables$PaperReader", "readNumber", "(II)Z"⟩, 8) := ⟨⟨by decide +kernel, by decide +kernel⟩, List.mem_of_getElem? (i := 390) (by decide +kernel), List.mem_of_getElem? (i := 515) (by decide +kernel), List.mem_of_getElem? (i := 516) (by decide +kernel)⟩
theorem lw_p21 : lw_okq (⟨"TreeTables$PaperReader", "readLetters", "(II)Z"⟩, 8) := ⟨⟨by decide +kernel, by decide +kernel⟩, List.mem_of_getElem? (i := 390) (by decide +kernel), List.mem_of_getElem? (i := 521) (by decide +kernel), List.mem_of_getElem? (i := 522) (by decide +kernel)⟩
theorem lw_p22 : lw_okq (⟨"TreeTables$PaperReader", "readOpen", "(II)Z"⟩, 8) := ⟨⟨by decide +kernel, by decide +kernel⟩, List.mem_of_getElem? (i := 390) (by decide +kernel), List.mem_of_getElem? (i := 526) (by decide +kernel), List.mem_of_getElem? (i := 527) (by decide +kernel)⟩
theorem lw_p23 : lw_okq (⟨"TreeTables", "forgetRows", "(I)V"⟩, 6) := ⟨⟨by decide +kernel, by decide +kernel⟩, List.mem_of_getElem? (i := 14) (by decide +kernel), List.mem_of_getElem? (i := 530) (by decide +kernel), List.mem_of_getElem? (i := 531) (by decide +kernel)⟩
theorem lw_p24 : lw_okq (⟨"TreeTables", "isPaper", "(I)Z"⟩, 6) := ⟨⟨by decide +kernel, by decide +kernel⟩, List.mem_of_getElem? (i := 14) (by decide +kernel), List.mem_of_getElem? (i := 546) (by decide +kernel), List.mem_of_getElem? (i := 547) (by decide +kernel)⟩
theorem lw_p25 : lw_okq (⟨"TreeTables$Table", "hasValueAhead", "(I)Z"⟩, 9) := ⟨⟨by decide +kernel, by decide +kernel⟩, List.mem_of_getElem? (i := 68) (by decide +kernel), List.mem_of_getElem? (i := 570) (by decide +kernel), List.mem_of_getElem? (i := 571) (by decide +kernel)⟩
theorem lw_p26 : lw_okq (⟨"TreeTables$Table", "countRuns", "([I)I"⟩, 9) := ⟨⟨by decide +kernel, by decide +kernel⟩, List.mem_of_getElem? (i := 68) (by decide +kernel), List.mem_of_getElem? (i := 579) (by decide +kernel), List.mem_of_getElem? (i := 580) (by decide +kernel)⟩
theorem lw_p27 : lw_okq (⟨"TreeTables$TextWriter", "wantedTable", "(I)LTreeTables$Table;"⟩, 5) := ⟨⟨by decide +kernel, by decide +kernel⟩, List.mem_of_getElem? (i := 598) (by decide +kernel), List.mem_of_getElem? (i := 624) (by decide +kernel), List.mem_of_getElem? (i := 625) (by decide +kernel)⟩
theorem lw_p28 : lw_okq (⟨"TreeTables$TextWriter", "writeParts", "(II)V"⟩, 5) := ⟨⟨by decide +kernel, by decide +kernel⟩, List.mem_of_getElem? (i := 598) (by decide +kernel), List.mem_of_getElem? (i := 632) (by decide +kernel), List.mem_of_getElem? (i := 633) (by decide +kernel)⟩
theorem lw_p29 : lw_okq (⟨"TreeTables$TextWriter", "writeField", "(II)V"⟩, 5) := ⟨⟨by decide +kernel, by decide +kernel⟩, List.mem_of_getElem? (i := 598) (by decide +kernel), List.mem_of_getElem? (i := 636) (by decide +kernel), List.mem_of_getElem? (i := 637) (by decide +kernel)⟩
theorem lw_p30 : lw_okq (⟨"TreeTables$TextWriter", "firstWantedLeaf", "(I)I"⟩, 5) := ⟨⟨by decide +kernel, by decide +kernel⟩, List.mem_of_getElem? (i := 598) (by decide +kernel), List.mem_of_getElem? (i := 640) (by decide +kernel), List.mem_of_getElem? (i := 641) (by decide +kernel)⟩
theorem lw_p31 : lw_okq (⟨"TreeTables$TextWriter", "isWantedBelow", "(II)Z"⟩, 5) := ⟨⟨by decide +kernel, by decide +kernel⟩, List.mem_of_getElem? (i := 598) (by decide +kernel), List.mem_of_getElem? (i := 644) (by decide +kernel), List.mem_of_getElem? (i := 645) (by decide +kernel)⟩
def lw_privs_2 : List (MethodName × Nat) := [(⟨"TreeTables$Table", "grow", "()V"⟩, 9), (⟨"TreeTables$PaperReader", "readClose", "()Z"⟩, 8), (⟨"TreeTables$PaperReader", "readEntry", "()Z"⟩, 8), (⟨"TreeTables$PaperReader", "readValue", "(II)Z"⟩, 8), (⟨"TreeTables$PaperReader", "readNumber", "(II)Z"⟩, 8), (⟨"TreeTables$PaperReader", "readLetters", "(II)Z"⟩, 8), (⟨"TreeTables$PaperReader", "readOpen", "(II)Z"⟩, 8), (⟨"TreeTables", "forgetRows", "(I)V"⟩, 6), (⟨"TreeTables", "isPaper", "(I)Z"⟩, 6), (⟨"TreeTables$Table", "hasValueAhead", "(I)Z"⟩, 9), (⟨"TreeTables$Table", "countRuns", "([I)I"⟩, 9), (⟨"TreeTables$TextWriter", "wantedTable", "(I)LTreeTables$Table;"⟩, 5), (⟨"TreeTables$TextWriter", "writeParts", "(II)V"⟩, 5), (⟨"TreeTables$TextWriter", "writeField", "(II)V"⟩, 5), (⟨"TreeTables$TextWriter", "firstWantedLeaf", "(I)I"⟩, 5), (⟨"TreeTables$TextWriter", "isWantedBelow", "(II)Z"⟩, 5)]
theorem lw_r2 : ∀ q ∈ lw_privs_2, lw_okq q := List.forall_mem_cons.mpr ⟨lw_p16, List.forall_mem_cons.mpr ⟨lw_p17, List.forall_mem_cons.mpr ⟨lw_p18, List.forall_mem_cons.mpr ⟨lw_p19, List.forall_mem_cons.mpr ⟨lw_p20, List.forall_mem_cons.mpr ⟨lw_p21, List.forall_mem_cons.mpr ⟨lw_p22, List.forall_mem_cons.mpr ⟨lw_p23, List.forall_mem_cons.mpr ⟨lw_p24, List.forall_mem_cons.mpr ⟨lw_p25, List.forall_mem_cons.mpr ⟨lw_p26, List.forall_mem_cons.mpr ⟨lw_p27, List.forall_mem_cons.mpr ⟨lw_p28, List.forall_mem_cons.mpr ⟨lw_p29, List.forall_mem_cons.mpr ⟨lw_p30, List.forall_mem_cons.mpr ⟨lw_p31, fun _ h => absurd h List.not_mem_nil⟩⟩⟩⟩⟩⟩⟩⟩⟩⟩⟩⟩⟩⟩⟩⟩
theorem lw_p32 : lw_okq (⟨"TreeTables$TextWriter", "passLacking", "(I)V"⟩, 5) := ⟨⟨by decide +kernel, by decide +kernel⟩, List.mem_of_getElem? (i := 598) (by decide +kernel), List.mem_of_getElem? (i := 651) (by decide +kernel), List.mem_of_getElem? (i := 652) (by decide +kernel)⟩
theorem lw_p33 : lw_okq (⟨"TreeTables$TextWriter", "writeGroup", "(II)V"⟩, 5) := ⟨⟨by decide +kernel, by decide +kernel⟩, List.mem_of_getElem? (i := 598) (by decide +kernel), List.mem_of_getElem? (i := 667) (by decide +kernel), List.mem_of_getElem? (i := 668) (by decide +kernel)⟩
theorem lw_p34 : lw_okq (⟨"TreeTables$TextWriter", "writeLeaf", "(I)V"⟩, 5) := ⟨⟨by decide +kernel, by decide +kernel⟩, List.mem_of_getElem? (i := 598) (by decide +kernel), List.mem_of_getElem? (i := 671) (by decide +kernel), List.mem_of_getElem? (i := 672) (by decide +kernel)⟩
theorem lw_p35 : lw_okq (⟨"TreeTablesModel", "begins", "()V"⟩, 54) := ⟨⟨by decide +kernel, by decide +kernel⟩, List.mem_of_getElem? (i := 741) (by decide +kernel), List.mem_of_getElem? (i := 927) (by decide +kernel), List.mem_of_getElem? (i := 928) (by decide +kernel)⟩
theorem lw_p36 : lw_okq (⟨"TreeTablesModel", "readsShape", "()V"⟩, 54) := ⟨⟨by decide +kernel, by decide +kernel⟩, List.mem_of_getElem? (i := 741) (by decide +kernel), List.mem_of_getElem? (i := 931) (by decide +kernel), List.mem_of_getElem? (i := 932) (by decide +kernel)⟩
theorem lw_p37 : lw_okq (⟨"TreeTablesModel", "next", "()I"⟩, 54) := ⟨⟨by decide +kernel, by decide +kernel⟩, List.mem_of_getElem? (i := 741) (by decide +kernel), List.mem_of_getElem? (i := 935) (by decide +kernel), List.mem_of_getElem? (i := 936) (by decide +kernel)⟩
theorem lw_p38 : lw_okq (⟨"TreeTablesModel", "fail", "(II)V"⟩, 54) := ⟨⟨by decide +kernel, by decide +kernel⟩, List.mem_of_getElem? (i := 741) (by decide +kernel), List.mem_of_getElem? (i := 939) (by decide +kernel), List.mem_of_getElem? (i := 940) (by decide +kernel)⟩
theorem lw_p39 : lw_okq (⟨"TreeTablesModel", "marks", "(I)V"⟩, 54) := ⟨⟨by decide +kernel, by decide +kernel⟩, List.mem_of_getElem? (i := 741) (by decide +kernel), List.mem_of_getElem? (i := 943) (by decide +kernel), List.mem_of_getElem? (i := 944) (by decide +kernel)⟩
theorem lw_p40 : lw_okq (⟨"TreeTablesModel", "whole", "()J"⟩, 54) := ⟨⟨by decide +kernel, by decide +kernel⟩, List.mem_of_getElem? (i := 741) (by decide +kernel), List.mem_of_getElem? (i := 947) (by decide +kernel), List.mem_of_getElem? (i := 948) (by decide +kernel)⟩
theorem lw_p41 : lw_okq (⟨"TreeTablesModel", "sign", "(I)V"⟩, 54) := ⟨⟨by decide +kernel, by decide +kernel⟩, List.mem_of_getElem? (i := 741) (by decide +kernel), List.mem_of_getElem? (i := 955) (by decide +kernel), List.mem_of_getElem? (i := 956) (by decide +kernel)⟩
theorem lw_p42 : lw_okq (⟨"TreeTablesModel", "field", "()V"⟩, 54) := ⟨⟨by decide +kernel, by decide +kernel⟩, List.mem_of_getElem? (i := 741) (by decide +kernel), List.mem_of_getElem? (i := 959) (by decide +kernel), List.mem_of_getElem? (i := 960) (by decide +kernel)⟩
theorem lw_p43 : lw_okq (⟨"TreeTablesModel", "word", "()J"⟩, 54) := ⟨⟨by decide +kernel, by decide +kernel⟩, List.mem_of_getElem? (i := 741) (by decide +kernel), List.mem_of_getElem? (i := 963) (by decide +kernel), List.mem_of_getElem? (i := 964) (by decide +kernel)⟩
theorem lw_p44 : lw_okq (⟨"TreeTablesModel", "isOwn", "(J)Z"⟩, 54) := ⟨⟨by decide +kernel, by decide +kernel⟩, List.mem_of_getElem? (i := 741) (by decide +kernel), List.mem_of_getElem? (i := 967) (by decide +kernel), List.mem_of_getElem? (i := 968) (by decide +kernel)⟩
theorem lw_p45 : lw_okq (⟨"TreeTablesModel", "told", "()V"⟩, 54) := ⟨⟨by decide +kernel, by decide +kernel⟩, List.mem_of_getElem? (i := 741) (by decide +kernel), List.mem_of_getElem? (i := 971) (by decide +kernel), List.mem_of_getElem? (i := 972) (by decide +kernel)⟩
theorem lw_p46 : lw_okq (⟨"TreeTablesModel", "readsPaper", "()V"⟩, 54) := ⟨⟨by decide +kernel, by decide +kernel⟩, List.mem_of_getElem? (i := 741) (by decide +kernel), List.mem_of_getElem? (i := 979) (by decide +kernel), List.mem_of_getElem? (i := 980) (by decide +kernel)⟩
theorem lw_p47 : lw_okq (⟨"TreeTablesModel", "node", "(IIJ)I"⟩, 54) := ⟨⟨by decide +kernel, by decide +kernel⟩, List.mem_of_getElem? (i := 741) (by decide +kernel), List.mem_of_getElem? (i := 983) (by decide +kernel), List.mem_of_getElem? (i := 984) (by decide +kernel)⟩
def lw_privs_3 : List (MethodName × Nat) := [(⟨"TreeTables$TextWriter", "passLacking", "(I)V"⟩, 5), (⟨"TreeTables$TextWriter", "writeGroup", "(II)V"⟩, 5), (⟨"TreeTables$TextWriter", "writeLeaf", "(I)V"⟩, 5), (⟨"TreeTablesModel", "begins", "()V"⟩, 54), (⟨"TreeTablesModel", "readsShape", "()V"⟩, 54), (⟨"TreeTablesModel", "next", "()I"⟩, 54), (⟨"TreeTablesModel", "fail", "(II)V"⟩, 54), (⟨"TreeTablesModel", "marks", "(I)V"⟩, 54), (⟨"TreeTablesModel", "whole", "()J"⟩, 54), (⟨"TreeTablesModel", "sign", "(I)V"⟩, 54), (⟨"TreeTablesModel", "field", "()V"⟩, 54), (⟨"TreeTablesModel", "word", "()J"⟩, 54), (⟨"TreeTablesModel", "isOwn", "(J)Z"⟩, 54), (⟨"TreeTablesModel", "told", "()V"⟩, 54), (⟨"TreeTablesModel", "readsPaper", "()V"⟩, 54), (⟨"TreeTablesModel", "node", "(IIJ)I"⟩, 54)]
theorem lw_r3 : ∀ q ∈ lw_privs_3, lw_okq q := List.forall_mem_cons.mpr ⟨lw_p32, List.forall_mem_cons.mpr ⟨lw_p33, List.forall_mem_cons.mpr ⟨lw_p34, List.forall_mem_cons.mpr ⟨lw_p35, List.forall_mem_cons.mpr ⟨lw_p36, List.forall_mem_cons.mpr ⟨lw_p37, List.forall_mem_cons.mpr ⟨lw_p38, List.forall_mem_cons.mpr ⟨lw_p39, List.forall_mem_cons.mpr ⟨lw_p40, List.forall_mem_cons.mpr ⟨lw_p41, List.forall_mem_cons.mpr ⟨lw_p42, List.forall_mem_cons.mpr ⟨lw_p43, List.forall_mem_cons.mpr ⟨lw_p44, List.forall_mem_cons.mpr ⟨lw_p45, List.forall_mem_cons.mpr ⟨lw_p46, List.forall_mem_cons.mpr ⟨lw_p47, fun _ h => absurd h List.not_mem_nil⟩⟩⟩⟩⟩⟩⟩⟩⟩⟩⟩⟩⟩⟩⟩⟩
theorem lw_p48 : lw_okq (⟨"TreeTablesModel", "lacks", "(I)Z"⟩, 54) := ⟨⟨by decide +kernel, by decide +kernel⟩, List.mem_of_getElem? (i := 741) (by decide +kernel), List.mem_of_getElem? (i := 987) (by decide +kernel), List.mem_of_getElem? (i := 988) (by decide +kernel)⟩
theorem lw_p49 : lw_okq (⟨"TreeTablesModel", "hasNode", "(II)Z"⟩, 54) := ⟨⟨by decide +kernel, by decide +kernel⟩, List.mem_of_getElem? (i := 741) (by decide +kernel), List.mem_of_getElem? (i := 991) (by decide +kernel), List.mem_of_getElem? (i := 992) (by decide +kernel)⟩
theorem lw_p50 : lw_okq (⟨"TreeTablesModel", "entry", "()V"⟩, 54) := ⟨⟨by decide +kernel, by decide +kernel⟩, List.mem_of_getElem? (i := 741) (by decide +kernel), List.mem_of_getElem? (i := 995) (by decide +kernel), List.mem_of_getElem? (i := 996) (by decide +kernel)⟩
theorem lw_p51 : lw_okq (⟨"TreeTablesModel", "fieldOf", "(IJ)I"⟩, 54) := ⟨⟨by decide +kernel, by decide +kernel⟩, List.mem_of_getElem? (i := 741) (by decide +kernel), List.mem_of_getElem? (i := 999) (by decide +kernel), List.mem_of_getElem? (i := 1000) (by decide +kernel)⟩
theorem lw_p52 : lw_okq (⟨"TreeTablesModel", "number", "()J"⟩, 54) := ⟨⟨by decide +kernel, by decide +kernel⟩, List.mem_of_getElem? (i := 741) (by decide +kernel), List.mem_of_getElem? (i := 1006) (by decide +kernel), List.mem_of_getElem? (i := 1007) (by decide +kernel)⟩
theorem lw_p53 : lw_okq (⟨"TreeTablesModel", "isPaper", "(I)Z"⟩, 54) := ⟨⟨by decide +kernel, by decide +kernel⟩, List.mem_of_getElem? (i := 741) (by decide +kernel), List.mem_of_getElem? (i := 1020) (by decide +kernel), List.mem_of_getElem? (i := 1021) (by decide +kernel)⟩
theorem lw_p54 : lw_okq (⟨"TreeTablesModel", "isLeaf", "(I)Z"⟩, 54) := ⟨⟨by decide +kernel, by decide +kernel⟩, List.mem_of_getElem? (i := 741) (by decide +kernel), List.mem_of_getElem? (i := 1028) (by decide +kernel), List.mem_of_getElem? (i := 1029) (by decide +kernel)⟩
theorem lw_p55 : lw_okq (⟨"TreeTablesModel", "table", "(I)V"⟩, 54) := ⟨⟨by decide +kernel, by decide +kernel⟩, List.mem_of_getElem? (i := 741) (by decide +kernel), List.mem_of_getElem? (i := 1032) (by decide +kernel), List.mem_of_getElem? (i := 1033) (by decide +kernel)⟩
theorem lw_p56 : lw_okq (⟨"TreeTablesModel", "roadOf", "(I)V"⟩, 54) := ⟨⟨by decide +kernel, by decide +kernel⟩, List.mem_of_getElem? (i := 741) (by decide +kernel), List.mem_of_getElem? (i := 1036) (by decide +kernel), List.mem_of_getElem? (i := 1037) (by decide +kernel)⟩
theorem lw_p57 : lw_okq (⟨"TreeTablesModel", "steps", "(IIII)V"⟩, 54) := ⟨⟨by decide +kernel, by decide +kernel⟩, List.mem_of_getElem? (i := 741) (by decide +kernel), List.mem_of_getElem? (i := 1040) (by decide +kernel), List.mem_of_getElem? (i := 1041) (by decide +kernel)⟩
theorem lw_p58 : lw_okq (⟨"TreeTablesModel", "putsRow", "(IIZJI)V"⟩, 54) := ⟨⟨by decide +kernel, by decide +kernel⟩, List.mem_of_getElem? (i := 741) (by decide +kernel), List.mem_of_getElem? (i := 1044) (by decide +kernel), List.mem_of_getElem? (i := 1045) (by decide +kernel)⟩
theorem lw_p59 : lw_okq (⟨"TreeTablesModel", "manyUpTo", "(I)I"⟩, 54) := ⟨⟨by decide +kernel, by decide +kernel⟩, List.mem_of_getElem? (i := 741) (by decide +kernel), List.mem_of_getElem? (i := 1048) (by decide +kernel), List.mem_of_getElem? (i := 1049) (by decide +kernel)⟩
theorem lw_p60 : lw_okq (⟨"TreeTablesModel", "deepOf", "()I"⟩, 54) := ⟨⟨by decide +kernel, by decide +kernel⟩, List.mem_of_getElem? (i := 741) (by decide +kernel), List.mem_of_getElem? (i := 1052) (by decide +kernel), List.mem_of_getElem? (i := 1053) (by decide +kernel)⟩
theorem lw_p61 : lw_okq (⟨"TreeTablesModel", "values", "(Z)I"⟩, 54) := ⟨⟨by decide +kernel, by decide +kernel⟩, List.mem_of_getElem? (i := 741) (by decide +kernel), List.mem_of_getElem? (i := 1056) (by decide +kernel), List.mem_of_getElem? (i := 1057) (by decide +kernel)⟩
theorem lw_p62 : lw_okq (⟨"TreeTablesModel", "isFirstValue", "(I)Z"⟩, 54) := ⟨⟨by decide +kernel, by decide +kernel⟩, List.mem_of_getElem? (i := 741) (by decide +kernel), List.mem_of_getElem? (i := 1060) (by decide +kernel), List.mem_of_getElem? (i := 1061) (by decide +kernel)⟩
theorem lw_p63 : lw_okq (⟨"TreeTablesModel", "sizeOf", "()I"⟩, 54) := ⟨⟨by decide +kernel, by decide +kernel⟩, List.mem_of_getElem? (i := 741) (by decide +kernel), List.mem_of_getElem? (i := 1064) (by decide +kernel), List.mem_of_getElem? (i := 1065) (by decide +kernel)⟩
def lw_privs_4 : List (MethodName × Nat) := [(⟨"TreeTablesModel", "lacks", "(I)Z"⟩, 54), (⟨"TreeTablesModel", "hasNode", "(II)Z"⟩, 54), (⟨"TreeTablesModel", "entry", "()V"⟩, 54), (⟨"TreeTablesModel", "fieldOf", "(IJ)I"⟩, 54), (⟨"TreeTablesModel", "number", "()J"⟩, 54), (⟨"TreeTablesModel", "isPaper", "(I)Z"⟩, 54), (⟨"TreeTablesModel", "isLeaf", "(I)Z"⟩, 54), (⟨"TreeTablesModel", "table", "(I)V"⟩, 54), (⟨"TreeTablesModel", "roadOf", "(I)V"⟩, 54), (⟨"TreeTablesModel", "steps", "(IIII)V"⟩, 54), (⟨"TreeTablesModel", "putsRow", "(IIZJI)V"⟩, 54), (⟨"TreeTablesModel", "manyUpTo", "(I)I"⟩, 54), (⟨"TreeTablesModel", "deepOf", "()I"⟩, 54), (⟨"TreeTablesModel", "values", "(Z)I"⟩, 54), (⟨"TreeTablesModel", "isFirstValue", "(I)Z"⟩, 54), (⟨"TreeTablesModel", "sizeOf", "()I"⟩, 54)]
theorem lw_r4 : ∀ q ∈ lw_privs_4, lw_okq q := List.forall_mem_cons.mpr ⟨lw_p48, List.forall_mem_cons.mpr ⟨lw_p49, List.forall_mem_cons.mpr ⟨lw_p50, List.forall_mem_cons.mpr ⟨lw_p51, List.forall_mem_cons.mpr ⟨lw_p52, List.forall_mem_cons.mpr ⟨lw_p53, List.forall_mem_cons.mpr ⟨lw_p54, List.forall_mem_cons.mpr ⟨lw_p55, List.forall_mem_cons.mpr ⟨lw_p56, List.forall_mem_cons.mpr ⟨lw_p57, List.forall_mem_cons.mpr ⟨lw_p58, List.forall_mem_cons.mpr ⟨lw_p59, List.forall_mem_cons.mpr ⟨lw_p60, List.forall_mem_cons.mpr ⟨lw_p61, List.forall_mem_cons.mpr ⟨lw_p62, List.forall_mem_cons.mpr ⟨lw_p63, fun _ h => absurd h List.not_mem_nil⟩⟩⟩⟩⟩⟩⟩⟩⟩⟩⟩⟩⟩⟩⟩⟩
theorem lw_p64 : lw_okq (⟨"TreeTablesModel", "runs", "([I)I"⟩, 54) := ⟨⟨by decide +kernel, by decide +kernel⟩, List.mem_of_getElem? (i := 741) (by decide +kernel), List.mem_of_getElem? (i := 1068) (by decide +kernel), List.mem_of_getElem? (i := 1069) (by decide +kernel)⟩
theorem lw_p65 : lw_okq (⟨"TreeTablesModel", "isRow", "(II)Z"⟩, 54) := ⟨⟨by decide +kernel, by decide +kernel⟩, List.mem_of_getElem? (i := 741) (by decide +kernel), List.mem_of_getElem? (i := 1076) (by decide +kernel), List.mem_of_getElem? (i := 1077) (by decide +kernel)⟩
theorem lw_p66 : lw_okq (⟨"TreeTablesModel", "lays", "(I)V"⟩, 54) := ⟨⟨by decide +kernel, by decide +kernel⟩, List.mem_of_getElem? (i := 741) (by decide +kernel), List.mem_of_getElem? (i := 1088) (by decide +kernel), List.mem_of_getElem? (i := 1089) (by decide +kernel)⟩
theorem lw_p67 : lw_okq (⟨"TreeTablesModel", "laysWord", "(J)V"⟩, 54) := ⟨⟨by decide +kernel, by decide +kernel⟩, List.mem_of_getElem? (i := 741) (by decide +kernel), List.mem_of_getElem? (i := 1092) (by decide +kernel), List.mem_of_getElem? (i := 1093) (by decide +kernel)⟩
theorem lw_p68 : lw_okq (⟨"TreeTablesModel", "laysNumber", "(J)V"⟩, 54) := ⟨⟨by decide +kernel, by decide +kernel⟩, List.mem_of_getElem? (i := 741) (by decide +kernel), List.mem_of_getElem? (i := 1096) (by decide +kernel), List.mem_of_getElem? (i := 1097) (by decide +kernel)⟩
theorem lw_p69 : lw_okq (⟨"TreeTablesModel", "isOn", "(II)Z"⟩, 54) := ⟨⟨by decide +kernel, by decide +kernel⟩, List.mem_of_getElem? (i := 741) (by decide +kernel), List.mem_of_getElem? (i := 1120) (by decide +kernel), List.mem_of_getElem? (i := 1121) (by decide +kernel)⟩
theorem lw_p70 : lw_okq (⟨"TreeTablesModel", "has", "(IIIJ)Z"⟩, 54) := ⟨⟨by decide +kernel, by decide +kernel⟩, List.mem_of_getElem? (i := 741) (by decide +kernel), List.mem_of_getElem? (i := 1124) (by decide +kernel), List.mem_of_getElem? (i := 1125) (by decide +kernel)⟩
def lw_privs_5 : List (MethodName × Nat) := [(⟨"TreeTablesModel", "runs", "([I)I"⟩, 54), (⟨"TreeTablesModel", "isRow", "(II)Z"⟩, 54), (⟨"TreeTablesModel", "lays", "(I)V"⟩, 54), (⟨"TreeTablesModel", "laysWord", "(J)V"⟩, 54), (⟨"TreeTablesModel", "laysNumber", "(J)V"⟩, 54), (⟨"TreeTablesModel", "isOn", "(II)Z"⟩, 54), (⟨"TreeTablesModel", "has", "(IIIJ)Z"⟩, 54)]
theorem lw_r5 : ∀ q ∈ lw_privs_5, lw_okq q := List.forall_mem_cons.mpr ⟨lw_p64, List.forall_mem_cons.mpr ⟨lw_p65, List.forall_mem_cons.mpr ⟨lw_p66, List.forall_mem_cons.mpr ⟨lw_p67, List.forall_mem_cons.mpr ⟨lw_p68, List.forall_mem_cons.mpr ⟨lw_p69, List.forall_mem_cons.mpr ⟨lw_p70, fun _ h => absurd h List.not_mem_nil⟩⟩⟩⟩⟩⟩⟩
def lw_privs : List (MethodName × Nat) := lw_privs_1 ++ (lw_privs_2 ++ (lw_privs_3 ++ (lw_privs_4 ++ (lw_privs_5))))
def lw_tbl : List Cond := k2_sels lw_privs ++ tables_1
theorem lw_privs_ok : ∀ q ∈ lw_privs, lw_okq q := by
  show ∀ q ∈ lw_privs_1 ++ (lw_privs_2 ++ (lw_privs_3 ++ (lw_privs_4 ++ (lw_privs_5)))), lw_okq q
  exact List.forall_mem_append.mpr ⟨lw_r1, List.forall_mem_append.mpr ⟨lw_r2, List.forall_mem_append.mpr ⟨lw_r3, List.forall_mem_append.mpr ⟨lw_r4, lw_r5⟩⟩⟩⟩
def RX0 : String := "TreeTables$PaperReader"
def TX0 : u_T := fun k => match k with
  | 0 => ("TreeTables$PaperReader", "tape", "LTreeTables$Tape;", true)
  | 1 => ("TreeTables$PaperReader", "shape", "LTreeTables$Shape;", true)
  | 2 => ("TreeTables$PaperReader", "tables", "[LTreeTables$Table;", true)
  | 3 => ("TreeTables$PaperReader", "paper", "I", true)
  | 4 => ("TreeTables$PaperReader", "there", "[Z", true)
  | 5 => ("TreeTables$PaperReader", "levels", "[I", true)
  | 6 => ("TreeTables$PaperReader", "open", "I", false)
  | _ => ("TreeTables$PaperReader", "depth", "I", false)
def tyX0 : Nat → FieldType := fun k => match k with
  | 0 => .object "TreeTables$Tape"
  | 1 => .object "TreeTables$Shape"
  | 2 => .array (.object "TreeTables$Table")
  | 3 => .int
  | 4 => .array .boolean
  | 5 => .array .int
  | 6 => .int
  | _ => .int
abbrev wsX00 : List Cond := u_ws RX0 TX0 8
theorem nmX0 : ∀ a, a < 8 → ∀ b, b < 8 → a ≠ b → (TX0 a).2.1 ≠ (TX0 b).2.1 := by decide +kernel
theorem tyX0_ok : ∀ k, k < 8 → parseFieldDescriptor (TX0 k).2.2.1 = some (tyX0 k) := by decide +kernel
abbrev cX0_init : ByteArray := prog_2_method_1_code
def yX0_init : MethodName := ⟨RX0, "<init>", "(LTreeTables$Tape;LTreeTables$Shape;[LTreeTables$Table;I)V"⟩
abbrev cX0_readAll : ByteArray := prog_2_method_2_code
def yX0_readAll : MethodName := ⟨RX0, "readAll", "()Z"⟩
abbrev cX0_readPart : ByteArray := prog_2_method_3_code
def yX0_readPart : MethodName := ⟨RX0, "readPart", "()Z"⟩
abbrev cX0_readEnd : ByteArray := prog_2_method_4_code
def yX0_readEnd : MethodName := ⟨RX0, "readEnd", "()Z"⟩
abbrev cX0_readClose : ByteArray := prog_2_method_5_code
def yX0_readClose : MethodName := ⟨RX0, "readClose", "()Z"⟩
abbrev cX0_readEntry : ByteArray := prog_2_method_6_code
def yX0_readEntry : MethodName := ⟨RX0, "readEntry", "()Z"⟩
abbrev cX0_kindBegunBy : ByteArray := prog_2_method_7_code
def yX0_kindBegunBy : MethodName := ⟨RX0, "kindBegunBy", "(I)I"⟩
abbrev cX0_readValue : ByteArray := prog_2_method_8_code
def yX0_readValue : MethodName := ⟨RX0, "readValue", "(II)Z"⟩
abbrev cX0_readNumber : ByteArray := prog_2_method_9_code
def yX0_readNumber : MethodName := ⟨RX0, "readNumber", "(II)Z"⟩
abbrev cX0_readLetters : ByteArray := prog_2_method_10_code
def yX0_readLetters : MethodName := ⟨RX0, "readLetters", "(II)Z"⟩
abbrev cX0_readOpen : ByteArray := prog_2_method_11_code
def yX0_readOpen : MethodName := ⟨RX0, "readOpen", "(II)Z"⟩
abbrev cX0_levelHere : ByteArray := prog_2_method_12_code
def yX0_levelHere : MethodName := ⟨RX0, "levelHere", "()I"⟩
abbrev cX0_layLacking : ByteArray := prog_2_method_13_code
def yX0_layLacking : MethodName := ⟨RX0, "layLacking", "()Z"⟩
abbrev cX0_layLackingLeaves : ByteArray := prog_2_method_14_code
def yX0_layLackingLeaves : MethodName := ⟨RX0, "layLackingLeaves", "(I)V"⟩
abbrev cX0_lay : ByteArray := prog_2_method_15_code
def yX0_lay : MethodName := ⟨RX0, "lay", "(IIIJ)V"⟩
def RX1 : String := "TreeTables$Shape"
def TX1 : u_T := fun k => match k with
  | 0 => ("TreeTables$Shape", "names", "[J", true)
  | 1 => ("TreeTables$Shape", "kinds", "[I", true)
  | 2 => ("TreeTables$Shape", "marks", "[I", true)
  | 3 => ("TreeTables$Shape", "holders", "[I", true)
  | 4 => ("TreeTables$Shape", "ends", "[I", true)
  | 5 => ("TreeTables$Shape", "deep", "[I", true)
  | 6 => ("TreeTables$Shape", "again", "[I", true)
  | 7 => ("TreeTables$Shape", "groupsOn", "[I", true)
  | 8 => ("TreeTables$Shape", "leafOf", "[I", true)
  | 9 => ("TreeTables$Shape", "leafFields", "[I", true)
  | 10 => ("TreeTables$Shape", "fields", "I", false)
  | _ => ("TreeTables$Shape", "leaves", "I", false)
def tyX1 : Nat → FieldType := fun k => match k with
  | 0 => .array .long
  | 1 => .array .int
  | 2 => .array .int
  | 3 => .array .int
  | 4 => .array .int
  | 5 => .array .int
  | 6 => .array .int
  | 7 => .array .int
  | 8 => .array .int
  | 9 => .array .int
  | 10 => .int
  | _ => .int
abbrev wsX10 : List Cond := u_ws RX1 TX1 12
theorem nmX1 : ∀ a, a < 12 → ∀ b, b < 12 → a ≠ b → (TX1 a).2.1 ≠ (TX1 b).2.1 := by decide +kernel
theorem tyX1_ok : ∀ k, k < 12 → parseFieldDescriptor (TX1 k).2.2.1 = some (tyX1 k) := by decide +kernel
abbrev cX1_init : ByteArray := prog_3_method_1_code
def yX1_init : MethodName := ⟨RX1, "<init>", "()V"⟩
abbrev cX1_clear : ByteArray := prog_3_method_2_code
def yX1_clear : MethodName := ⟨RX1, "clear", "()V"⟩
abbrev cX1_isField : ByteArray := prog_3_method_3_code
def yX1_isField : MethodName := ⟨RX1, "isField", "(I)Z"⟩
abbrev cX1_fieldOfLeaf : ByteArray := prog_3_method_4_code
def yX1_fieldOfLeaf : MethodName := ⟨RX1, "fieldOfLeaf", "(I)I"⟩
abbrev cX1_add : ByteArray := prog_3_method_5_code
def yX1_add : MethodName := ⟨RX1, "add", "(JI)I"⟩
abbrev cX1_makeLeaf : ByteArray := prog_3_method_6_code
def yX1_makeLeaf : MethodName := ⟨RX1, "makeLeaf", "(II)Z"⟩
abbrev cX1_find : ByteArray := prog_3_method_7_code
def yX1_find : MethodName := ⟨RX1, "find", "(IJ)I"⟩
abbrev cX1_measure : ByteArray := prog_3_method_8_code
def yX1_measure : MethodName := ⟨RX1, "measure", "()V"⟩
abbrev cX1_deepUpTo : ByteArray := prog_3_method_9_code
def yX1_deepUpTo : MethodName := ⟨RX1, "deepUpTo", "(I)I"⟩
abbrev cX1_isOnRoad : ByteArray := prog_3_method_10_code
def yX1_isOnRoad : MethodName := ⟨RX1, "isOnRoad", "(II)Z"⟩
abbrev cX1_sharedMany : ByteArray := prog_3_method_11_code
def yX1_sharedMany : MethodName := ⟨RX1, "sharedMany", "(II)I"⟩
def RX2 : String := "TreeTables$ShapeReader"
def TX2 : u_T := fun k => match k with
  | 0 => ("TreeTables$ShapeReader", "tape", "LTreeTables$Tape;", true)
  | 1 => ("TreeTables$ShapeReader", "shape", "LTreeTables$Shape;", true)
  | 2 => ("TreeTables$ShapeReader", "open", "I", false)
  | _ => ("TreeTables$ShapeReader", "depth", "I", false)
def tyX2 : Nat → FieldType := fun k => match k with
  | 0 => .object "TreeTables$Tape"
  | 1 => .object "TreeTables$Shape"
  | 2 => .int
  | _ => .int
abbrev wsX20 : List Cond := u_ws RX2 TX2 4
theorem nmX2 : ∀ a, a < 4 → ∀ b, b < 4 → a ≠ b → (TX2 a).2.1 ≠ (TX2 b).2.1 := by decide +kernel
theorem tyX2_ok : ∀ k, k < 4 → parseFieldDescriptor (TX2 k).2.2.1 = some (tyX2 k) := by decide +kernel
abbrev cX2_init : ByteArray := prog_4_method_1_code
def yX2_init : MethodName := ⟨RX2, "<init>", "(LTreeTables$Tape;LTreeTables$Shape;)V"⟩
abbrev cX2_readAll : ByteArray := prog_4_method_2_code
def yX2_readAll : MethodName := ⟨RX2, "readAll", "()Z"⟩
abbrev cX2_readPart : ByteArray := prog_4_method_3_code
def yX2_readPart : MethodName := ⟨RX2, "readPart", "()Z"⟩
abbrev cX2_readEnd : ByteArray := prog_4_method_4_code
def yX2_readEnd : MethodName := ⟨RX2, "readEnd", "()Z"⟩
abbrev cX2_readClose : ByteArray := prog_4_method_5_code
def yX2_readClose : MethodName := ⟨RX2, "readClose", "()Z"⟩
abbrev cX2_readField : ByteArray := prog_4_method_6_code
def yX2_readField : MethodName := ⟨RX2, "readField", "()Z"⟩
abbrev cX2_readName : ByteArray := prog_4_method_7_code
def yX2_readName : MethodName := ⟨RX2, "readName", "()Z"⟩
abbrev cX2_readOpen : ByteArray := prog_4_method_8_code
def yX2_readOpen : MethodName := ⟨RX2, "readOpen", "(I)Z"⟩
abbrev cX2_readLeaf : ByteArray := prog_4_method_9_code
def yX2_readLeaf : MethodName := ⟨RX2, "readLeaf", "(I)Z"⟩
abbrev cX2_readMark : ByteArray := prog_4_method_10_code
def yX2_readMark : MethodName := ⟨RX2, "readMark", "(I)Z"⟩
abbrev cX2_markOf : ByteArray := prog_4_method_11_code
def yX2_markOf : MethodName := ⟨RX2, "markOf", "(J)I"⟩
abbrev cX2_isKeyWord : ByteArray := prog_4_method_12_code
def yX2_isKeyWord : MethodName := ⟨RX2, "isKeyWord", "(J)Z"⟩
def RX3 : String := "TreeTables$Table"
def TX3 : u_T := fun k => match k with
  | 0 => ("TreeTables$Table", "levels", "[I", false)
  | 1 => ("TreeTables$Table", "tolds", "[I", false)
  | 2 => ("TreeTables$Table", "paperOf", "[I", false)
  | 3 => ("TreeTables$Table", "values", "[J", false)
  | 4 => ("TreeTables$Table", "count", "I", false)
  | 5 => ("TreeTables$Table", "deep", "I", false)
  | 6 => ("TreeTables$Table", "again", "I", false)
  | 7 => ("TreeTables$Table", "isNum", "Z", false)
  | _ => ("TreeTables$Table", "groups", "I", false)
def tyX3 : Nat → FieldType := fun k => match k with
  | 0 => .array .int
  | 1 => .array .int
  | 2 => .array .int
  | 3 => .array .long
  | 4 => .int
  | 5 => .int
  | 6 => .int
  | 7 => .boolean
  | _ => .int
abbrev wsX30 : List Cond := u_ws RX3 TX3 9
theorem nmX3 : ∀ a, a < 9 → ∀ b, b < 9 → a ≠ b → (TX3 a).2.1 ≠ (TX3 b).2.1 := by decide +kernel
theorem tyX3_ok : ∀ k, k < 9 → parseFieldDescriptor (TX3 k).2.2.1 = some (tyX3 k) := by decide +kernel
abbrev cX3_init : ByteArray := prog_5_method_1_code
def yX3_init : MethodName := ⟨RX3, "<init>", "()V"⟩
abbrev cX3_begin : ByteArray := prog_5_method_2_code
def yX3_begin : MethodName := ⟨RX3, "begin", "(IIZI)V"⟩
abbrev cX3_add : ByteArray := prog_5_method_3_code
def yX3_add : MethodName := ⟨RX3, "add", "(IIIJ)V"⟩
abbrev cX3_grow : ByteArray := prog_5_method_4_code
def yX3_grow : MethodName := ⟨RX3, "grow", "()V"⟩
abbrev cX3_forget : ByteArray := prog_5_method_5_code
def yX3_forget : MethodName := ⟨RX3, "forget", "(I)V"⟩
abbrev cX3_isRow : ByteArray := prog_5_method_6_code
def yX3_isRow : MethodName := ⟨RX3, "isRow", "(I)Z"⟩
abbrev cX3_hasValue : ByteArray := prog_5_method_7_code
def yX3_hasValue : MethodName := ⟨RX3, "hasValue", "(I)Z"⟩
abbrev cX3_hasLevel : ByteArray := prog_5_method_8_code
def yX3_hasLevel : MethodName := ⟨RX3, "hasLevel", "(II)Z"⟩
abbrev cX3_hasValueWithin : ByteArray := prog_5_method_9_code
def yX3_hasValueWithin : MethodName := ⟨RX3, "hasValueWithin", "(IJJ)Z"⟩
abbrev cX3_firstRowOf : ByteArray := prog_5_method_10_code
def yX3_firstRowOf : MethodName := ⟨RX3, "firstRowOf", "(I)I"⟩
abbrev cX3_countValues : ByteArray := prog_5_method_11_code
def yX3_countValues : MethodName := ⟨RX3, "countValues", "()I"⟩
abbrev cX3_countUnlike : ByteArray := prog_5_method_12_code
def yX3_countUnlike : MethodName := ⟨RX3, "countUnlike", "()I"⟩
abbrev cX3_hasValueAhead : ByteArray := prog_5_method_13_code
def yX3_hasValueAhead : MethodName := ⟨RX3, "hasValueAhead", "(I)Z"⟩
abbrev cX3_measureSize : ByteArray := prog_5_method_14_code
def yX3_measureSize : MethodName := ⟨RX3, "measureSize", "()I"⟩
abbrev cX3_countRuns : ByteArray := prog_5_method_15_code
def yX3_countRuns : MethodName := ⟨RX3, "countRuns", "([I)I"⟩
abbrev cX3_stretchEnd : ByteArray := prog_5_method_16_code
def yX3_stretchEnd : MethodName := ⟨RX3, "stretchEnd", "(II)I"⟩
abbrev cX3_holdsInStretch : ByteArray := prog_5_method_17_code
def yX3_holdsInStretch : MethodName := ⟨RX3, "holdsInStretch", "(IIJ)Z"⟩
def RX4 : String := "TreeTables$Tape"
def TX4 : u_T := fun k => match k with
  | 0 => ("TreeTables$Tape", "bytes", "[B", true)
  | 1 => ("TreeTables$Tape", "length", "I", false)
  | 2 => ("TreeTables$Tape", "place", "I", false)
  | 3 => ("TreeTables$Tape", "flaw", "I", false)
  | 4 => ("TreeTables$Tape", "flawPlace", "I", false)
  | 5 => ("TreeTables$Tape", "wordStart", "I", false)
  | 6 => ("TreeTables$Tape", "wordLength", "I", false)
  | _ => ("TreeTables$Tape", "wordCode", "J", false)
def tyX4 : Nat → FieldType := fun k => match k with
  | 0 => .array .byte
  | 1 => .int
  | 2 => .int
  | 3 => .int
  | 4 => .int
  | 5 => .int
  | 6 => .int
  | _ => .long
abbrev wsX40 : List Cond := u_ws RX4 TX4 8
theorem nmX4 : ∀ a, a < 8 → ∀ b, b < 8 → a ≠ b → (TX4 a).2.1 ≠ (TX4 b).2.1 := by decide +kernel
theorem tyX4_ok : ∀ k, k < 8 → parseFieldDescriptor (TX4 k).2.2.1 = some (tyX4 k) := by decide +kernel
abbrev cX4_init : ByteArray := prog_6_method_1_code
def yX4_init : MethodName := ⟨RX4, "<init>", "()V"⟩
abbrev cX4_put : ByteArray := prog_6_method_2_code
def yX4_put : MethodName := ⟨RX4, "put", "(I)V"⟩
abbrev cX4_begin : ByteArray := prog_6_method_3_code
def yX4_begin : MethodName := ⟨RX4, "begin", "()V"⟩
abbrev cX4_fail : ByteArray := prog_6_method_4_code
def yX4_fail : MethodName := ⟨RX4, "fail", "(II)Z"⟩
abbrev cX4_failHere : ByteArray := prog_6_method_5_code
def yX4_failHere : MethodName := ⟨RX4, "failHere", "(I)Z"⟩
abbrev cX4_here : ByteArray := prog_6_method_6_code
def yX4_here : MethodName := ⟨RX4, "here", "()I"⟩
abbrev cX4_next : ByteArray := prog_6_method_7_code
def yX4_next : MethodName := ⟨RX4, "next", "()I"⟩
abbrev cX4_pass : ByteArray := prog_6_method_8_code
def yX4_pass : MethodName := ⟨RX4, "pass", "(I)Z"⟩
abbrev cX4_readWord : ByteArray := prog_6_method_9_code
def yX4_readWord : MethodName := ⟨RX4, "readWord", "()V"⟩
abbrev cX4_failAtLetterTooMany : ByteArray := prog_6_method_10_code
def yX4_failAtLetterTooMany : MethodName := ⟨RX4, "failAtLetterTooMany", "()Z"⟩
def RX5 : String := "TreeTables$Text"
def TX5 : u_T := fun k => match k with
  | 0 => ("TreeTables$Text", "bytes", "[B", true)
  | _ => ("TreeTables$Text", "length", "I", false)
def tyX5 : Nat → FieldType := fun k => match k with
  | 0 => .array .byte
  | _ => .int
abbrev wsX50 : List Cond := u_ws RX5 TX5 2
theorem nmX5 : ∀ a, a < 2 → ∀ b, b < 2 → a ≠ b → (TX5 a).2.1 ≠ (TX5 b).2.1 := by decide +kernel
theorem tyX5_ok : ∀ k, k < 2 → parseFieldDescriptor (TX5 k).2.2.1 = some (tyX5 k) := by decide +kernel
abbrev cX5_init : ByteArray := prog_7_method_1_code
def yX5_init : MethodName := ⟨RX5, "<init>", "()V"⟩
abbrev cX5_byteAt : ByteArray := prog_7_method_2_code
def yX5_byteAt : MethodName := ⟨RX5, "byteAt", "(I)I"⟩
abbrev cX5_put : ByteArray := prog_7_method_3_code
def yX5_put : MethodName := ⟨RX5, "put", "(I)V"⟩
abbrev cX5_putWord : ByteArray := prog_7_method_4_code
def yX5_putWord : MethodName := ⟨RX5, "putWord", "(J)V"⟩
abbrev cX5_putNumber : ByteArray := prog_7_method_5_code
def yX5_putNumber : MethodName := ⟨RX5, "putNumber", "(J)V"⟩
def RX6 : String := "TreeTables$TextWriter"
def TX6 : u_T := fun k => match k with
  | 0 => ("TreeTables$TextWriter", "shape", "LTreeTables$Shape;", true)
  | 1 => ("TreeTables$TextWriter", "tables", "[LTreeTables$Table;", true)
  | 2 => ("TreeTables$TextWriter", "bits", "I", true)
  | 3 => ("TreeTables$TextWriter", "out", "LTreeTables$Text;", true)
  | _ => ("TreeTables$TextWriter", "inHand", "[I", true)
def tyX6 : Nat → FieldType := fun k => match k with
  | 0 => .object "TreeTables$Shape"
  | 1 => .array (.object "TreeTables$Table")
  | 2 => .int
  | 3 => .object "TreeTables$Text"
  | _ => .array .int
abbrev wsX60 : List Cond := u_ws RX6 TX6 5
theorem nmX6 : ∀ a, a < 5 → ∀ b, b < 5 → a ≠ b → (TX6 a).2.1 ≠ (TX6 b).2.1 := by decide +kernel
theorem tyX6_ok : ∀ k, k < 5 → parseFieldDescriptor (TX6 k).2.2.1 = some (tyX6 k) := by decide +kernel
abbrev cX6_init : ByteArray := prog_8_method_1_code
def yX6_init : MethodName := ⟨RX6, "<init>", "(LTreeTables$Shape;[LTreeTables$Table;ILTreeTables$Text;)V"⟩
abbrev cX6_writeAll : ByteArray := prog_8_method_2_code
def yX6_writeAll : MethodName := ⟨RX6, "writeAll", "(I)V"⟩
abbrev cX6_wantedTable : ByteArray := prog_8_method_3_code
def yX6_wantedTable : MethodName := ⟨RX6, "wantedTable", "(I)LTreeTables$Table;"⟩
abbrev cX6_writeParts : ByteArray := prog_8_method_4_code
def yX6_writeParts : MethodName := ⟨RX6, "writeParts", "(II)V"⟩
abbrev cX6_writeField : ByteArray := prog_8_method_5_code
def yX6_writeField : MethodName := ⟨RX6, "writeField", "(II)V"⟩
abbrev cX6_writeGroup : ByteArray := prog_8_method_6_code
def yX6_writeGroup : MethodName := ⟨RX6, "writeGroup", "(II)V"⟩
abbrev cX6_writeLeaf : ByteArray := prog_8_method_7_code
def yX6_writeLeaf : MethodName := ⟨RX6, "writeLeaf", "(I)V"⟩
abbrev cX6_firstWantedLeaf : ByteArray := prog_8_method_8_code
def yX6_firstWantedLeaf : MethodName := ⟨RX6, "firstWantedLeaf", "(I)I"⟩
abbrev cX6_passLacking : ByteArray := prog_8_method_9_code
def yX6_passLacking : MethodName := ⟨RX6, "passLacking", "(I)V"⟩
abbrev cX6_isWantedBelow : ByteArray := prog_8_method_10_code
def yX6_isWantedBelow : MethodName := ⟨RX6, "isWantedBelow", "(II)Z"⟩
def RX7 : String := "TreeTables"
def TX7 : u_T := fun k => match k with
  | 0 => ("TreeTables", "tape", "LTreeTables$Tape;", true)
  | 1 => ("TreeTables", "tables", "[LTreeTables$Table;", true)
  | 2 => ("TreeTables", "latestText", "LTreeTables$Text;", true)
  | 3 => ("TreeTables", "current", "LTreeTables$Shape;", false)
  | 4 => ("TreeTables", "spare", "LTreeTables$Shape;", false)
  | _ => ("TreeTables", "paperCount", "I", false)
def tyX7 : Nat → FieldType := fun k => match k with
  | 0 => .object "TreeTables$Tape"
  | 1 => .array (.object "TreeTables$Table")
  | 2 => .object "TreeTables$Text"
  | 3 => .object "TreeTables$Shape"
  | 4 => .object "TreeTables$Shape"
  | _ => .int
abbrev wsX70 : List Cond := u_ws RX7 TX7 6
theorem nmX7 : ∀ a, a < 6 → ∀ b, b < 6 → a ≠ b → (TX7 a).2.1 ≠ (TX7 b).2.1 := by decide +kernel
theorem tyX7_ok : ∀ k, k < 6 → parseFieldDescriptor (TX7 k).2.2.1 = some (tyX7 k) := by decide +kernel
abbrev cX7_init : ByteArray := prog_1_method_1_code
def yX7_init : MethodName := ⟨RX7, "<init>", "()V"⟩
abbrev cX7_feed : ByteArray := prog_1_method_2_code
def yX7_feed : MethodName := ⟨RX7, "feed", "(IIIII)I"⟩
abbrev cX7_end : ByteArray := prog_1_method_3_code
def yX7_end : MethodName := ⟨RX7, "end", "(I)Z"⟩
abbrev cX7_shape : ByteArray := prog_1_method_4_code
def yX7_shape : MethodName := ⟨RX7, "shape", "()I"⟩
abbrev cX7_paper : ByteArray := prog_1_method_5_code
def yX7_paper : MethodName := ⟨RX7, "paper", "()I"⟩
abbrev cX7_fault : ByteArray := prog_1_method_6_code
def yX7_fault : MethodName := ⟨RX7, "fault", "(I)I"⟩
abbrev cX7_drop : ByteArray := prog_1_method_7_code
def yX7_drop : MethodName := ⟨RX7, "drop", "(I)I"⟩
abbrev cX7_leaf : ByteArray := prog_1_method_8_code
def yX7_leaf : MethodName := ⟨RX7, "leaf", "(II)I"⟩
abbrev cX7_row : ByteArray := prog_1_method_9_code
def yX7_row : MethodName := ⟨RX7, "row", "(III)I"⟩
abbrev cX7_value : ByteArray := prog_1_method_10_code
def yX7_value : MethodName := ⟨RX7, "value", "(II)J"⟩
abbrev cX7_text : ByteArray := prog_1_method_11_code
def yX7_text : MethodName := ⟨RX7, "text", "(II)I"⟩
abbrev cX7_at : ByteArray := prog_1_method_12_code
def yX7_at : MethodName := ⟨RX7, "at", "(I)I"⟩
abbrev cX7_among : ByteArray := prog_1_method_13_code
def yX7_among : MethodName := ⟨RX7, "among", "(IJJ)I"⟩
abbrev cX7_papers : ByteArray := prog_1_method_14_code
def yX7_papers : MethodName := ⟨RX7, "papers", "(IJJ)I"⟩
abbrev cX7_sum : ByteArray := prog_1_method_15_code
def yX7_sum : MethodName := ⟨RX7, "sum", "(II)J"⟩
abbrev cX7_both : ByteArray := prog_1_method_16_code
def yX7_both : MethodName := ⟨RX7, "both", "(IJIJ)I"⟩
abbrev cX7_rows : ByteArray := prog_1_method_17_code
def yX7_rows : MethodName := ⟨RX7, "rows", "(III)I"⟩
abbrev cX7_isPaper : ByteArray := prog_1_method_18_code
def yX7_isPaper : MethodName := ⟨RX7, "isPaper", "(I)Z"⟩
abbrev cX7_tableOf : ByteArray := prog_1_method_19_code
def yX7_tableOf : MethodName := ⟨RX7, "tableOf", "(I)LTreeTables$Table;"⟩
abbrev cX7_beginTable : ByteArray := prog_1_method_20_code
def yX7_beginTable : MethodName := ⟨RX7, "beginTable", "(I)V"⟩
abbrev cX7_forgetRows : ByteArray := prog_1_method_21_code
def yX7_forgetRows : MethodName := ⟨RX7, "forgetRows", "(I)V"⟩
abbrev cX7_isLetter : ByteArray := prog_1_method_22_code
def yX7_isLetter : MethodName := ⟨RX7, "isLetter", "(I)Z"⟩
abbrev cX7_isDigit : ByteArray := prog_1_method_23_code
def yX7_isDigit : MethodName := ⟨RX7, "isDigit", "(I)Z"⟩
def RX8 : String := "TreeTablesModel"
def TX8 : u_T := fun k => match k with
  | 0 => ("TreeTablesModel", "tape", "[I", true)
  | 1 => ("TreeTablesModel", "taped", "I", false)
  | 2 => ("TreeTablesModel", "at", "I", false)
  | 3 => ("TreeTablesModel", "size", "I", false)
  | 4 => ("TreeTablesModel", "bad", "I", false)
  | 5 => ("TreeTablesModel", "badPlace", "I", false)
  | 6 => ("TreeTablesModel", "fault", "I", false)
  | 7 => ("TreeTablesModel", "faultPlace", "I", false)
  | 8 => ("TreeTablesModel", "numWord", "J", true)
  | 9 => ("TreeTablesModel", "wordWord", "J", true)
  | 10 => ("TreeTablesModel", "oneWord", "J", true)
  | 11 => ("TreeTablesModel", "optWord", "J", true)
  | 12 => ("TreeTablesModel", "manyWord", "J", true)
  | 13 => ("TreeTablesModel", "hasShape", "Z", false)
  | 14 => ("TreeTablesModel", "fields", "I", false)
  | 15 => ("TreeTablesModel", "leaves", "I", false)
  | 16 => ("TreeTablesModel", "within", "[I", true)
  | 17 => ("TreeTablesModel", "name", "[J", true)
  | 18 => ("TreeTablesModel", "kind", "[I", true)
  | 19 => ("TreeTablesModel", "mark", "[I", true)
  | 20 => ("TreeTablesModel", "leafField", "[I", true)
  | 21 => ("TreeTablesModel", "newFields", "I", false)
  | 22 => ("TreeTablesModel", "newLeaves", "I", false)
  | 23 => ("TreeTablesModel", "newWithin", "[I", true)
  | 24 => ("TreeTablesModel", "newName", "[J", true)
  | 25 => ("TreeTablesModel", "newKind", "[I", true)
  | 26 => ("TreeTablesModel", "newMark", "[I", true)
  | 27 => ("TreeTablesModel", "newLeaf", "[I", true)
  | 28 => ("TreeTablesModel", "open", "[I", true)
  | 29 => ("TreeTablesModel", "openMany", "[I", true)
  | 30 => ("TreeTablesModel", "deep", "I", false)
  | 31 => ("TreeTablesModel", "papers", "I", false)
  | 32 => ("TreeTablesModel", "from", "[I", true)
  | 33 => ("TreeTablesModel", "nodeField", "[I", true)
  | 34 => ("TreeTablesModel", "nodeIn", "[I", true)
  | 35 => ("TreeTablesModel", "nodeValue", "[J", true)
  | 36 => ("TreeTablesModel", "nodes", "I", false)
  | 37 => ("TreeTablesModel", "roads", "I", false)
  | 38 => ("TreeTablesModel", "road", "[I", true)
  | 39 => ("TreeTablesModel", "rows", "I", false)
  | 40 => ("TreeTablesModel", "rowLevel", "[I", true)
  | 41 => ("TreeTablesModel", "rowTold", "[I", true)
  | 42 => ("TreeTablesModel", "rowHas", "[Z", true)
  | 43 => ("TreeTablesModel", "rowValue", "[J", true)
  | 44 => ("TreeTablesModel", "rowPaper", "[I", true)
  | 45 => ("TreeTablesModel", "inNode", "[I", true)
  | 46 => ("TreeTablesModel", "look", "[I", true)
  | 47 => ("TreeTablesModel", "seen", "[I", true)
  | 48 => ("TreeTablesModel", "tells", "[I", true)
  | 49 => ("TreeTablesModel", "comes", "[I", true)
  | 50 => ("TreeTablesModel", "textMany", "I", false)
  | 51 => ("TreeTablesModel", "textByte", "[I", true)
  | 52 => ("TreeTablesModel", "isWanted", "[Z", true)
  | _ => ("TreeTablesModel", "nowField", "[I", true)
def tyX8 : Nat → FieldType := fun k => match k with
  | 0 => .array .int
  | 1 => .int
  | 2 => .int
  | 3 => .int
  | 4 => .int
  | 5 => .int
  | 6 => .int
  | 7 => .int
  | 8 => .long
  | 9 => .long
  | 10 => .long
  | 11 => .long
  | 12 => .long
  | 13 => .boolean
  | 14 => .int
  | 15 => .int
  | 16 => .array .int
  | 17 => .array .long
  | 18 => .array .int
  | 19 => .array .int
  | 20 => .array .int
  | 21 => .int
  | 22 => .int
  | 23 => .array .int
  | 24 => .array .long
  | 25 => .array .int
  | 26 => .array .int
  | 27 => .array .int
  | 28 => .array .int
  | 29 => .array .int
  | 30 => .int
  | 31 => .int
  | 32 => .array .int
  | 33 => .array .int
  | 34 => .array .int
  | 35 => .array .long
  | 36 => .int
  | 37 => .int
  | 38 => .array .int
  | 39 => .int
  | 40 => .array .int
  | 41 => .array .int
  | 42 => .array .boolean
  | 43 => .array .long
  | 44 => .array .int
  | 45 => .array .int
  | 46 => .array .int
  | 47 => .array .int
  | 48 => .array .int
  | 49 => .array .int
  | 50 => .int
  | 51 => .array .int
  | 52 => .array .boolean
  | _ => .array .int
abbrev wsX80 : List Cond := u_ws RX8 TX8 54
theorem nmX8 : ∀ a, a < 54 → ∀ b, b < 54 → a ≠ b → (TX8 a).2.1 ≠ (TX8 b).2.1 := by decide +kernel
theorem tyX8_ok : ∀ k, k < 54 → parseFieldDescriptor (TX8 k).2.2.1 = some (tyX8 k) := by decide +kernel
abbrev cX8_init : ByteArray := prog_10_method_1_code
def yX8_init : MethodName := ⟨RX8, "<init>", "()V"⟩
abbrev cX8_feed : ByteArray := prog_10_method_2_code
def yX8_feed : MethodName := ⟨RX8, "feed", "(IIIII)I"⟩
abbrev cX8_end : ByteArray := prog_10_method_3_code
def yX8_end : MethodName := ⟨RX8, "end", "(I)Z"⟩
abbrev cX8_fail : ByteArray := prog_10_method_4_code
def yX8_fail : MethodName := ⟨RX8, "fail", "(II)V"⟩
abbrev cX8_isLetter : ByteArray := prog_10_method_5_code
def yX8_isLetter : MethodName := ⟨RX8, "isLetter", "(I)Z"⟩
abbrev cX8_isDigit : ByteArray := prog_10_method_6_code
def yX8_isDigit : MethodName := ⟨RX8, "isDigit", "(I)Z"⟩
abbrev cX8_next : ByteArray := prog_10_method_7_code
def yX8_next : MethodName := ⟨RX8, "next", "()I"⟩
abbrev cX8_sign : ByteArray := prog_10_method_8_code
def yX8_sign : MethodName := ⟨RX8, "sign", "(I)V"⟩
abbrev cX8_word : ByteArray := prog_10_method_9_code
def yX8_word : MethodName := ⟨RX8, "word", "()J"⟩
abbrev cX8_whole : ByteArray := prog_10_method_10_code
def yX8_whole : MethodName := ⟨RX8, "whole", "()J"⟩
abbrev cX8_packed : ByteArray := prog_10_method_11_code
def yX8_packed : MethodName := ⟨RX8, "packed", "(CCCC)J"⟩
abbrev cX8_isOwn : ByteArray := prog_10_method_12_code
def yX8_isOwn : MethodName := ⟨RX8, "isOwn", "(J)Z"⟩
abbrev cX8_begins : ByteArray := prog_10_method_13_code
def yX8_begins : MethodName := ⟨RX8, "begins", "()V"⟩
abbrev cX8_told : ByteArray := prog_10_method_14_code
def yX8_told : MethodName := ⟨RX8, "told", "()V"⟩
abbrev cX8_marks : ByteArray := prog_10_method_15_code
def yX8_marks : MethodName := ⟨RX8, "marks", "(I)V"⟩
abbrev cX8_field : ByteArray := prog_10_method_16_code
def yX8_field : MethodName := ⟨RX8, "field", "()V"⟩
abbrev cX8_readsShape : ByteArray := prog_10_method_17_code
def yX8_readsShape : MethodName := ⟨RX8, "readsShape", "()V"⟩
abbrev cX8_shape : ByteArray := prog_10_method_18_code
def yX8_shape : MethodName := ⟨RX8, "shape", "()I"⟩
abbrev cX8_fieldOf : ByteArray := prog_10_method_19_code
def yX8_fieldOf : MethodName := ⟨RX8, "fieldOf", "(IJ)I"⟩
abbrev cX8_hasNode : ByteArray := prog_10_method_20_code
def yX8_hasNode : MethodName := ⟨RX8, "hasNode", "(II)Z"⟩
abbrev cX8_node : ByteArray := prog_10_method_21_code
def yX8_node : MethodName := ⟨RX8, "node", "(IIJ)I"⟩
abbrev cX8_lacks : ByteArray := prog_10_method_22_code
def yX8_lacks : MethodName := ⟨RX8, "lacks", "(I)Z"⟩
abbrev cX8_number : ByteArray := prog_10_method_23_code
def yX8_number : MethodName := ⟨RX8, "number", "()J"⟩
abbrev cX8_entry : ByteArray := prog_10_method_24_code
def yX8_entry : MethodName := ⟨RX8, "entry", "()V"⟩
abbrev cX8_readsPaper : ByteArray := prog_10_method_25_code
def yX8_readsPaper : MethodName := ⟨RX8, "readsPaper", "()V"⟩
abbrev cX8_paper : ByteArray := prog_10_method_26_code
def yX8_paper : MethodName := ⟨RX8, "paper", "()I"⟩
abbrev cX8_fault : ByteArray := prog_10_method_27_code
def yX8_fault : MethodName := ⟨RX8, "fault", "(I)I"⟩
abbrev cX8_isPaper : ByteArray := prog_10_method_28_code
def yX8_isPaper : MethodName := ⟨RX8, "isPaper", "(I)Z"⟩
abbrev cX8_drop : ByteArray := prog_10_method_29_code
def yX8_drop : MethodName := ⟨RX8, "drop", "(I)I"⟩
abbrev cX8_roadOf : ByteArray := prog_10_method_30_code
def yX8_roadOf : MethodName := ⟨RX8, "roadOf", "(I)V"⟩
abbrev cX8_manyUpTo : ByteArray := prog_10_method_31_code
def yX8_manyUpTo : MethodName := ⟨RX8, "manyUpTo", "(I)I"⟩
abbrev cX8_putsRow : ByteArray := prog_10_method_32_code
def yX8_putsRow : MethodName := ⟨RX8, "putsRow", "(IIZJI)V"⟩
abbrev cX8_steps : ByteArray := prog_10_method_33_code
def yX8_steps : MethodName := ⟨RX8, "steps", "(IIII)V"⟩
abbrev cX8_table : ByteArray := prog_10_method_34_code
def yX8_table : MethodName := ⟨RX8, "table", "(I)V"⟩
abbrev cX8_isLeaf : ByteArray := prog_10_method_35_code
def yX8_isLeaf : MethodName := ⟨RX8, "isLeaf", "(I)Z"⟩
abbrev cX8_isFirstValue : ByteArray := prog_10_method_36_code
def yX8_isFirstValue : MethodName := ⟨RX8, "isFirstValue", "(I)Z"⟩
abbrev cX8_values : ByteArray := prog_10_method_37_code
def yX8_values : MethodName := ⟨RX8, "values", "(Z)I"⟩
abbrev cX8_runs : ByteArray := prog_10_method_38_code
def yX8_runs : MethodName := ⟨RX8, "runs", "([I)I"⟩
abbrev cX8_deepOf : ByteArray := prog_10_method_39_code
def yX8_deepOf : MethodName := ⟨RX8, "deepOf", "()I"⟩
abbrev cX8_sizeOf : ByteArray := prog_10_method_40_code
def yX8_sizeOf : MethodName := ⟨RX8, "sizeOf", "()I"⟩
abbrev cX8_leaf : ByteArray := prog_10_method_41_code
def yX8_leaf : MethodName := ⟨RX8, "leaf", "(II)I"⟩
abbrev cX8_isRow : ByteArray := prog_10_method_42_code
def yX8_isRow : MethodName := ⟨RX8, "isRow", "(II)Z"⟩
abbrev cX8_row : ByteArray := prog_10_method_43_code
def yX8_row : MethodName := ⟨RX8, "row", "(III)I"⟩
abbrev cX8_value : ByteArray := prog_10_method_44_code
def yX8_value : MethodName := ⟨RX8, "value", "(II)J"⟩
abbrev cX8_lays : ByteArray := prog_10_method_45_code
def yX8_lays : MethodName := ⟨RX8, "lays", "(I)V"⟩
abbrev cX8_laysWord : ByteArray := prog_10_method_46_code
def yX8_laysWord : MethodName := ⟨RX8, "laysWord", "(J)V"⟩
abbrev cX8_laysNumber : ByteArray := prog_10_method_47_code
def yX8_laysNumber : MethodName := ⟨RX8, "laysNumber", "(J)V"⟩
abbrev cX8_text : ByteArray := prog_10_method_48_code
def yX8_text : MethodName := ⟨RX8, "text", "(II)I"⟩
abbrev cX8_at : ByteArray := prog_10_method_49_code
def yX8_at : MethodName := ⟨RX8, "at", "(I)I"⟩
abbrev cX8_among : ByteArray := prog_10_method_50_code
def yX8_among : MethodName := ⟨RX8, "among", "(IJJ)I"⟩
abbrev cX8_papers : ByteArray := prog_10_method_51_code
def yX8_papers : MethodName := ⟨RX8, "papers", "(IJJ)I"⟩
abbrev cX8_sum : ByteArray := prog_10_method_52_code
def yX8_sum : MethodName := ⟨RX8, "sum", "(II)J"⟩
abbrev cX8_isOn : ByteArray := prog_10_method_53_code
def yX8_isOn : MethodName := ⟨RX8, "isOn", "(II)Z"⟩
abbrev cX8_has : ByteArray := prog_10_method_54_code
def yX8_has : MethodName := ⟨RX8, "has", "(IIIJ)Z"⟩
abbrev cX8_both : ByteArray := prog_10_method_55_code
def yX8_both : MethodName := ⟨RX8, "both", "(IJIJ)I"⟩
abbrev cX8_rows : ByteArray := prog_10_method_56_code
def yX8_rows : MethodName := ⟨RX8, "rows", "(III)I"⟩
def RJx8e188 : String := "java/lang/Cloneable"
def TJx8e188 : u_T := fun k => match k with
  | _ => ("", "", "", false)
def tyJx8e188 : Nat → FieldType := fun k => match k with
  | _ => .int
abbrev wsJx8e1880 : List Cond := u_ws RJx8e188 TJx8e188 0
theorem nmJx8e188 : ∀ a, a < 0 → ∀ b, b < 0 → a ≠ b → (TJx8e188 a).2.1 ≠ (TJx8e188 b).2.1 := by decide +kernel
theorem tyJx8e188_ok : ∀ k, k < 0 → parseFieldDescriptor (TJx8e188 k).2.2.1 = some (tyJx8e188 k) := by decide +kernel
def RJ9 : String := "java/lang/Math"
def TJ9 : u_T := fun k => match k with
  | _ => ("", "", "", false)
def tyJ9 : Nat → FieldType := fun k => match k with
  | _ => .int
abbrev wsJ90 : List Cond := u_ws RJ9 TJ9 0
theorem nmJ9 : ∀ a, a < 0 → ∀ b, b < 0 → a ≠ b → (TJ9 a).2.1 ≠ (TJ9 b).2.1 := by decide +kernel
theorem tyJ9_ok : ∀ k, k < 0 → parseFieldDescriptor (TJ9 k).2.2.1 = some (tyJ9 k) := by decide +kernel
abbrev cJ9_abs_067f4 : ByteArray := prog_12_method_61_code
def yJ9_abs_067f4 : MethodName := ⟨RJ9, "abs", "(J)J"⟩
abbrev cJ9_max_7cf53 : ByteArray := prog_12_method_65_code
def yJ9_max_7cf53 : MethodName := ⟨RJ9, "max", "(II)I"⟩
abbrev cJ9_min_7cf53 : ByteArray := prog_12_method_69_code
def yJ9_min_7cf53 : MethodName := ⟨RJ9, "min", "(II)I"⟩
def RJ10 : String := "java/lang/System"
def TJ10 : u_T := fun k => match k with
  | _ => ("", "", "", false)
def tyJ10 : Nat → FieldType := fun k => match k with
  | _ => .int
abbrev wsJ100 : List Cond := u_ws RJ10 TJ10 0
theorem nmJ10 : ∀ a, a < 0 → ∀ b, b < 0 → a ≠ b → (TJ10 a).2.1 ≠ (TJ10 b).2.1 := by decide +kernel
theorem tyJ10_ok : ∀ k, k < 0 → parseFieldDescriptor (TJ10 k).2.2.1 = some (tyJ10 k) := by decide +kernel
def RJ7 : String := "java/util/Arrays"
def TJ7 : u_T := fun k => match k with
  | _ => ("", "", "", false)
def tyJ7 : Nat → FieldType := fun k => match k with
  | _ => .int
abbrev wsJ70 : List Cond := u_ws RJ7 TJ7 0
theorem nmJ7 : ∀ a, a < 0 → ∀ b, b < 0 → a ≠ b → (TJ7 a).2.1 ≠ (TJ7 b).2.1 := by decide +kernel
theorem tyJ7_ok : ∀ k, k < 0 → parseFieldDescriptor (TJ7 k).2.2.1 = some (tyJ7 k) := by decide +kernel
abbrev cJ7_copyOf_59c91 : ByteArray := prog_14_method_123_code
def yJ7_copyOf_59c91 : MethodName := ⟨RJ7, "copyOf", "([II)[I"⟩
abbrev cJ7_copyOf_c38d5 : ByteArray := prog_14_method_124_code
def yJ7_copyOf_c38d5 : MethodName := ⟨RJ7, "copyOf", "([JI)[J"⟩
def RL : String := "TreeTablesLaw"
abbrev cL_law : ByteArray := code
def yL_law : MethodName := ⟨RL, "law", "([I)Z"⟩
abbrev vwCl : List vw_C := [(RX0, TX0, 8), (RX1, TX1, 12), (RX2, TX2, 4), (RX3, TX3, 9), (RX4, TX4, 8), (RX5, TX5, 2), (RX6, TX6, 5), (RX7, TX7, 6), (RX8, TX8, 54)]
theorem inX0 : ∀ w ∈ wsX00, w ∈ lw_tbl := by decide +kernel
theorem inX1 : ∀ w ∈ wsX10, w ∈ lw_tbl := by decide +kernel
theorem inX2 : ∀ w ∈ wsX20, w ∈ lw_tbl := by decide +kernel
theorem inX3 : ∀ w ∈ wsX30, w ∈ lw_tbl := by decide +kernel
theorem inX4 : ∀ w ∈ wsX40, w ∈ lw_tbl := by decide +kernel
theorem inX5 : ∀ w ∈ wsX50, w ∈ lw_tbl := by decide +kernel
theorem inX6 : ∀ w ∈ wsX60, w ∈ lw_tbl := by decide +kernel
theorem inX7 : ∀ w ∈ wsX70, w ∈ lw_tbl := by decide +kernel
theorem inX8 : ∀ w ∈ wsX80, w ∈ lw_tbl := by decide +kernel
theorem inJx8e188 : ∀ w ∈ wsJx8e1880, w ∈ lw_tbl := by decide +kernel
theorem inJ9 : ∀ w ∈ wsJ90, w ∈ lw_tbl := by decide +kernel
theorem inJ10 : ∀ w ∈ wsJ100, w ∈ lw_tbl := by decide +kernel
theorem inJ7 : ∀ w ∈ wsJ70, w ∈ lw_tbl := by decide +kernel
end
section
theorem dX0_init_0 : decode cX0_init 0 = .ok (.aload_n 0, 1) := by decide +kernel
theorem dX0_init_1 : decode cX0_init 1 = .ok (.invokespecial 3, 3) := by decide +kernel
theorem dX0_init_4 : decode cX0_init 4 = .ok (.aload_n 0, 1) := by decide +kernel
theorem dX0_init_5 : decode cX0_init 5 = .ok (.aload_n 1, 1) := by decide +kernel
theorem dX0_init_6 : decode cX0_init 6 = .ok (.putfield 9, 3) := by decide +kernel
theorem dX0_init_9 : decode cX0_init 9 = .ok (.aload_n 0, 1) := by decide +kernel
theorem dX0_init_10 : decode cX0_init 10 = .ok (.aload_n 2, 1) := by decide +kernel
theorem dX0_init_11 : decode cX0_init 11 = .ok (.putfield 15, 3) := by decide +kernel
theorem dX0_init_14 : decode cX0_init 14 = .ok (.aload_n 0, 1) := by decide +kernel
theorem dX0_init_15 : decode cX0_init 15 = .ok (.aload_n 3, 1) := by decide +kernel
theorem dX0_init_16 : decode cX0_init 16 = .ok (.putfield 19, 3) := by decide +kernel
theorem dX0_init_19 : decode cX0_init 19 = .ok (.aload_n 0, 1) := by decide +kernel
theorem dX0_init_20 : decode cX0_init 20 = .ok (.iload 4, 2) := by decide +kernel
theorem dX0_init_22 : decode cX0_init 22 = .ok (.putfield 23, 3) := by decide +kernel
theorem dX0_init_25 : decode cX0_init 25 = .ok (.aload_n 0, 1) := by decide +kernel
theorem dX0_init_26 : decode cX0_init 26 = .ok (.bipush 66, 2) := by decide +kernel
theorem dX0_init_28 : decode cX0_init 28 = .ok (.newarray .boolean, 2) := by decide +kernel
theorem dX0_init_30 : decode cX0_init 30 = .ok (.putfield 27, 3) := by decide +kernel
theorem dX0_init_33 : decode cX0_init 33 = .ok (.aload_n 0, 1) := by decide +kernel
theorem dX0_init_34 : decode cX0_init 34 = .ok (.iconst 5, 1) := by decide +kernel
theorem dX0_init_35 : decode cX0_init 35 = .ok (.newarray .int, 2) := by decide +kernel
theorem dX0_init_37 : decode cX0_init 37 = .ok (.putfield 31, 3) := by decide +kernel
theorem dX0_init_40 : decode cX0_init 40 = .ok (.aload_n 0, 1) := by decide +kernel
theorem dX0_init_41 : decode cX0_init 41 = .ok (.iconst (-1), 1) := by decide +kernel
theorem dX0_init_42 : decode cX0_init 42 = .ok (.putfield 35, 3) := by decide +kernel
theorem dX0_init_45 : decode cX0_init 45 = .ok (.aload_n 0, 1) := by decide +kernel
theorem dX0_init_46 : decode cX0_init 46 = .ok (.iconst 0, 1) := by decide +kernel
theorem dX0_init_47 : decode cX0_init 47 = .ok (.putfield 38, 3) := by decide +kernel
theorem dX0_init_50 : decode cX0_init 50 = .ok (.return_, 1) := by decide +kernel
theorem dX0_readAll_0 : decode cX0_readAll 0 = .ok (.aload_n 0, 1) := by decide +kernel
theorem dX0_readAll_1 : decode cX0_readAll 1 = .ok (.getfield 9, 3) := by decide +kernel
theorem dX0_readAll_4 : decode cX0_readAll 4 = .ok (.invokevirtual 41, 3) := by decide +kernel
theorem dX0_readAll_7 : decode cX0_readAll 7 = .ok (.iconst 1, 1) := by decide +kernel
theorem dX0_readAll_8 : decode cX0_readAll 8 = .ok (.istore_n 1, 1) := by decide +kernel
theorem dX0_readAll_9 : decode cX0_readAll 9 = .ok (.iconst 0, 1) := by decide +kernel
theorem dX0_readAll_10 : decode cX0_readAll 10 = .ok (.istore_n 2, 1) := by decide +kernel
theorem dX0_readAll_11 : decode cX0_readAll 11 = .ok (.iload_n 2, 1) := by decide +kernel
theorem dX0_readAll_12 : decode cX0_readAll 12 = .ok (.sipush 400, 3) := by decide +kernel
theorem dX0_readAll_15 : decode cX0_readAll 15 = .ok (.if_icmp .gt 18, 3) := by decide +kernel
theorem dX0_readAll_18 : decode cX0_readAll 18 = .ok (.iload_n 1, 1) := by decide +kernel
theorem dX0_readAll_19 : decode cX0_readAll 19 = .ok (.ifCond .eq 14, 3) := by decide +kernel
theorem dX0_readAll_22 : decode cX0_readAll 22 = .ok (.aload_n 0, 1) := by decide +kernel
theorem dX0_readAll_23 : decode cX0_readAll 23 = .ok (.invokevirtual 46, 3) := by decide +kernel
theorem dX0_readAll_26 : decode cX0_readAll 26 = .ok (.istore_n 1, 1) := by decide +kernel
theorem dX0_readAll_27 : decode cX0_readAll 27 = .ok (.iinc 2 1, 3) := by decide +kernel
theorem dX0_readAll_30 : decode cX0_readAll 30 = .ok (.goto (-19), 3) := by decide +kernel
theorem dX0_readAll_33 : decode cX0_readAll 33 = .ok (.aload_n 0, 1) := by decide +kernel
theorem dX0_readAll_34 : decode cX0_readAll 34 = .ok (.getfield 9, 3) := by decide +kernel
theorem dX0_readAll_37 : decode cX0_readAll 37 = .ok (.getfield 50, 3) := by decide +kernel
theorem dX0_readAll_40 : decode cX0_readAll 40 = .ok (.ifCond .ne 7, 3) := by decide +kernel
theorem dX0_readAll_43 : decode cX0_readAll 43 = .ok (.iconst 1, 1) := by decide +kernel
theorem dX0_readAll_44 : decode cX0_readAll 44 = .ok (.goto 4, 3) := by decide +kernel
theorem dX0_readAll_47 : decode cX0_readAll 47 = .ok (.iconst 0, 1) := by decide +kernel
theorem dX0_readAll_48 : decode cX0_readAll 48 = .ok (.ireturn, 1) := by decide +kernel
theorem dX0_readPart_0 : decode cX0_readPart 0 = .ok (.aload_n 0, 1) := by decide +kernel
theorem dX0_readPart_1 : decode cX0_readPart 1 = .ok (.getfield 9, 3) := by decide +kernel
theorem dX0_readPart_4 : decode cX0_readPart 4 = .ok (.invokevirtual 53, 3) := by decide +kernel
theorem dX0_readPart_7 : decode cX0_readPart 7 = .ok (.istore_n 1, 1) := by decide +kernel
theorem dX0_readPart_8 : decode cX0_readPart 8 = .ok (.iload_n 1, 1) := by decide +kernel
theorem dX0_readPart_9 : decode cX0_readPart 9 = .ok (.iconst (-1), 1) := by decide +kernel
theorem dX0_readPart_10 : decode cX0_readPart 10 = .ok (.if_icmp .ne 8, 3) := by decide +kernel
theorem dX0_readPart_13 : decode cX0_readPart 13 = .ok (.aload_n 0, 1) := by decide +kernel
theorem dX0_readPart_14 : decode cX0_readPart 14 = .ok (.invokevirtual 57, 3) := by decide +kernel
theorem dX0_readPart_17 : decode cX0_readPart 17 = .ok (.ireturn, 1) := by decide +kernel
theorem dX0_readPart_18 : decode cX0_readPart 18 = .ok (.iload_n 1, 1) := by decide +kernel
theorem dX0_readPart_19 : decode cX0_readPart 19 = .ok (.bipush 93, 2) := by decide +kernel
theorem dX0_readPart_21 : decode cX0_readPart 21 = .ok (.if_icmp .ne 10, 3) := by decide +kernel
theorem dX0_readPart_24 : decode cX0_readPart 24 = .ok (.aload_n 0, 1) := by decide +kernel
theorem dX0_readPart_25 : decode cX0_readPart 25 = .ok (.invokevirtual 60, 3) := by decide +kernel
theorem dX0_readPart_28 : decode cX0_readPart 28 = .ok (.goto 7, 3) := by decide +kernel
theorem dX0_readPart_31 : decode cX0_readPart 31 = .ok (.aload_n 0, 1) := by decide +kernel
theorem dX0_readPart_32 : decode cX0_readPart 32 = .ok (.invokevirtual 63, 3) := by decide +kernel
theorem dX0_readPart_35 : decode cX0_readPart 35 = .ok (.ireturn, 1) := by decide +kernel
theorem dX0_readEnd_0 : decode cX0_readEnd 0 = .ok (.aload_n 0, 1) := by decide +kernel
theorem dX0_readEnd_1 : decode cX0_readEnd 1 = .ok (.getfield 35, 3) := by decide +kernel
theorem dX0_readEnd_4 : decode cX0_readEnd 4 = .ok (.iconst (-1), 1) := by decide +kernel
theorem dX0_readEnd_5 : decode cX0_readEnd 5 = .ok (.if_icmp .eq 12, 3) := by decide +kernel
theorem dX0_readEnd_8 : decode cX0_readEnd 8 = .ok (.aload_n 0, 1) := by decide +kernel
theorem dX0_readEnd_9 : decode cX0_readEnd 9 = .ok (.getfield 9, 3) := by decide +kernel
theorem dX0_readEnd_12 : decode cX0_readEnd 12 = .ok (.iconst 1, 1) := by decide +kernel
theorem dX0_readEnd_13 : decode cX0_readEnd 13 = .ok (.invokevirtual 66, 3) := by decide +kernel
theorem dX0_readEnd_16 : decode cX0_readEnd 16 = .ok (.ireturn, 1) := by decide +kernel
theorem dX0_readEnd_17 : decode cX0_readEnd 17 = .ok (.aload_n 0, 1) := by decide +kernel
theorem dX0_readEnd_18 : decode cX0_readEnd 18 = .ok (.invokevirtual 70, 3) := by decide +kernel
theorem dX0_readEnd_21 : decode cX0_readEnd 21 = .ok (.pop, 1) := by decide +kernel
theorem dX0_readEnd_22 : decode cX0_readEnd 22 = .ok (.iconst 0, 1) := by decide +kernel
theorem dX0_readEnd_23 : decode cX0_readEnd 23 = .ok (.ireturn, 1) := by decide +kernel
theorem dX0_readClose_0 : decode cX0_readClose 0 = .ok (.aload_n 0, 1) := by decide +kernel
theorem dX0_readClose_1 : decode cX0_readClose 1 = .ok (.getfield 15, 3) := by decide +kernel
theorem dX0_readClose_4 : decode cX0_readClose 4 = .ok (.aload_n 0, 1) := by decide +kernel
theorem dX0_readClose_5 : decode cX0_readClose 5 = .ok (.getfield 35, 3) := by decide +kernel
theorem dX0_readClose_8 : decode cX0_readClose 8 = .ok (.invokevirtual 73, 3) := by decide +kernel
theorem dX0_readClose_11 : decode cX0_readClose 11 = .ok (.ifCond .ne 12, 3) := by decide +kernel
theorem dX0_readClose_14 : decode cX0_readClose 14 = .ok (.aload_n 0, 1) := by decide +kernel
theorem dX0_readClose_15 : decode cX0_readClose 15 = .ok (.getfield 9, 3) := by decide +kernel
theorem dX0_readClose_18 : decode cX0_readClose 18 = .ok (.iconst 1, 1) := by decide +kernel
theorem dX0_readClose_19 : decode cX0_readClose 19 = .ok (.invokevirtual 66, 3) := by decide +kernel
theorem dX0_readClose_22 : decode cX0_readClose 22 = .ok (.ireturn, 1) := by decide +kernel
theorem dX0_readClose_23 : decode cX0_readClose 23 = .ok (.aload_n 0, 1) := by decide +kernel
theorem dX0_readClose_24 : decode cX0_readClose 24 = .ok (.invokevirtual 70, 3) := by decide +kernel
theorem dX0_readClose_27 : decode cX0_readClose 27 = .ok (.ifCond .ne 5, 3) := by decide +kernel
theorem dX0_readClose_30 : decode cX0_readClose 30 = .ok (.iconst 0, 1) := by decide +kernel
theorem dX0_readClose_31 : decode cX0_readClose 31 = .ok (.ireturn, 1) := by decide +kernel
theorem dX0_readClose_32 : decode cX0_readClose 32 = .ok (.aload_n 0, 1) := by decide +kernel
theorem dX0_readClose_33 : decode cX0_readClose 33 = .ok (.getfield 9, 3) := by decide +kernel
theorem dX0_readClose_36 : decode cX0_readClose 36 = .ok (.dup, 1) := by decide +kernel
theorem dX0_readClose_37 : decode cX0_readClose 37 = .ok (.getfield 78, 3) := by decide +kernel
theorem dX0_readClose_40 : decode cX0_readClose 40 = .ok (.iconst 1, 1) := by decide +kernel
theorem dX0_readClose_41 : decode cX0_readClose 41 = .ok (.iadd, 1) := by decide +kernel
theorem dX0_readClose_42 : decode cX0_readClose 42 = .ok (.putfield 78, 3) := by decide +kernel
theorem dX0_readClose_45 : decode cX0_readClose 45 = .ok (.aload_n 0, 1) := by decide +kernel
theorem dX0_readClose_46 : decode cX0_readClose 46 = .ok (.aload_n 0, 1) := by decide +kernel
theorem dX0_readClose_47 : decode cX0_readClose 47 = .ok (.getfield 15, 3) := by decide +kernel
theorem dX0_readClose_50 : decode cX0_readClose 50 = .ok (.getfield 81, 3) := by decide +kernel
theorem dX0_readClose_53 : decode cX0_readClose 53 = .ok (.aload_n 0, 1) := by decide +kernel
theorem dX0_readClose_54 : decode cX0_readClose 54 = .ok (.getfield 35, 3) := by decide +kernel
theorem dX0_readClose_57 : decode cX0_readClose 57 = .ok (.iaload, 1) := by decide +kernel
theorem dX0_readClose_58 : decode cX0_readClose 58 = .ok (.putfield 35, 3) := by decide +kernel
theorem dX0_readClose_61 : decode cX0_readClose 61 = .ok (.aload_n 0, 1) := by decide +kernel
theorem dX0_readClose_62 : decode cX0_readClose 62 = .ok (.dup, 1) := by decide +kernel
theorem dX0_readClose_63 : decode cX0_readClose 63 = .ok (.getfield 38, 3) := by decide +kernel
theorem dX0_readClose_66 : decode cX0_readClose 66 = .ok (.iconst 1, 1) := by decide +kernel
theorem dX0_readClose_67 : decode cX0_readClose 67 = .ok (.isub, 1) := by decide +kernel
theorem dX0_readClose_68 : decode cX0_readClose 68 = .ok (.putfield 38, 3) := by decide +kernel
theorem dX0_readClose_71 : decode cX0_readClose 71 = .ok (.aload_n 0, 1) := by decide +kernel
theorem dX0_readClose_72 : decode cX0_readClose 72 = .ok (.getfield 9, 3) := by decide +kernel
theorem dX0_readClose_75 : decode cX0_readClose 75 = .ok (.bipush 59, 2) := by decide +kernel
theorem dX0_readClose_77 : decode cX0_readClose 77 = .ok (.invokevirtual 84, 3) := by decide +kernel
theorem dX0_readClose_80 : decode cX0_readClose 80 = .ok (.ireturn, 1) := by decide +kernel
theorem dX0_readEntry_0 : decode cX0_readEntry 0 = .ok (.aload_n 0, 1) := by decide +kernel
theorem dX0_readEntry_1 : decode cX0_readEntry 1 = .ok (.getfield 9, 3) := by decide +kernel
theorem dX0_readEntry_4 : decode cX0_readEntry 4 = .ok (.invokevirtual 87, 3) := by decide +kernel
theorem dX0_readEntry_7 : decode cX0_readEntry 7 = .ok (.aload_n 0, 1) := by decide +kernel
theorem dX0_readEntry_8 : decode cX0_readEntry 8 = .ok (.getfield 9, 3) := by decide +kernel
theorem dX0_readEntry_11 : decode cX0_readEntry 11 = .ok (.getfield 90, 3) := by decide +kernel
theorem dX0_readEntry_14 : decode cX0_readEntry 14 = .ok (.ifCond .ne 12, 3) := by decide +kernel
theorem dX0_readEntry_17 : decode cX0_readEntry 17 = .ok (.aload_n 0, 1) := by decide +kernel
theorem dX0_readEntry_18 : decode cX0_readEntry 18 = .ok (.getfield 9, 3) := by decide +kernel
theorem dX0_readEntry_21 : decode cX0_readEntry 21 = .ok (.iconst 1, 1) := by decide +kernel
theorem dX0_readEntry_22 : decode cX0_readEntry 22 = .ok (.invokevirtual 66, 3) := by decide +kernel
theorem dX0_readEntry_25 : decode cX0_readEntry 25 = .ok (.ireturn, 1) := by decide +kernel
theorem dX0_readEntry_26 : decode cX0_readEntry 26 = .ok (.aload_n 0, 1) := by decide +kernel
theorem dX0_readEntry_27 : decode cX0_readEntry 27 = .ok (.getfield 15, 3) := by decide +kernel
theorem dX0_readEntry_30 : decode cX0_readEntry 30 = .ok (.aload_n 0, 1) := by decide +kernel
theorem dX0_readEntry_31 : decode cX0_readEntry 31 = .ok (.getfield 35, 3) := by decide +kernel
theorem dX0_readEntry_34 : decode cX0_readEntry 34 = .ok (.aload_n 0, 1) := by decide +kernel
theorem dX0_readEntry_35 : decode cX0_readEntry 35 = .ok (.getfield 9, 3) := by decide +kernel
theorem dX0_readEntry_38 : decode cX0_readEntry 38 = .ok (.getfield 93, 3) := by decide +kernel
theorem dX0_readEntry_41 : decode cX0_readEntry 41 = .ok (.invokevirtual 97, 3) := by decide +kernel
theorem dX0_readEntry_44 : decode cX0_readEntry 44 = .ok (.istore_n 1, 1) := by decide +kernel
theorem dX0_readEntry_45 : decode cX0_readEntry 45 = .ok (.aload_n 0, 1) := by decide +kernel
theorem dX0_readEntry_46 : decode cX0_readEntry 46 = .ok (.getfield 15, 3) := by decide +kernel
theorem dX0_readEntry_49 : decode cX0_readEntry 49 = .ok (.iload_n 1, 1) := by decide +kernel
theorem dX0_readEntry_50 : decode cX0_readEntry 50 = .ok (.invokevirtual 73, 3) := by decide +kernel
theorem dX0_readEntry_53 : decode cX0_readEntry 53 = .ok (.ifCond .ne 19, 3) := by decide +kernel
theorem dX0_readEntry_56 : decode cX0_readEntry 56 = .ok (.aload_n 0, 1) := by decide +kernel
theorem dX0_readEntry_57 : decode cX0_readEntry 57 = .ok (.getfield 9, 3) := by decide +kernel
theorem dX0_readEntry_60 : decode cX0_readEntry 60 = .ok (.iconst 2, 1) := by decide +kernel
theorem dX0_readEntry_61 : decode cX0_readEntry 61 = .ok (.aload_n 0, 1) := by decide +kernel
theorem dX0_readEntry_62 : decode cX0_readEntry 62 = .ok (.getfield 9, 3) := by decide +kernel
theorem dX0_readEntry_65 : decode cX0_readEntry 65 = .ok (.getfield 101, 3) := by decide +kernel
theorem dX0_readEntry_68 : decode cX0_readEntry 68 = .ok (.invokevirtual 104, 3) := by decide +kernel
theorem dX0_readEntry_71 : decode cX0_readEntry 71 = .ok (.ireturn, 1) := by decide +kernel
theorem dX0_readEntry_72 : decode cX0_readEntry 72 = .ok (.aload_n 0, 1) := by decide +kernel
theorem dX0_readEntry_73 : decode cX0_readEntry 73 = .ok (.getfield 27, 3) := by decide +kernel
theorem dX0_readEntry_76 : decode cX0_readEntry 76 = .ok (.iload_n 1, 1) := by decide +kernel
theorem dX0_readEntry_77 : decode cX0_readEntry 77 = .ok (.baload, 1) := by decide +kernel
theorem dX0_readEntry_78 : decode cX0_readEntry 78 = .ok (.ifCond .eq 32, 3) := by decide +kernel
theorem dX0_readEntry_81 : decode cX0_readEntry 81 = .ok (.aload_n 0, 1) := by decide +kernel
theorem dX0_readEntry_82 : decode cX0_readEntry 82 = .ok (.getfield 15, 3) := by decide +kernel
theorem dX0_readEntry_85 : decode cX0_readEntry 85 = .ok (.getfield 108, 3) := by decide +kernel
theorem dX0_readEntry_88 : decode cX0_readEntry 88 = .ok (.iload_n 1, 1) := by decide +kernel
theorem dX0_readEntry_89 : decode cX0_readEntry 89 = .ok (.iaload, 1) := by decide +kernel
theorem dX0_readEntry_90 : decode cX0_readEntry 90 = .ok (.iconst 3, 1) := by decide +kernel
theorem dX0_readEntry_91 : decode cX0_readEntry 91 = .ok (.if_icmp .eq 19, 3) := by decide +kernel
theorem dX0_readEntry_94 : decode cX0_readEntry 94 = .ok (.aload_n 0, 1) := by decide +kernel
theorem dX0_readEntry_95 : decode cX0_readEntry 95 = .ok (.getfield 9, 3) := by decide +kernel
theorem dX0_readEntry_98 : decode cX0_readEntry 98 = .ok (.iconst 3, 1) := by decide +kernel
theorem dX0_readEntry_99 : decode cX0_readEntry 99 = .ok (.aload_n 0, 1) := by decide +kernel
theorem dX0_readEntry_100 : decode cX0_readEntry 100 = .ok (.getfield 9, 3) := by decide +kernel
theorem dX0_readEntry_103 : decode cX0_readEntry 103 = .ok (.getfield 101, 3) := by decide +kernel
theorem dX0_readEntry_106 : decode cX0_readEntry 106 = .ok (.invokevirtual 104, 3) := by decide +kernel
theorem dX0_readEntry_109 : decode cX0_readEntry 109 = .ok (.ireturn, 1) := by decide +kernel
theorem dX0_readEntry_110 : decode cX0_readEntry 110 = .ok (.aload_n 0, 1) := by decide +kernel
theorem dX0_readEntry_111 : decode cX0_readEntry 111 = .ok (.getfield 9, 3) := by decide +kernel
theorem dX0_readEntry_114 : decode cX0_readEntry 114 = .ok (.bipush 58, 2) := by decide +kernel
theorem dX0_readEntry_116 : decode cX0_readEntry 116 = .ok (.invokevirtual 84, 3) := by decide +kernel
theorem dX0_readEntry_119 : decode cX0_readEntry 119 = .ok (.ifCond .ne 5, 3) := by decide +kernel
theorem dX0_readEntry_122 : decode cX0_readEntry 122 = .ok (.iconst 0, 1) := by decide +kernel
theorem dX0_readEntry_123 : decode cX0_readEntry 123 = .ok (.ireturn, 1) := by decide +kernel
theorem dX0_readEntry_124 : decode cX0_readEntry 124 = .ok (.aload_n 0, 1) := by decide +kernel
theorem dX0_readEntry_125 : decode cX0_readEntry 125 = .ok (.getfield 9, 3) := by decide +kernel
theorem dX0_readEntry_128 : decode cX0_readEntry 128 = .ok (.invokevirtual 53, 3) := by decide +kernel
theorem dX0_readEntry_131 : decode cX0_readEntry 131 = .ok (.invokestatic 111, 3) := by decide +kernel
theorem dX0_readEntry_134 : decode cX0_readEntry 134 = .ok (.istore_n 2, 1) := by decide +kernel
theorem dX0_readEntry_135 : decode cX0_readEntry 135 = .ok (.iload_n 2, 1) := by decide +kernel
theorem dX0_readEntry_136 : decode cX0_readEntry 136 = .ok (.aload_n 0, 1) := by decide +kernel
theorem dX0_readEntry_137 : decode cX0_readEntry 137 = .ok (.getfield 15, 3) := by decide +kernel
theorem dX0_readEntry_140 : decode cX0_readEntry 140 = .ok (.getfield 115, 3) := by decide +kernel
theorem dX0_readEntry_143 : decode cX0_readEntry 143 = .ok (.iload_n 1, 1) := by decide +kernel
theorem dX0_readEntry_144 : decode cX0_readEntry 144 = .ok (.iaload, 1) := by decide +kernel
theorem dX0_readEntry_145 : decode cX0_readEntry 145 = .ok (.if_icmp .eq 21, 3) := by decide +kernel
theorem dX0_readEntry_148 : decode cX0_readEntry 148 = .ok (.aload_n 0, 1) := by decide +kernel
theorem dX0_readEntry_149 : decode cX0_readEntry 149 = .ok (.getfield 9, 3) := by decide +kernel
theorem dX0_readEntry_152 : decode cX0_readEntry 152 = .ok (.iload_n 2, 1) := by decide +kernel
theorem dX0_readEntry_153 : decode cX0_readEntry 153 = .ok (.iconst (-1), 1) := by decide +kernel
theorem dX0_readEntry_154 : decode cX0_readEntry 154 = .ok (.if_icmp .ne 7, 3) := by decide +kernel
theorem dX0_readEntry_157 : decode cX0_readEntry 157 = .ok (.iconst 1, 1) := by decide +kernel
theorem dX0_readEntry_158 : decode cX0_readEntry 158 = .ok (.goto 4, 3) := by decide +kernel
theorem dX0_readEntry_161 : decode cX0_readEntry 161 = .ok (.iconst 5, 1) := by decide +kernel
theorem dX0_readEntry_162 : decode cX0_readEntry 162 = .ok (.invokevirtual 66, 3) := by decide +kernel
theorem dX0_readEntry_165 : decode cX0_readEntry 165 = .ok (.ireturn, 1) := by decide +kernel
theorem dX0_readEntry_166 : decode cX0_readEntry 166 = .ok (.aload_n 0, 1) := by decide +kernel
theorem dX0_readEntry_167 : decode cX0_readEntry 167 = .ok (.getfield 27, 3) := by decide +kernel
theorem dX0_readEntry_170 : decode cX0_readEntry 170 = .ok (.iload_n 1, 1) := by decide +kernel
theorem dX0_readEntry_171 : decode cX0_readEntry 171 = .ok (.baload, 1) := by decide +kernel
theorem dX0_readEntry_172 : decode cX0_readEntry 172 = .ok (.ifCond .eq 15, 3) := by decide +kernel
theorem dX0_readEntry_175 : decode cX0_readEntry 175 = .ok (.aload_n 0, 1) := by decide +kernel
theorem dX0_readEntry_176 : decode cX0_readEntry 176 = .ok (.getfield 15, 3) := by decide +kernel
theorem dX0_readEntry_179 : decode cX0_readEntry 179 = .ok (.getfield 118, 3) := by decide +kernel
theorem dX0_readEntry_182 : decode cX0_readEntry 182 = .ok (.iload_n 1, 1) := by decide +kernel
theorem dX0_readEntry_183 : decode cX0_readEntry 183 = .ok (.iaload, 1) := by decide +kernel
theorem dX0_readEntry_184 : decode cX0_readEntry 184 = .ok (.goto 7, 3) := by decide +kernel
theorem dX0_readEntry_187 : decode cX0_readEntry 187 = .ok (.aload_n 0, 1) := by decide +kernel
theorem dX0_readEntry_188 : decode cX0_readEntry 188 = .ok (.invokevirtual 121, 3) := by decide +kernel
theorem dX0_readEntry_191 : decode cX0_readEntry 191 = .ok (.istore_n 3, 1) := by decide +kernel
theorem dX0_readEntry_192 : decode cX0_readEntry 192 = .ok (.aload_n 0, 1) := by decide +kernel
theorem dX0_readEntry_193 : decode cX0_readEntry 193 = .ok (.getfield 27, 3) := by decide +kernel
theorem dX0_readEntry_196 : decode cX0_readEntry 196 = .ok (.iload_n 1, 1) := by decide +kernel
theorem dX0_readEntry_197 : decode cX0_readEntry 197 = .ok (.iconst 1, 1) := by decide +kernel
theorem dX0_readEntry_198 : decode cX0_readEntry 198 = .ok (.bastore, 1) := by decide +kernel
theorem dX0_readEntry_199 : decode cX0_readEntry 199 = .ok (.aload_n 0, 1) := by decide +kernel
theorem dX0_readEntry_200 : decode cX0_readEntry 200 = .ok (.iload_n 1, 1) := by decide +kernel
theorem dX0_readEntry_201 : decode cX0_readEntry 201 = .ok (.iload_n 3, 1) := by decide +kernel
theorem dX0_readEntry_202 : decode cX0_readEntry 202 = .ok (.invokevirtual 124, 3) := by decide +kernel
theorem dX0_readEntry_205 : decode cX0_readEntry 205 = .ok (.ireturn, 1) := by decide +kernel
theorem dX0_kindBegunBy_0 : decode cX0_kindBegunBy 0 = .ok (.iload_n 0, 1) := by decide +kernel
theorem dX0_kindBegunBy_1 : decode cX0_kindBegunBy 1 = .ok (.bipush 45, 2) := by decide +kernel
theorem dX0_kindBegunBy_3 : decode cX0_kindBegunBy 3 = .ok (.if_icmp .eq 10, 3) := by decide +kernel
theorem dX0_kindBegunBy_6 : decode cX0_kindBegunBy 6 = .ok (.iload_n 0, 1) := by decide +kernel
theorem dX0_kindBegunBy_7 : decode cX0_kindBegunBy 7 = .ok (.invokestatic 127, 3) := by decide +kernel
theorem dX0_kindBegunBy_10 : decode cX0_kindBegunBy 10 = .ok (.ifCond .eq 5, 3) := by decide +kernel
theorem dX0_kindBegunBy_13 : decode cX0_kindBegunBy 13 = .ok (.iconst 1, 1) := by decide +kernel
theorem dX0_kindBegunBy_14 : decode cX0_kindBegunBy 14 = .ok (.ireturn, 1) := by decide +kernel
theorem dX0_kindBegunBy_15 : decode cX0_kindBegunBy 15 = .ok (.iload_n 0, 1) := by decide +kernel
theorem dX0_kindBegunBy_16 : decode cX0_kindBegunBy 16 = .ok (.invokestatic 130, 3) := by decide +kernel
theorem dX0_kindBegunBy_19 : decode cX0_kindBegunBy 19 = .ok (.ifCond .eq 5, 3) := by decide +kernel
theorem dX0_kindBegunBy_22 : decode cX0_kindBegunBy 22 = .ok (.iconst 2, 1) := by decide +kernel
theorem dX0_kindBegunBy_23 : decode cX0_kindBegunBy 23 = .ok (.ireturn, 1) := by decide +kernel
theorem dX0_kindBegunBy_24 : decode cX0_kindBegunBy 24 = .ok (.iload_n 0, 1) := by decide +kernel
theorem dX0_kindBegunBy_25 : decode cX0_kindBegunBy 25 = .ok (.bipush 91, 2) := by decide +kernel
theorem dX0_kindBegunBy_27 : decode cX0_kindBegunBy 27 = .ok (.if_icmp .ne 7, 3) := by decide +kernel
theorem dX0_kindBegunBy_30 : decode cX0_kindBegunBy 30 = .ok (.iconst 3, 1) := by decide +kernel
theorem dX0_kindBegunBy_31 : decode cX0_kindBegunBy 31 = .ok (.goto 4, 3) := by decide +kernel
theorem dX0_kindBegunBy_34 : decode cX0_kindBegunBy 34 = .ok (.iconst (-1), 1) := by decide +kernel
theorem dX0_kindBegunBy_35 : decode cX0_kindBegunBy 35 = .ok (.ireturn, 1) := by decide +kernel
theorem dX0_readValue_0 : decode cX0_readValue 0 = .ok (.aload_n 0, 1) := by decide +kernel
theorem dX0_readValue_1 : decode cX0_readValue 1 = .ok (.getfield 15, 3) := by decide +kernel
theorem dX0_readValue_4 : decode cX0_readValue 4 = .ok (.getfield 115, 3) := by decide +kernel
theorem dX0_readValue_7 : decode cX0_readValue 7 = .ok (.iload_n 1, 1) := by decide +kernel
theorem dX0_readValue_8 : decode cX0_readValue 8 = .ok (.iaload, 1) := by decide +kernel
theorem dX0_readValue_9 : decode cX0_readValue 9 = .ok (.lookupswitch 41 #[(1, 27), (2, 34)], 27) := by decide +kernel
theorem dX0_readValue_36 : decode cX0_readValue 36 = .ok (.aload_n 0, 1) := by decide +kernel
theorem dX0_readValue_37 : decode cX0_readValue 37 = .ok (.iload_n 1, 1) := by decide +kernel
theorem dX0_readValue_38 : decode cX0_readValue 38 = .ok (.iload_n 2, 1) := by decide +kernel
theorem dX0_readValue_39 : decode cX0_readValue 39 = .ok (.invokevirtual 133, 3) := by decide +kernel
theorem dX0_readValue_42 : decode cX0_readValue 42 = .ok (.ireturn, 1) := by decide +kernel
theorem dX0_readValue_43 : decode cX0_readValue 43 = .ok (.aload_n 0, 1) := by decide +kernel
theorem dX0_readValue_44 : decode cX0_readValue 44 = .ok (.iload_n 1, 1) := by decide +kernel
theorem dX0_readValue_45 : decode cX0_readValue 45 = .ok (.iload_n 2, 1) := by decide +kernel
theorem dX0_readValue_46 : decode cX0_readValue 46 = .ok (.invokevirtual 136, 3) := by decide +kernel
theorem dX0_readValue_49 : decode cX0_readValue 49 = .ok (.ireturn, 1) := by decide +kernel
theorem dX0_readValue_50 : decode cX0_readValue 50 = .ok (.aload_n 0, 1) := by decide +kernel
theorem dX0_readValue_51 : decode cX0_readValue 51 = .ok (.iload_n 1, 1) := by decide +kernel
theorem dX0_readValue_52 : decode cX0_readValue 52 = .ok (.iload_n 2, 1) := by decide +kernel
theorem dX0_readValue_53 : decode cX0_readValue 53 = .ok (.invokevirtual 139, 3) := by decide +kernel
theorem dX0_readValue_56 : decode cX0_readValue 56 = .ok (.ireturn, 1) := by decide +kernel
theorem dX0_readNumber_0 : decode cX0_readNumber 0 = .ok (.aload_n 0, 1) := by decide +kernel
theorem dX0_readNumber_1 : decode cX0_readNumber 1 = .ok (.getfield 9, 3) := by decide +kernel
theorem dX0_readNumber_4 : decode cX0_readNumber 4 = .ok (.invokevirtual 142, 3) := by decide +kernel
theorem dX0_readNumber_7 : decode cX0_readNumber 7 = .ok (.bipush 45, 2) := by decide +kernel
theorem dX0_readNumber_9 : decode cX0_readNumber 9 = .ok (.if_icmp .ne 7, 3) := by decide +kernel
theorem dX0_readNumber_12 : decode cX0_readNumber 12 = .ok (.iconst 1, 1) := by decide +kernel
theorem dX0_readNumber_13 : decode cX0_readNumber 13 = .ok (.goto 4, 3) := by decide +kernel
theorem dX0_readNumber_16 : decode cX0_readNumber 16 = .ok (.iconst 0, 1) := by decide +kernel
theorem dX0_readNumber_17 : decode cX0_readNumber 17 = .ok (.istore_n 3, 1) := by decide +kernel
theorem dX0_readNumber_18 : decode cX0_readNumber 18 = .ok (.iload_n 3, 1) := by decide +kernel
theorem dX0_readNumber_19 : decode cX0_readNumber 19 = .ok (.ifCond .eq 16, 3) := by decide +kernel
theorem dX0_readNumber_22 : decode cX0_readNumber 22 = .ok (.aload_n 0, 1) := by decide +kernel
theorem dX0_readNumber_23 : decode cX0_readNumber 23 = .ok (.getfield 9, 3) := by decide +kernel
theorem dX0_readNumber_26 : decode cX0_readNumber 26 = .ok (.dup, 1) := by decide +kernel
theorem dX0_readNumber_27 : decode cX0_readNumber 27 = .ok (.getfield 78, 3) := by decide +kernel
theorem dX0_readNumber_30 : decode cX0_readNumber 30 = .ok (.iconst 1, 1) := by decide +kernel
theorem dX0_readNumber_31 : decode cX0_readNumber 31 = .ok (.iadd, 1) := by decide +kernel
theorem dX0_readNumber_32 : decode cX0_readNumber 32 = .ok (.putfield 78, 3) := by decide +kernel
theorem dX0_readNumber_35 : decode cX0_readNumber 35 = .ok (.iconst 0, 1) := by decide +kernel
theorem dX0_readNumber_36 : decode cX0_readNumber 36 = .ok (.istore 4, 2) := by decide +kernel
theorem dX0_readNumber_38 : decode cX0_readNumber 38 = .ok (.lconst 0, 1) := by decide +kernel
theorem dX0_readNumber_39 : decode cX0_readNumber 39 = .ok (.lstore 5, 2) := by decide +kernel
theorem dX0_readNumber_41 : decode cX0_readNumber 41 = .ok (.iload 4, 2) := by decide +kernel
theorem dX0_readNumber_43 : decode cX0_readNumber 43 = .ok (.bipush 6, 2) := by decide +kernel
theorem dX0_readNumber_45 : decode cX0_readNumber 45 = .ok (.if_icmp .ge 55, 3) := by decide +kernel
theorem dX0_readNumber_48 : decode cX0_readNumber 48 = .ok (.aload_n 0, 1) := by decide +kernel
theorem dX0_readNumber_49 : decode cX0_readNumber 49 = .ok (.getfield 9, 3) := by decide +kernel
theorem dX0_readNumber_52 : decode cX0_readNumber 52 = .ok (.invokevirtual 142, 3) := by decide +kernel
theorem dX0_readNumber_55 : decode cX0_readNumber 55 = .ok (.invokestatic 127, 3) := by decide +kernel
theorem dX0_readNumber_58 : decode cX0_readNumber 58 = .ok (.ifCond .eq 42, 3) := by decide +kernel
theorem dX0_readNumber_61 : decode cX0_readNumber 61 = .ok (.lload 5, 2) := by decide +kernel
theorem dX0_readNumber_63 : decode cX0_readNumber 63 = .ok (.ldc2_w 145, 3) := by decide +kernel
theorem dX0_readNumber_66 : decode cX0_readNumber 66 = .ok (.lmul, 1) := by decide +kernel
theorem dX0_readNumber_67 : decode cX0_readNumber 67 = .ok (.aload_n 0, 1) := by decide +kernel
theorem dX0_readNumber_68 : decode cX0_readNumber 68 = .ok (.getfield 9, 3) := by decide +kernel
theorem dX0_readNumber_71 : decode cX0_readNumber 71 = .ok (.invokevirtual 142, 3) := by decide +kernel
theorem dX0_readNumber_74 : decode cX0_readNumber 74 = .ok (.bipush 48, 2) := by decide +kernel
theorem dX0_readNumber_76 : decode cX0_readNumber 76 = .ok (.isub, 1) := by decide +kernel
theorem dX0_readNumber_77 : decode cX0_readNumber 77 = .ok (.i2l, 1) := by decide +kernel
theorem dX0_readNumber_78 : decode cX0_readNumber 78 = .ok (.ladd, 1) := by decide +kernel
theorem dX0_readNumber_79 : decode cX0_readNumber 79 = .ok (.lstore 5, 2) := by decide +kernel
theorem dX0_readNumber_81 : decode cX0_readNumber 81 = .ok (.aload_n 0, 1) := by decide +kernel
theorem dX0_readNumber_82 : decode cX0_readNumber 82 = .ok (.getfield 9, 3) := by decide +kernel
theorem dX0_readNumber_85 : decode cX0_readNumber 85 = .ok (.dup, 1) := by decide +kernel
theorem dX0_readNumber_86 : decode cX0_readNumber 86 = .ok (.getfield 78, 3) := by decide +kernel
theorem dX0_readNumber_89 : decode cX0_readNumber 89 = .ok (.iconst 1, 1) := by decide +kernel
theorem dX0_readNumber_90 : decode cX0_readNumber 90 = .ok (.iadd, 1) := by decide +kernel
theorem dX0_readNumber_91 : decode cX0_readNumber 91 = .ok (.putfield 78, 3) := by decide +kernel
theorem dX0_readNumber_94 : decode cX0_readNumber 94 = .ok (.iinc 4 1, 3) := by decide +kernel
theorem dX0_readNumber_97 : decode cX0_readNumber 97 = .ok (.goto (-56), 3) := by decide +kernel
theorem dX0_readNumber_100 : decode cX0_readNumber 100 = .ok (.iload 4, 2) := by decide +kernel
theorem dX0_readNumber_102 : decode cX0_readNumber 102 = .ok (.ifCond .eq 16, 3) := by decide +kernel
theorem dX0_readNumber_105 : decode cX0_readNumber 105 = .ok (.aload_n 0, 1) := by decide +kernel
theorem dX0_readNumber_106 : decode cX0_readNumber 106 = .ok (.getfield 9, 3) := by decide +kernel
theorem dX0_readNumber_109 : decode cX0_readNumber 109 = .ok (.invokevirtual 142, 3) := by decide +kernel
theorem dX0_readNumber_112 : decode cX0_readNumber 112 = .ok (.invokestatic 127, 3) := by decide +kernel
theorem dX0_readNumber_115 : decode cX0_readNumber 115 = .ok (.ifCond .eq 12, 3) := by decide +kernel
theorem dX0_readNumber_118 : decode cX0_readNumber 118 = .ok (.aload_n 0, 1) := by decide +kernel
theorem dX0_readNumber_119 : decode cX0_readNumber 119 = .ok (.getfield 9, 3) := by decide +kernel
theorem dX0_readNumber_122 : decode cX0_readNumber 122 = .ok (.iconst 1, 1) := by decide +kernel
theorem dX0_readNumber_123 : decode cX0_readNumber 123 = .ok (.invokevirtual 66, 3) := by decide +kernel
theorem dX0_readNumber_126 : decode cX0_readNumber 126 = .ok (.ireturn, 1) := by decide +kernel
theorem dX0_readNumber_127 : decode cX0_readNumber 127 = .ok (.aload_n 0, 1) := by decide +kernel
theorem dX0_readNumber_128 : decode cX0_readNumber 128 = .ok (.aload_n 0, 1) := by decide +kernel
theorem dX0_readNumber_129 : decode cX0_readNumber 129 = .ok (.getfield 15, 3) := by decide +kernel
theorem dX0_readNumber_132 : decode cX0_readNumber 132 = .ok (.getfield 147, 3) := by decide +kernel
theorem dX0_readNumber_135 : decode cX0_readNumber 135 = .ok (.iload_n 1, 1) := by decide +kernel
theorem dX0_readNumber_136 : decode cX0_readNumber 136 = .ok (.iaload, 1) := by decide +kernel
theorem dX0_readNumber_137 : decode cX0_readNumber 137 = .ok (.iload_n 2, 1) := by decide +kernel
theorem dX0_readNumber_138 : decode cX0_readNumber 138 = .ok (.aload_n 0, 1) := by decide +kernel
theorem dX0_readNumber_139 : decode cX0_readNumber 139 = .ok (.getfield 15, 3) := by decide +kernel
theorem dX0_readNumber_142 : decode cX0_readNumber 142 = .ok (.getfield 150, 3) := by decide +kernel
theorem dX0_readNumber_145 : decode cX0_readNumber 145 = .ok (.iload_n 1, 1) := by decide +kernel
theorem dX0_readNumber_146 : decode cX0_readNumber 146 = .ok (.iaload, 1) := by decide +kernel
theorem dX0_readNumber_147 : decode cX0_readNumber 147 = .ok (.iload_n 3, 1) := by decide +kernel
theorem dX0_readNumber_148 : decode cX0_readNumber 148 = .ok (.ifCond .eq 9, 3) := by decide +kernel
theorem dX0_readNumber_151 : decode cX0_readNumber 151 = .ok (.lload 5, 2) := by decide +kernel
theorem dX0_readNumber_153 : decode cX0_readNumber 153 = .ok (.lneg, 1) := by decide +kernel
theorem dX0_readNumber_154 : decode cX0_readNumber 154 = .ok (.goto 5, 3) := by decide +kernel
theorem dX0_readNumber_157 : decode cX0_readNumber 157 = .ok (.lload 5, 2) := by decide +kernel
theorem dX0_readNumber_159 : decode cX0_readNumber 159 = .ok (.invokevirtual 153, 3) := by decide +kernel
theorem dX0_readNumber_162 : decode cX0_readNumber 162 = .ok (.aload_n 0, 1) := by decide +kernel
theorem dX0_readNumber_163 : decode cX0_readNumber 163 = .ok (.getfield 9, 3) := by decide +kernel
theorem dX0_readNumber_166 : decode cX0_readNumber 166 = .ok (.bipush 59, 2) := by decide +kernel
theorem dX0_readNumber_168 : decode cX0_readNumber 168 = .ok (.invokevirtual 84, 3) := by decide +kernel
theorem dX0_readNumber_171 : decode cX0_readNumber 171 = .ok (.ireturn, 1) := by decide +kernel
theorem dX0_readLetters_0 : decode cX0_readLetters 0 = .ok (.aload_n 0, 1) := by decide +kernel
theorem dX0_readLetters_1 : decode cX0_readLetters 1 = .ok (.getfield 9, 3) := by decide +kernel
theorem dX0_readLetters_4 : decode cX0_readLetters 4 = .ok (.invokevirtual 87, 3) := by decide +kernel
theorem dX0_readLetters_7 : decode cX0_readLetters 7 = .ok (.aload_n 0, 1) := by decide +kernel
theorem dX0_readLetters_8 : decode cX0_readLetters 8 = .ok (.getfield 9, 3) := by decide +kernel
theorem dX0_readLetters_11 : decode cX0_readLetters 11 = .ok (.getfield 90, 3) := by decide +kernel
theorem dX0_readLetters_14 : decode cX0_readLetters 14 = .ok (.bipush 8, 2) := by decide +kernel
theorem dX0_readLetters_16 : decode cX0_readLetters 16 = .ok (.if_icmp .le 11, 3) := by decide +kernel
theorem dX0_readLetters_19 : decode cX0_readLetters 19 = .ok (.aload_n 0, 1) := by decide +kernel
theorem dX0_readLetters_20 : decode cX0_readLetters 20 = .ok (.getfield 9, 3) := by decide +kernel
theorem dX0_readLetters_23 : decode cX0_readLetters 23 = .ok (.invokevirtual 157, 3) := by decide +kernel
theorem dX0_readLetters_26 : decode cX0_readLetters 26 = .ok (.ireturn, 1) := by decide +kernel
theorem dX0_readLetters_27 : decode cX0_readLetters 27 = .ok (.aload_n 0, 1) := by decide +kernel
theorem dX0_readLetters_28 : decode cX0_readLetters 28 = .ok (.aload_n 0, 1) := by decide +kernel
theorem dX0_readLetters_29 : decode cX0_readLetters 29 = .ok (.getfield 15, 3) := by decide +kernel
theorem dX0_readLetters_32 : decode cX0_readLetters 32 = .ok (.getfield 147, 3) := by decide +kernel
theorem dX0_readLetters_35 : decode cX0_readLetters 35 = .ok (.iload_n 1, 1) := by decide +kernel
theorem dX0_readLetters_36 : decode cX0_readLetters 36 = .ok (.iaload, 1) := by decide +kernel
theorem dX0_readLetters_37 : decode cX0_readLetters 37 = .ok (.iload_n 2, 1) := by decide +kernel
theorem dX0_readLetters_38 : decode cX0_readLetters 38 = .ok (.aload_n 0, 1) := by decide +kernel
theorem dX0_readLetters_39 : decode cX0_readLetters 39 = .ok (.getfield 15, 3) := by decide +kernel
theorem dX0_readLetters_42 : decode cX0_readLetters 42 = .ok (.getfield 150, 3) := by decide +kernel
theorem dX0_readLetters_45 : decode cX0_readLetters 45 = .ok (.iload_n 1, 1) := by decide +kernel
theorem dX0_readLetters_46 : decode cX0_readLetters 46 = .ok (.iaload, 1) := by decide +kernel
theorem dX0_readLetters_47 : decode cX0_readLetters 47 = .ok (.aload_n 0, 1) := by decide +kernel
theorem dX0_readLetters_48 : decode cX0_readLetters 48 = .ok (.getfield 9, 3) := by decide +kernel
theorem dX0_readLetters_51 : decode cX0_readLetters 51 = .ok (.getfield 93, 3) := by decide +kernel
theorem dX0_readLetters_54 : decode cX0_readLetters 54 = .ok (.invokevirtual 153, 3) := by decide +kernel
theorem dX0_readLetters_57 : decode cX0_readLetters 57 = .ok (.aload_n 0, 1) := by decide +kernel
theorem dX0_readLetters_58 : decode cX0_readLetters 58 = .ok (.getfield 9, 3) := by decide +kernel
theorem dX0_readLetters_61 : decode cX0_readLetters 61 = .ok (.bipush 59, 2) := by decide +kernel
theorem dX0_readLetters_63 : decode cX0_readLetters 63 = .ok (.invokevirtual 84, 3) := by decide +kernel
theorem dX0_readLetters_66 : decode cX0_readLetters 66 = .ok (.ireturn, 1) := by decide +kernel
theorem dX0_readOpen_0 : decode cX0_readOpen 0 = .ok (.aload_n 0, 1) := by decide +kernel
theorem dX0_readOpen_1 : decode cX0_readOpen 1 = .ok (.getfield 38, 3) := by decide +kernel
theorem dX0_readOpen_4 : decode cX0_readOpen 4 = .ok (.iconst 4, 1) := by decide +kernel
theorem dX0_readOpen_5 : decode cX0_readOpen 5 = .ok (.if_icmp .lt 12, 3) := by decide +kernel
theorem dX0_readOpen_8 : decode cX0_readOpen 8 = .ok (.aload_n 0, 1) := by decide +kernel
theorem dX0_readOpen_9 : decode cX0_readOpen 9 = .ok (.getfield 9, 3) := by decide +kernel
theorem dX0_readOpen_12 : decode cX0_readOpen 12 = .ok (.iconst 1, 1) := by decide +kernel
theorem dX0_readOpen_13 : decode cX0_readOpen 13 = .ok (.invokevirtual 66, 3) := by decide +kernel
theorem dX0_readOpen_16 : decode cX0_readOpen 16 = .ok (.ireturn, 1) := by decide +kernel
theorem dX0_readOpen_17 : decode cX0_readOpen 17 = .ok (.aload_n 0, 1) := by decide +kernel
theorem dX0_readOpen_18 : decode cX0_readOpen 18 = .ok (.getfield 9, 3) := by decide +kernel
theorem dX0_readOpen_21 : decode cX0_readOpen 21 = .ok (.dup, 1) := by decide +kernel
theorem dX0_readOpen_22 : decode cX0_readOpen 22 = .ok (.getfield 78, 3) := by decide +kernel
theorem dX0_readOpen_25 : decode cX0_readOpen 25 = .ok (.iconst 1, 1) := by decide +kernel
theorem dX0_readOpen_26 : decode cX0_readOpen 26 = .ok (.iadd, 1) := by decide +kernel
theorem dX0_readOpen_27 : decode cX0_readOpen 27 = .ok (.putfield 78, 3) := by decide +kernel
theorem dX0_readOpen_30 : decode cX0_readOpen 30 = .ok (.aload_n 0, 1) := by decide +kernel
theorem dX0_readOpen_31 : decode cX0_readOpen 31 = .ok (.iload_n 1, 1) := by decide +kernel
theorem dX0_readOpen_32 : decode cX0_readOpen 32 = .ok (.putfield 35, 3) := by decide +kernel
theorem dX0_readOpen_35 : decode cX0_readOpen 35 = .ok (.aload_n 0, 1) := by decide +kernel
theorem dX0_readOpen_36 : decode cX0_readOpen 36 = .ok (.dup, 1) := by decide +kernel
theorem dX0_readOpen_37 : decode cX0_readOpen 37 = .ok (.getfield 38, 3) := by decide +kernel
theorem dX0_readOpen_40 : decode cX0_readOpen 40 = .ok (.iconst 1, 1) := by decide +kernel
theorem dX0_readOpen_41 : decode cX0_readOpen 41 = .ok (.iadd, 1) := by decide +kernel
theorem dX0_readOpen_42 : decode cX0_readOpen 42 = .ok (.putfield 38, 3) := by decide +kernel
theorem dX0_readOpen_45 : decode cX0_readOpen 45 = .ok (.aload_n 0, 1) := by decide +kernel
theorem dX0_readOpen_46 : decode cX0_readOpen 46 = .ok (.getfield 31, 3) := by decide +kernel
theorem dX0_readOpen_49 : decode cX0_readOpen 49 = .ok (.aload_n 0, 1) := by decide +kernel
theorem dX0_readOpen_50 : decode cX0_readOpen 50 = .ok (.getfield 38, 3) := by decide +kernel
theorem dX0_readOpen_53 : decode cX0_readOpen 53 = .ok (.iload_n 2, 1) := by decide +kernel
theorem dX0_readOpen_54 : decode cX0_readOpen 54 = .ok (.iastore, 1) := by decide +kernel
theorem dX0_readOpen_55 : decode cX0_readOpen 55 = .ok (.iload_n 1, 1) := by decide +kernel
theorem dX0_readOpen_56 : decode cX0_readOpen 56 = .ok (.iconst 1, 1) := by decide +kernel
theorem dX0_readOpen_57 : decode cX0_readOpen 57 = .ok (.iadd, 1) := by decide +kernel
theorem dX0_readOpen_58 : decode cX0_readOpen 58 = .ok (.istore_n 3, 1) := by decide +kernel
theorem dX0_readOpen_59 : decode cX0_readOpen 59 = .ok (.iload_n 3, 1) := by decide +kernel
theorem dX0_readOpen_60 : decode cX0_readOpen 60 = .ok (.aload_n 0, 1) := by decide +kernel
theorem dX0_readOpen_61 : decode cX0_readOpen 61 = .ok (.getfield 15, 3) := by decide +kernel
theorem dX0_readOpen_64 : decode cX0_readOpen 64 = .ok (.getfield 160, 3) := by decide +kernel
theorem dX0_readOpen_67 : decode cX0_readOpen 67 = .ok (.iload_n 1, 1) := by decide +kernel
theorem dX0_readOpen_68 : decode cX0_readOpen 68 = .ok (.iaload, 1) := by decide +kernel
theorem dX0_readOpen_69 : decode cX0_readOpen 69 = .ok (.if_icmp .ge 22, 3) := by decide +kernel
theorem dX0_readOpen_72 : decode cX0_readOpen 72 = .ok (.iload_n 3, 1) := by decide +kernel
theorem dX0_readOpen_73 : decode cX0_readOpen 73 = .ok (.bipush 66, 2) := by decide +kernel
theorem dX0_readOpen_75 : decode cX0_readOpen 75 = .ok (.if_icmp .ge 16, 3) := by decide +kernel
theorem dX0_readOpen_78 : decode cX0_readOpen 78 = .ok (.aload_n 0, 1) := by decide +kernel
theorem dX0_readOpen_79 : decode cX0_readOpen 79 = .ok (.getfield 27, 3) := by decide +kernel
theorem dX0_readOpen_82 : decode cX0_readOpen 82 = .ok (.iload_n 3, 1) := by decide +kernel
theorem dX0_readOpen_83 : decode cX0_readOpen 83 = .ok (.iconst 0, 1) := by decide +kernel
theorem dX0_readOpen_84 : decode cX0_readOpen 84 = .ok (.bastore, 1) := by decide +kernel
theorem dX0_readOpen_85 : decode cX0_readOpen 85 = .ok (.iinc 3 1, 3) := by decide +kernel
theorem dX0_readOpen_88 : decode cX0_readOpen 88 = .ok (.goto (-29), 3) := by decide +kernel
theorem dX0_readOpen_91 : decode cX0_readOpen 91 = .ok (.iconst 1, 1) := by decide +kernel
theorem dX0_readOpen_92 : decode cX0_readOpen 92 = .ok (.ireturn, 1) := by decide +kernel
theorem dX0_levelHere_0 : decode cX0_levelHere 0 = .ok (.aload_n 0, 1) := by decide +kernel
theorem dX0_levelHere_1 : decode cX0_levelHere 1 = .ok (.getfield 38, 3) := by decide +kernel
theorem dX0_levelHere_4 : decode cX0_levelHere 4 = .ok (.ifCond .lt 23, 3) := by decide +kernel
theorem dX0_levelHere_7 : decode cX0_levelHere 7 = .ok (.aload_n 0, 1) := by decide +kernel
theorem dX0_levelHere_8 : decode cX0_levelHere 8 = .ok (.getfield 38, 3) := by decide +kernel
theorem dX0_levelHere_11 : decode cX0_levelHere 11 = .ok (.iconst 4, 1) := by decide +kernel
theorem dX0_levelHere_12 : decode cX0_levelHere 12 = .ok (.if_icmp .gt 15, 3) := by decide +kernel
theorem dX0_levelHere_15 : decode cX0_levelHere 15 = .ok (.aload_n 0, 1) := by decide +kernel
theorem dX0_levelHere_16 : decode cX0_levelHere 16 = .ok (.getfield 31, 3) := by decide +kernel
theorem dX0_levelHere_19 : decode cX0_levelHere 19 = .ok (.aload_n 0, 1) := by decide +kernel
theorem dX0_levelHere_20 : decode cX0_levelHere 20 = .ok (.getfield 38, 3) := by decide +kernel
theorem dX0_levelHere_23 : decode cX0_levelHere 23 = .ok (.iaload, 1) := by decide +kernel
theorem dX0_levelHere_24 : decode cX0_levelHere 24 = .ok (.goto 4, 3) := by decide +kernel
theorem dX0_levelHere_27 : decode cX0_levelHere 27 = .ok (.iconst 0, 1) := by decide +kernel
theorem dX0_levelHere_28 : decode cX0_levelHere 28 = .ok (.ireturn, 1) := by decide +kernel
theorem dX0_layLacking_0 : decode cX0_layLacking 0 = .ok (.iconst 0, 1) := by decide +kernel
theorem dX0_layLacking_1 : decode cX0_layLacking 1 = .ok (.istore_n 1, 1) := by decide +kernel
theorem dX0_layLacking_2 : decode cX0_layLacking 2 = .ok (.iload_n 1, 1) := by decide +kernel
theorem dX0_layLacking_3 : decode cX0_layLacking 3 = .ok (.aload_n 0, 1) := by decide +kernel
theorem dX0_layLacking_4 : decode cX0_layLacking 4 = .ok (.getfield 15, 3) := by decide +kernel
theorem dX0_layLacking_7 : decode cX0_layLacking 7 = .ok (.getfield 163, 3) := by decide +kernel
theorem dX0_layLacking_10 : decode cX0_layLacking 10 = .ok (.if_icmp .ge 61, 3) := by decide +kernel
theorem dX0_layLacking_13 : decode cX0_layLacking 13 = .ok (.aload_n 0, 1) := by decide +kernel
theorem dX0_layLacking_14 : decode cX0_layLacking 14 = .ok (.getfield 15, 3) := by decide +kernel
theorem dX0_layLacking_17 : decode cX0_layLacking 17 = .ok (.getfield 81, 3) := by decide +kernel
theorem dX0_layLacking_20 : decode cX0_layLacking 20 = .ok (.iload_n 1, 1) := by decide +kernel
theorem dX0_layLacking_21 : decode cX0_layLacking 21 = .ok (.iaload, 1) := by decide +kernel
theorem dX0_layLacking_22 : decode cX0_layLacking 22 = .ok (.aload_n 0, 1) := by decide +kernel
theorem dX0_layLacking_23 : decode cX0_layLacking 23 = .ok (.getfield 35, 3) := by decide +kernel
theorem dX0_layLacking_26 : decode cX0_layLacking 26 = .ok (.if_icmp .ne 39, 3) := by decide +kernel
theorem dX0_layLacking_29 : decode cX0_layLacking 29 = .ok (.aload_n 0, 1) := by decide +kernel
theorem dX0_layLacking_30 : decode cX0_layLacking 30 = .ok (.getfield 27, 3) := by decide +kernel
theorem dX0_layLacking_33 : decode cX0_layLacking 33 = .ok (.iload_n 1, 1) := by decide +kernel
theorem dX0_layLacking_34 : decode cX0_layLacking 34 = .ok (.baload, 1) := by decide +kernel
theorem dX0_layLacking_35 : decode cX0_layLacking 35 = .ok (.ifCond .ne 30, 3) := by decide +kernel
theorem dX0_layLacking_38 : decode cX0_layLacking 38 = .ok (.aload_n 0, 1) := by decide +kernel
theorem dX0_layLacking_39 : decode cX0_layLacking 39 = .ok (.getfield 15, 3) := by decide +kernel
theorem dX0_layLacking_42 : decode cX0_layLacking 42 = .ok (.getfield 108, 3) := by decide +kernel
theorem dX0_layLacking_45 : decode cX0_layLacking 45 = .ok (.iload_n 1, 1) := by decide +kernel
theorem dX0_layLacking_46 : decode cX0_layLacking 46 = .ok (.iaload, 1) := by decide +kernel
theorem dX0_layLacking_47 : decode cX0_layLacking 47 = .ok (.iconst 1, 1) := by decide +kernel
theorem dX0_layLacking_48 : decode cX0_layLacking 48 = .ok (.if_icmp .ne 12, 3) := by decide +kernel
theorem dX0_layLacking_51 : decode cX0_layLacking 51 = .ok (.aload_n 0, 1) := by decide +kernel
theorem dX0_layLacking_52 : decode cX0_layLacking 52 = .ok (.getfield 9, 3) := by decide +kernel
theorem dX0_layLacking_55 : decode cX0_layLacking 55 = .ok (.iconst 4, 1) := by decide +kernel
theorem dX0_layLacking_56 : decode cX0_layLacking 56 = .ok (.invokevirtual 66, 3) := by decide +kernel
theorem dX0_layLacking_59 : decode cX0_layLacking 59 = .ok (.ireturn, 1) := by decide +kernel
theorem dX0_layLacking_60 : decode cX0_layLacking 60 = .ok (.aload_n 0, 1) := by decide +kernel
theorem dX0_layLacking_61 : decode cX0_layLacking 61 = .ok (.iload_n 1, 1) := by decide +kernel
theorem dX0_layLacking_62 : decode cX0_layLacking 62 = .ok (.invokevirtual 166, 3) := by decide +kernel
theorem dX0_layLacking_65 : decode cX0_layLacking 65 = .ok (.iinc 1 1, 3) := by decide +kernel
theorem dX0_layLacking_68 : decode cX0_layLacking 68 = .ok (.goto (-66), 3) := by decide +kernel
theorem dX0_layLacking_71 : decode cX0_layLacking 71 = .ok (.iconst 1, 1) := by decide +kernel
theorem dX0_layLacking_72 : decode cX0_layLacking 72 = .ok (.ireturn, 1) := by decide +kernel
theorem dX0_layLackingLeaves_0 : decode cX0_layLackingLeaves 0 = .ok (.iconst 0, 1) := by decide +kernel
theorem dX0_layLackingLeaves_1 : decode cX0_layLackingLeaves 1 = .ok (.istore_n 2, 1) := by decide +kernel
theorem dX0_layLackingLeaves_2 : decode cX0_layLackingLeaves 2 = .ok (.iload_n 2, 1) := by decide +kernel
theorem dX0_layLackingLeaves_3 : decode cX0_layLackingLeaves 3 = .ok (.aload_n 0, 1) := by decide +kernel
theorem dX0_layLackingLeaves_4 : decode cX0_layLackingLeaves 4 = .ok (.getfield 15, 3) := by decide +kernel
theorem dX0_layLackingLeaves_7 : decode cX0_layLackingLeaves 7 = .ok (.getfield 170, 3) := by decide +kernel
theorem dX0_layLackingLeaves_10 : decode cX0_layLackingLeaves 10 = .ok (.if_icmp .ge 49, 3) := by decide +kernel
theorem dX0_layLackingLeaves_13 : decode cX0_layLackingLeaves 13 = .ok (.aload_n 0, 1) := by decide +kernel
theorem dX0_layLackingLeaves_14 : decode cX0_layLackingLeaves 14 = .ok (.getfield 15, 3) := by decide +kernel
theorem dX0_layLackingLeaves_17 : decode cX0_layLackingLeaves 17 = .ok (.iload_n 1, 1) := by decide +kernel
theorem dX0_layLackingLeaves_18 : decode cX0_layLackingLeaves 18 = .ok (.aload_n 0, 1) := by decide +kernel
theorem dX0_layLackingLeaves_19 : decode cX0_layLackingLeaves 19 = .ok (.getfield 15, 3) := by decide +kernel
theorem dX0_layLackingLeaves_22 : decode cX0_layLackingLeaves 22 = .ok (.iload_n 2, 1) := by decide +kernel
theorem dX0_layLackingLeaves_23 : decode cX0_layLackingLeaves 23 = .ok (.invokevirtual 173, 3) := by decide +kernel
theorem dX0_layLackingLeaves_26 : decode cX0_layLackingLeaves 26 = .ok (.invokevirtual 176, 3) := by decide +kernel
theorem dX0_layLackingLeaves_29 : decode cX0_layLackingLeaves 29 = .ok (.ifCond .eq 24, 3) := by decide +kernel
theorem dX0_layLackingLeaves_32 : decode cX0_layLackingLeaves 32 = .ok (.aload_n 0, 1) := by decide +kernel
theorem dX0_layLackingLeaves_33 : decode cX0_layLackingLeaves 33 = .ok (.iload_n 2, 1) := by decide +kernel
theorem dX0_layLackingLeaves_34 : decode cX0_layLackingLeaves 34 = .ok (.aload_n 0, 1) := by decide +kernel
theorem dX0_layLackingLeaves_35 : decode cX0_layLackingLeaves 35 = .ok (.invokevirtual 121, 3) := by decide +kernel
theorem dX0_layLackingLeaves_38 : decode cX0_layLackingLeaves 38 = .ok (.aload_n 0, 1) := by decide +kernel
theorem dX0_layLackingLeaves_39 : decode cX0_layLackingLeaves 39 = .ok (.getfield 15, 3) := by decide +kernel
theorem dX0_layLackingLeaves_42 : decode cX0_layLackingLeaves 42 = .ok (.aload_n 0, 1) := by decide +kernel
theorem dX0_layLackingLeaves_43 : decode cX0_layLackingLeaves 43 = .ok (.getfield 35, 3) := by decide +kernel
theorem dX0_layLackingLeaves_46 : decode cX0_layLackingLeaves 46 = .ok (.invokevirtual 179, 3) := by decide +kernel
theorem dX0_layLackingLeaves_49 : decode cX0_layLackingLeaves 49 = .ok (.lconst 0, 1) := by decide +kernel
theorem dX0_layLackingLeaves_50 : decode cX0_layLackingLeaves 50 = .ok (.invokevirtual 153, 3) := by decide +kernel
theorem dX0_layLackingLeaves_53 : decode cX0_layLackingLeaves 53 = .ok (.iinc 2 1, 3) := by decide +kernel
theorem dX0_layLackingLeaves_56 : decode cX0_layLackingLeaves 56 = .ok (.goto (-54), 3) := by decide +kernel
theorem dX0_layLackingLeaves_59 : decode cX0_layLackingLeaves 59 = .ok (.return_, 1) := by decide +kernel
theorem dX0_lay_0 : decode cX0_lay 0 = .ok (.iload_n 1, 1) := by decide +kernel
theorem dX0_lay_1 : decode cX0_lay 1 = .ok (.ifCond .lt 21, 3) := by decide +kernel
theorem dX0_lay_4 : decode cX0_lay 4 = .ok (.iload_n 1, 1) := by decide +kernel
theorem dX0_lay_5 : decode cX0_lay 5 = .ok (.aload_n 0, 1) := by decide +kernel
theorem dX0_lay_6 : decode cX0_lay 6 = .ok (.getfield 19, 3) := by decide +kernel
theorem dX0_lay_9 : decode cX0_lay 9 = .ok (.arraylength, 1) := by decide +kernel
theorem dX0_lay_10 : decode cX0_lay 10 = .ok (.if_icmp .ge 12, 3) := by decide +kernel
theorem dX0_lay_13 : decode cX0_lay 13 = .ok (.aload_n 0, 1) := by decide +kernel
theorem dX0_lay_14 : decode cX0_lay 14 = .ok (.getfield 19, 3) := by decide +kernel
theorem dX0_lay_17 : decode cX0_lay 17 = .ok (.iload_n 1, 1) := by decide +kernel
theorem dX0_lay_18 : decode cX0_lay 18 = .ok (.aaload, 1) := by decide +kernel
theorem dX0_lay_19 : decode cX0_lay 19 = .ok (.goto 4, 3) := by decide +kernel
theorem dX0_lay_22 : decode cX0_lay 22 = .ok (.aconst_null, 1) := by decide +kernel
theorem dX0_lay_23 : decode cX0_lay 23 = .ok (.astore 6, 2) := by decide +kernel
theorem dX0_lay_25 : decode cX0_lay 25 = .ok (.aload 6, 2) := by decide +kernel
theorem dX0_lay_27 : decode cX0_lay 27 = .ok (.ifnull 16, 3) := by decide +kernel
theorem dX0_lay_30 : decode cX0_lay 30 = .ok (.aload 6, 2) := by decide +kernel
theorem dX0_lay_32 : decode cX0_lay 32 = .ok (.aload_n 0, 1) := by decide +kernel
theorem dX0_lay_33 : decode cX0_lay 33 = .ok (.getfield 23, 3) := by decide +kernel
theorem dX0_lay_36 : decode cX0_lay 36 = .ok (.iload_n 2, 1) := by decide +kernel
theorem dX0_lay_37 : decode cX0_lay 37 = .ok (.iload_n 3, 1) := by decide +kernel
theorem dX0_lay_38 : decode cX0_lay 38 = .ok (.lload 4, 2) := by decide +kernel
theorem dX0_lay_40 : decode cX0_lay 40 = .ok (.invokevirtual 182, 3) := by decide +kernel
theorem dX0_lay_43 : decode cX0_lay 43 = .ok (.return_, 1) := by decide +kernel
theorem dX1_init_0 : decode cX1_init 0 = .ok (.aload_n 0, 1) := by decide +kernel
theorem dX1_init_1 : decode cX1_init 1 = .ok (.invokespecial 3, 3) := by decide +kernel
theorem dX1_init_4 : decode cX1_init 4 = .ok (.aload_n 0, 1) := by decide +kernel
theorem dX1_init_5 : decode cX1_init 5 = .ok (.bipush 66, 2) := by decide +kernel
theorem dX1_init_7 : decode cX1_init 7 = .ok (.newarray .long, 2) := by decide +kernel
theorem dX1_init_9 : decode cX1_init 9 = .ok (.putfield 9, 3) := by decide +kernel
theorem dX1_init_12 : decode cX1_init 12 = .ok (.aload_n 0, 1) := by decide +kernel
theorem dX1_init_13 : decode cX1_init 13 = .ok (.bipush 66, 2) := by decide +kernel
theorem dX1_init_15 : decode cX1_init 15 = .ok (.newarray .int, 2) := by decide +kernel
theorem dX1_init_17 : decode cX1_init 17 = .ok (.putfield 15, 3) := by decide +kernel
theorem dX1_init_20 : decode cX1_init 20 = .ok (.aload_n 0, 1) := by decide +kernel
theorem dX1_init_21 : decode cX1_init 21 = .ok (.bipush 66, 2) := by decide +kernel
theorem dX1_init_23 : decode cX1_init 23 = .ok (.newarray .int, 2) := by decide +kernel
theorem dX1_init_25 : decode cX1_init 25 = .ok (.putfield 19, 3) := by decide +kernel
theorem dX1_init_28 : decode cX1_init 28 = .ok (.aload_n 0, 1) := by decide +kernel
theorem dX1_init_29 : decode cX1_init 29 = .ok (.bipush 66, 2) := by decide +kernel
theorem dX1_init_31 : decode cX1_init 31 = .ok (.newarray .int, 2) := by decide +kernel
theorem dX1_init_33 : decode cX1_init 33 = .ok (.putfield 22, 3) := by decide +kernel
theorem dX1_init_36 : decode cX1_init 36 = .ok (.aload_n 0, 1) := by decide +kernel
theorem dX1_init_37 : decode cX1_init 37 = .ok (.bipush 66, 2) := by decide +kernel
theorem dX1_init_39 : decode cX1_init 39 = .ok (.newarray .int, 2) := by decide +kernel
theorem dX1_init_41 : decode cX1_init 41 = .ok (.putfield 25, 3) := by decide +kernel
theorem dX1_init_44 : decode cX1_init 44 = .ok (.aload_n 0, 1) := by decide +kernel
theorem dX1_init_45 : decode cX1_init 45 = .ok (.bipush 66, 2) := by decide +kernel
theorem dX1_init_47 : decode cX1_init 47 = .ok (.newarray .int, 2) := by decide +kernel
theorem dX1_init_49 : decode cX1_init 49 = .ok (.putfield 28, 3) := by decide +kernel
theorem dX1_init_52 : decode cX1_init 52 = .ok (.aload_n 0, 1) := by decide +kernel
theorem dX1_init_53 : decode cX1_init 53 = .ok (.bipush 66, 2) := by decide +kernel
theorem dX1_init_55 : decode cX1_init 55 = .ok (.newarray .int, 2) := by decide +kernel
theorem dX1_init_57 : decode cX1_init 57 = .ok (.putfield 31, 3) := by decide +kernel
theorem dX1_init_60 : decode cX1_init 60 = .ok (.aload_n 0, 1) := by decide +kernel
theorem dX1_init_61 : decode cX1_init 61 = .ok (.bipush 66, 2) := by decide +kernel
theorem dX1_init_63 : decode cX1_init 63 = .ok (.newarray .int, 2) := by decide +kernel
theorem dX1_init_65 : decode cX1_init 65 = .ok (.putfield 34, 3) := by decide +kernel
theorem dX1_init_68 : decode cX1_init 68 = .ok (.aload_n 0, 1) := by decide +kernel
theorem dX1_init_69 : decode cX1_init 69 = .ok (.bipush 66, 2) := by decide +kernel
theorem dX1_init_71 : decode cX1_init 71 = .ok (.newarray .int, 2) := by decide +kernel
theorem dX1_init_73 : decode cX1_init 73 = .ok (.putfield 37, 3) := by decide +kernel
theorem dX1_init_76 : decode cX1_init 76 = .ok (.aload_n 0, 1) := by decide +kernel
theorem dX1_init_77 : decode cX1_init 77 = .ok (.bipush 12, 2) := by decide +kernel
theorem dX1_init_79 : decode cX1_init 79 = .ok (.newarray .int, 2) := by decide +kernel
theorem dX1_init_81 : decode cX1_init 81 = .ok (.putfield 40, 3) := by decide +kernel
theorem dX1_init_84 : decode cX1_init 84 = .ok (.aload_n 0, 1) := by decide +kernel
theorem dX1_init_85 : decode cX1_init 85 = .ok (.iconst 0, 1) := by decide +kernel
theorem dX1_init_86 : decode cX1_init 86 = .ok (.putfield 43, 3) := by decide +kernel
theorem dX1_init_89 : decode cX1_init 89 = .ok (.aload_n 0, 1) := by decide +kernel
theorem dX1_init_90 : decode cX1_init 90 = .ok (.iconst 0, 1) := by decide +kernel
theorem dX1_init_91 : decode cX1_init 91 = .ok (.putfield 47, 3) := by decide +kernel
theorem dX1_init_94 : decode cX1_init 94 = .ok (.return_, 1) := by decide +kernel
theorem dX1_clear_0 : decode cX1_clear 0 = .ok (.aload_n 0, 1) := by decide +kernel
theorem dX1_clear_1 : decode cX1_clear 1 = .ok (.iconst 0, 1) := by decide +kernel
theorem dX1_clear_2 : decode cX1_clear 2 = .ok (.putfield 43, 3) := by decide +kernel
theorem dX1_clear_5 : decode cX1_clear 5 = .ok (.aload_n 0, 1) := by decide +kernel
theorem dX1_clear_6 : decode cX1_clear 6 = .ok (.iconst 0, 1) := by decide +kernel
theorem dX1_clear_7 : decode cX1_clear 7 = .ok (.putfield 47, 3) := by decide +kernel
theorem dX1_clear_10 : decode cX1_clear 10 = .ok (.return_, 1) := by decide +kernel
theorem dX1_isField_0 : decode cX1_isField 0 = .ok (.iload_n 1, 1) := by decide +kernel
theorem dX1_isField_1 : decode cX1_isField 1 = .ok (.ifCond .lt 21, 3) := by decide +kernel
theorem dX1_isField_4 : decode cX1_isField 4 = .ok (.iload_n 1, 1) := by decide +kernel
theorem dX1_isField_5 : decode cX1_isField 5 = .ok (.aload_n 0, 1) := by decide +kernel
theorem dX1_isField_6 : decode cX1_isField 6 = .ok (.getfield 43, 3) := by decide +kernel
theorem dX1_isField_9 : decode cX1_isField 9 = .ok (.if_icmp .ge 13, 3) := by decide +kernel
theorem dX1_isField_12 : decode cX1_isField 12 = .ok (.iload_n 1, 1) := by decide +kernel
theorem dX1_isField_13 : decode cX1_isField 13 = .ok (.bipush 66, 2) := by decide +kernel
theorem dX1_isField_15 : decode cX1_isField 15 = .ok (.if_icmp .ge 7, 3) := by decide +kernel
theorem dX1_isField_18 : decode cX1_isField 18 = .ok (.iconst 1, 1) := by decide +kernel
theorem dX1_isField_19 : decode cX1_isField 19 = .ok (.goto 4, 3) := by decide +kernel
theorem dX1_isField_22 : decode cX1_isField 22 = .ok (.iconst 0, 1) := by decide +kernel
theorem dX1_isField_23 : decode cX1_isField 23 = .ok (.ireturn, 1) := by decide +kernel
theorem dX1_fieldOfLeaf_0 : decode cX1_fieldOfLeaf 0 = .ok (.iload_n 1, 1) := by decide +kernel
theorem dX1_fieldOfLeaf_1 : decode cX1_fieldOfLeaf 1 = .ok (.ifCond .lt 26, 3) := by decide +kernel
theorem dX1_fieldOfLeaf_4 : decode cX1_fieldOfLeaf 4 = .ok (.iload_n 1, 1) := by decide +kernel
theorem dX1_fieldOfLeaf_5 : decode cX1_fieldOfLeaf 5 = .ok (.aload_n 0, 1) := by decide +kernel
theorem dX1_fieldOfLeaf_6 : decode cX1_fieldOfLeaf 6 = .ok (.getfield 47, 3) := by decide +kernel
theorem dX1_fieldOfLeaf_9 : decode cX1_fieldOfLeaf 9 = .ok (.if_icmp .ge 18, 3) := by decide +kernel
theorem dX1_fieldOfLeaf_12 : decode cX1_fieldOfLeaf 12 = .ok (.iload_n 1, 1) := by decide +kernel
theorem dX1_fieldOfLeaf_13 : decode cX1_fieldOfLeaf 13 = .ok (.bipush 12, 2) := by decide +kernel
theorem dX1_fieldOfLeaf_15 : decode cX1_fieldOfLeaf 15 = .ok (.if_icmp .ge 12, 3) := by decide +kernel
theorem dX1_fieldOfLeaf_18 : decode cX1_fieldOfLeaf 18 = .ok (.aload_n 0, 1) := by decide +kernel
theorem dX1_fieldOfLeaf_19 : decode cX1_fieldOfLeaf 19 = .ok (.getfield 40, 3) := by decide +kernel
theorem dX1_fieldOfLeaf_22 : decode cX1_fieldOfLeaf 22 = .ok (.iload_n 1, 1) := by decide +kernel
theorem dX1_fieldOfLeaf_23 : decode cX1_fieldOfLeaf 23 = .ok (.iaload, 1) := by decide +kernel
theorem dX1_fieldOfLeaf_24 : decode cX1_fieldOfLeaf 24 = .ok (.goto 4, 3) := by decide +kernel
theorem dX1_fieldOfLeaf_27 : decode cX1_fieldOfLeaf 27 = .ok (.iconst (-1), 1) := by decide +kernel
theorem dX1_fieldOfLeaf_28 : decode cX1_fieldOfLeaf 28 = .ok (.ireturn, 1) := by decide +kernel
theorem dX1_add_0 : decode cX1_add 0 = .ok (.aload_n 0, 1) := by decide +kernel
theorem dX1_add_1 : decode cX1_add 1 = .ok (.getfield 43, 3) := by decide +kernel
theorem dX1_add_4 : decode cX1_add 4 = .ok (.bipush 66, 2) := by decide +kernel
theorem dX1_add_6 : decode cX1_add 6 = .ok (.if_icmp .lt 5, 3) := by decide +kernel
theorem dX1_add_9 : decode cX1_add 9 = .ok (.iconst (-1), 1) := by decide +kernel
theorem dX1_add_10 : decode cX1_add 10 = .ok (.ireturn, 1) := by decide +kernel
theorem dX1_add_11 : decode cX1_add 11 = .ok (.aload_n 0, 1) := by decide +kernel
theorem dX1_add_12 : decode cX1_add 12 = .ok (.getfield 43, 3) := by decide +kernel
theorem dX1_add_15 : decode cX1_add 15 = .ok (.istore 4, 2) := by decide +kernel
theorem dX1_add_17 : decode cX1_add 17 = .ok (.aload_n 0, 1) := by decide +kernel
theorem dX1_add_18 : decode cX1_add 18 = .ok (.dup, 1) := by decide +kernel
theorem dX1_add_19 : decode cX1_add 19 = .ok (.getfield 43, 3) := by decide +kernel
theorem dX1_add_22 : decode cX1_add 22 = .ok (.iconst 1, 1) := by decide +kernel
theorem dX1_add_23 : decode cX1_add 23 = .ok (.iadd, 1) := by decide +kernel
theorem dX1_add_24 : decode cX1_add 24 = .ok (.putfield 43, 3) := by decide +kernel
theorem dX1_add_27 : decode cX1_add 27 = .ok (.aload_n 0, 1) := by decide +kernel
theorem dX1_add_28 : decode cX1_add 28 = .ok (.getfield 9, 3) := by decide +kernel
theorem dX1_add_31 : decode cX1_add 31 = .ok (.iload 4, 2) := by decide +kernel
theorem dX1_add_33 : decode cX1_add 33 = .ok (.lload_n 1, 1) := by decide +kernel
theorem dX1_add_34 : decode cX1_add 34 = .ok (.lastore, 1) := by decide +kernel
theorem dX1_add_35 : decode cX1_add 35 = .ok (.aload_n 0, 1) := by decide +kernel
theorem dX1_add_36 : decode cX1_add 36 = .ok (.getfield 22, 3) := by decide +kernel
theorem dX1_add_39 : decode cX1_add 39 = .ok (.iload 4, 2) := by decide +kernel
theorem dX1_add_41 : decode cX1_add 41 = .ok (.iload_n 3, 1) := by decide +kernel
theorem dX1_add_42 : decode cX1_add 42 = .ok (.iastore, 1) := by decide +kernel
theorem dX1_add_43 : decode cX1_add 43 = .ok (.aload_n 0, 1) := by decide +kernel
theorem dX1_add_44 : decode cX1_add 44 = .ok (.getfield 15, 3) := by decide +kernel
theorem dX1_add_47 : decode cX1_add 47 = .ok (.iload 4, 2) := by decide +kernel
theorem dX1_add_49 : decode cX1_add 49 = .ok (.iconst 3, 1) := by decide +kernel
theorem dX1_add_50 : decode cX1_add 50 = .ok (.iastore, 1) := by decide +kernel
theorem dX1_add_51 : decode cX1_add 51 = .ok (.aload_n 0, 1) := by decide +kernel
theorem dX1_add_52 : decode cX1_add 52 = .ok (.getfield 19, 3) := by decide +kernel
theorem dX1_add_55 : decode cX1_add 55 = .ok (.iload 4, 2) := by decide +kernel
theorem dX1_add_57 : decode cX1_add 57 = .ok (.iconst 1, 1) := by decide +kernel
theorem dX1_add_58 : decode cX1_add 58 = .ok (.iastore, 1) := by decide +kernel
theorem dX1_add_59 : decode cX1_add 59 = .ok (.aload_n 0, 1) := by decide +kernel
theorem dX1_add_60 : decode cX1_add 60 = .ok (.getfield 25, 3) := by decide +kernel
theorem dX1_add_63 : decode cX1_add 63 = .ok (.iload 4, 2) := by decide +kernel
theorem dX1_add_65 : decode cX1_add 65 = .ok (.aload_n 0, 1) := by decide +kernel
theorem dX1_add_66 : decode cX1_add 66 = .ok (.getfield 43, 3) := by decide +kernel
theorem dX1_add_69 : decode cX1_add 69 = .ok (.iastore, 1) := by decide +kernel
theorem dX1_add_70 : decode cX1_add 70 = .ok (.aload_n 0, 1) := by decide +kernel
theorem dX1_add_71 : decode cX1_add 71 = .ok (.getfield 37, 3) := by decide +kernel
theorem dX1_add_74 : decode cX1_add 74 = .ok (.iload 4, 2) := by decide +kernel
theorem dX1_add_76 : decode cX1_add 76 = .ok (.iconst (-1), 1) := by decide +kernel
theorem dX1_add_77 : decode cX1_add 77 = .ok (.iastore, 1) := by decide +kernel
theorem dX1_add_78 : decode cX1_add 78 = .ok (.iload 4, 2) := by decide +kernel
theorem dX1_add_80 : decode cX1_add 80 = .ok (.ireturn, 1) := by decide +kernel
theorem dX1_makeLeaf_0 : decode cX1_makeLeaf 0 = .ok (.aload_n 0, 1) := by decide +kernel
theorem dX1_makeLeaf_1 : decode cX1_makeLeaf 1 = .ok (.getfield 47, 3) := by decide +kernel
theorem dX1_makeLeaf_4 : decode cX1_makeLeaf 4 = .ok (.bipush 12, 2) := by decide +kernel
theorem dX1_makeLeaf_6 : decode cX1_makeLeaf 6 = .ok (.if_icmp .ge 11, 3) := by decide +kernel
theorem dX1_makeLeaf_9 : decode cX1_makeLeaf 9 = .ok (.aload_n 0, 1) := by decide +kernel
theorem dX1_makeLeaf_10 : decode cX1_makeLeaf 10 = .ok (.iload_n 1, 1) := by decide +kernel
theorem dX1_makeLeaf_11 : decode cX1_makeLeaf 11 = .ok (.invokevirtual 50, 3) := by decide +kernel
theorem dX1_makeLeaf_14 : decode cX1_makeLeaf 14 = .ok (.ifCond .ne 5, 3) := by decide +kernel
theorem dX1_makeLeaf_17 : decode cX1_makeLeaf 17 = .ok (.iconst 0, 1) := by decide +kernel
theorem dX1_makeLeaf_18 : decode cX1_makeLeaf 18 = .ok (.ireturn, 1) := by decide +kernel
theorem dX1_makeLeaf_19 : decode cX1_makeLeaf 19 = .ok (.aload_n 0, 1) := by decide +kernel
theorem dX1_makeLeaf_20 : decode cX1_makeLeaf 20 = .ok (.getfield 15, 3) := by decide +kernel
theorem dX1_makeLeaf_23 : decode cX1_makeLeaf 23 = .ok (.iload_n 1, 1) := by decide +kernel
theorem dX1_makeLeaf_24 : decode cX1_makeLeaf 24 = .ok (.iload_n 2, 1) := by decide +kernel
theorem dX1_makeLeaf_25 : decode cX1_makeLeaf 25 = .ok (.iastore, 1) := by decide +kernel
theorem dX1_makeLeaf_26 : decode cX1_makeLeaf 26 = .ok (.aload_n 0, 1) := by decide +kernel
theorem dX1_makeLeaf_27 : decode cX1_makeLeaf 27 = .ok (.getfield 37, 3) := by decide +kernel
theorem dX1_makeLeaf_30 : decode cX1_makeLeaf 30 = .ok (.iload_n 1, 1) := by decide +kernel
theorem dX1_makeLeaf_31 : decode cX1_makeLeaf 31 = .ok (.aload_n 0, 1) := by decide +kernel
theorem dX1_makeLeaf_32 : decode cX1_makeLeaf 32 = .ok (.getfield 47, 3) := by decide +kernel
theorem dX1_makeLeaf_35 : decode cX1_makeLeaf 35 = .ok (.iastore, 1) := by decide +kernel
theorem dX1_makeLeaf_36 : decode cX1_makeLeaf 36 = .ok (.aload_n 0, 1) := by decide +kernel
theorem dX1_makeLeaf_37 : decode cX1_makeLeaf 37 = .ok (.getfield 40, 3) := by decide +kernel
theorem dX1_makeLeaf_40 : decode cX1_makeLeaf 40 = .ok (.aload_n 0, 1) := by decide +kernel
theorem dX1_makeLeaf_41 : decode cX1_makeLeaf 41 = .ok (.getfield 47, 3) := by decide +kernel
theorem dX1_makeLeaf_44 : decode cX1_makeLeaf 44 = .ok (.iload_n 1, 1) := by decide +kernel
theorem dX1_makeLeaf_45 : decode cX1_makeLeaf 45 = .ok (.iastore, 1) := by decide +kernel
theorem dX1_makeLeaf_46 : decode cX1_makeLeaf 46 = .ok (.aload_n 0, 1) := by decide +kernel
theorem dX1_makeLeaf_47 : decode cX1_makeLeaf 47 = .ok (.dup, 1) := by decide +kernel
theorem dX1_makeLeaf_48 : decode cX1_makeLeaf 48 = .ok (.getfield 47, 3) := by decide +kernel
theorem dX1_makeLeaf_51 : decode cX1_makeLeaf 51 = .ok (.iconst 1, 1) := by decide +kernel
theorem dX1_makeLeaf_52 : decode cX1_makeLeaf 52 = .ok (.iadd, 1) := by decide +kernel
theorem dX1_makeLeaf_53 : decode cX1_makeLeaf 53 = .ok (.putfield 47, 3) := by decide +kernel
theorem dX1_makeLeaf_56 : decode cX1_makeLeaf 56 = .ok (.iconst 1, 1) := by decide +kernel
theorem dX1_makeLeaf_57 : decode cX1_makeLeaf 57 = .ok (.ireturn, 1) := by decide +kernel
theorem dX1_find_0 : decode cX1_find 0 = .ok (.iconst 0, 1) := by decide +kernel
theorem dX1_find_1 : decode cX1_find 1 = .ok (.istore 4, 2) := by decide +kernel
theorem dX1_find_3 : decode cX1_find 3 = .ok (.iload 4, 2) := by decide +kernel
theorem dX1_find_5 : decode cX1_find 5 = .ok (.aload_n 0, 1) := by decide +kernel
theorem dX1_find_6 : decode cX1_find 6 = .ok (.getfield 43, 3) := by decide +kernel
theorem dX1_find_9 : decode cX1_find 9 = .ok (.if_icmp .ge 35, 3) := by decide +kernel
theorem dX1_find_12 : decode cX1_find 12 = .ok (.aload_n 0, 1) := by decide +kernel
theorem dX1_find_13 : decode cX1_find 13 = .ok (.getfield 22, 3) := by decide +kernel
theorem dX1_find_16 : decode cX1_find 16 = .ok (.iload 4, 2) := by decide +kernel
theorem dX1_find_18 : decode cX1_find 18 = .ok (.iaload, 1) := by decide +kernel
theorem dX1_find_19 : decode cX1_find 19 = .ok (.iload_n 1, 1) := by decide +kernel
theorem dX1_find_20 : decode cX1_find 20 = .ok (.if_icmp .ne 18, 3) := by decide +kernel
theorem dX1_find_23 : decode cX1_find 23 = .ok (.aload_n 0, 1) := by decide +kernel
theorem dX1_find_24 : decode cX1_find 24 = .ok (.getfield 9, 3) := by decide +kernel
theorem dX1_find_27 : decode cX1_find 27 = .ok (.iload 4, 2) := by decide +kernel
theorem dX1_find_29 : decode cX1_find 29 = .ok (.laload, 1) := by decide +kernel
theorem dX1_find_30 : decode cX1_find 30 = .ok (.lload_n 2, 1) := by decide +kernel
theorem dX1_find_31 : decode cX1_find 31 = .ok (.lcmp, 1) := by decide +kernel
theorem dX1_find_32 : decode cX1_find 32 = .ok (.ifCond .ne 6, 3) := by decide +kernel
theorem dX1_find_35 : decode cX1_find 35 = .ok (.iload 4, 2) := by decide +kernel
theorem dX1_find_37 : decode cX1_find 37 = .ok (.ireturn, 1) := by decide +kernel
theorem dX1_find_38 : decode cX1_find 38 = .ok (.iinc 4 1, 3) := by decide +kernel
theorem dX1_find_41 : decode cX1_find 41 = .ok (.goto (-38), 3) := by decide +kernel
theorem dX1_find_44 : decode cX1_find 44 = .ok (.iconst (-1), 1) := by decide +kernel
theorem dX1_find_45 : decode cX1_find 45 = .ok (.ireturn, 1) := by decide +kernel
theorem dX1_measure_0 : decode cX1_measure 0 = .ok (.iconst 0, 1) := by decide +kernel
theorem dX1_measure_1 : decode cX1_measure 1 = .ok (.istore_n 1, 1) := by decide +kernel
theorem dX1_measure_2 : decode cX1_measure 2 = .ok (.iload_n 1, 1) := by decide +kernel
theorem dX1_measure_3 : decode cX1_measure 3 = .ok (.aload_n 0, 1) := by decide +kernel
theorem dX1_measure_4 : decode cX1_measure 4 = .ok (.getfield 43, 3) := by decide +kernel
theorem dX1_measure_7 : decode cX1_measure 7 = .ok (.if_icmp .ge 107, 3) := by decide +kernel
theorem dX1_measure_10 : decode cX1_measure 10 = .ok (.aload_n 0, 1) := by decide +kernel
theorem dX1_measure_11 : decode cX1_measure 11 = .ok (.getfield 22, 3) := by decide +kernel
theorem dX1_measure_14 : decode cX1_measure 14 = .ok (.iload_n 1, 1) := by decide +kernel
theorem dX1_measure_15 : decode cX1_measure 15 = .ok (.iaload, 1) := by decide +kernel
theorem dX1_measure_16 : decode cX1_measure 16 = .ok (.istore_n 2, 1) := by decide +kernel
theorem dX1_measure_17 : decode cX1_measure 17 = .ok (.aload_n 0, 1) := by decide +kernel
theorem dX1_measure_18 : decode cX1_measure 18 = .ok (.iload_n 2, 1) := by decide +kernel
theorem dX1_measure_19 : decode cX1_measure 19 = .ok (.invokevirtual 50, 3) := by decide +kernel
theorem dX1_measure_22 : decode cX1_measure 22 = .ok (.istore_n 3, 1) := by decide +kernel
theorem dX1_measure_23 : decode cX1_measure 23 = .ok (.aload_n 0, 1) := by decide +kernel
theorem dX1_measure_24 : decode cX1_measure 24 = .ok (.getfield 28, 3) := by decide +kernel
theorem dX1_measure_27 : decode cX1_measure 27 = .ok (.iload_n 1, 1) := by decide +kernel
theorem dX1_measure_28 : decode cX1_measure 28 = .ok (.aload_n 0, 1) := by decide +kernel
theorem dX1_measure_29 : decode cX1_measure 29 = .ok (.iload_n 2, 1) := by decide +kernel
theorem dX1_measure_30 : decode cX1_measure 30 = .ok (.invokevirtual 54, 3) := by decide +kernel
theorem dX1_measure_33 : decode cX1_measure 33 = .ok (.aload_n 0, 1) := by decide +kernel
theorem dX1_measure_34 : decode cX1_measure 34 = .ok (.getfield 19, 3) := by decide +kernel
theorem dX1_measure_37 : decode cX1_measure 37 = .ok (.iload_n 1, 1) := by decide +kernel
theorem dX1_measure_38 : decode cX1_measure 38 = .ok (.iaload, 1) := by decide +kernel
theorem dX1_measure_39 : decode cX1_measure 39 = .ok (.iconst 1, 1) := by decide +kernel
theorem dX1_measure_40 : decode cX1_measure 40 = .ok (.if_icmp .ne 7, 3) := by decide +kernel
theorem dX1_measure_43 : decode cX1_measure 43 = .ok (.iconst 0, 1) := by decide +kernel
theorem dX1_measure_44 : decode cX1_measure 44 = .ok (.goto 4, 3) := by decide +kernel
theorem dX1_measure_47 : decode cX1_measure 47 = .ok (.iconst 1, 1) := by decide +kernel
theorem dX1_measure_48 : decode cX1_measure 48 = .ok (.iadd, 1) := by decide +kernel
theorem dX1_measure_49 : decode cX1_measure 49 = .ok (.iastore, 1) := by decide +kernel
theorem dX1_measure_50 : decode cX1_measure 50 = .ok (.aload_n 0, 1) := by decide +kernel
theorem dX1_measure_51 : decode cX1_measure 51 = .ok (.getfield 31, 3) := by decide +kernel
theorem dX1_measure_54 : decode cX1_measure 54 = .ok (.iload_n 1, 1) := by decide +kernel
theorem dX1_measure_55 : decode cX1_measure 55 = .ok (.iload_n 3, 1) := by decide +kernel
theorem dX1_measure_56 : decode cX1_measure 56 = .ok (.ifCond .eq 12, 3) := by decide +kernel
theorem dX1_measure_59 : decode cX1_measure 59 = .ok (.aload_n 0, 1) := by decide +kernel
theorem dX1_measure_60 : decode cX1_measure 60 = .ok (.getfield 31, 3) := by decide +kernel
theorem dX1_measure_63 : decode cX1_measure 63 = .ok (.iload_n 2, 1) := by decide +kernel
theorem dX1_measure_64 : decode cX1_measure 64 = .ok (.iaload, 1) := by decide +kernel
theorem dX1_measure_65 : decode cX1_measure 65 = .ok (.goto 4, 3) := by decide +kernel
theorem dX1_measure_68 : decode cX1_measure 68 = .ok (.iconst 0, 1) := by decide +kernel
theorem dX1_measure_69 : decode cX1_measure 69 = .ok (.aload_n 0, 1) := by decide +kernel
theorem dX1_measure_70 : decode cX1_measure 70 = .ok (.getfield 19, 3) := by decide +kernel
theorem dX1_measure_73 : decode cX1_measure 73 = .ok (.iload_n 1, 1) := by decide +kernel
theorem dX1_measure_74 : decode cX1_measure 74 = .ok (.iaload, 1) := by decide +kernel
theorem dX1_measure_75 : decode cX1_measure 75 = .ok (.iconst 3, 1) := by decide +kernel
theorem dX1_measure_76 : decode cX1_measure 76 = .ok (.if_icmp .ne 7, 3) := by decide +kernel
theorem dX1_measure_79 : decode cX1_measure 79 = .ok (.iconst 1, 1) := by decide +kernel
theorem dX1_measure_80 : decode cX1_measure 80 = .ok (.goto 4, 3) := by decide +kernel
theorem dX1_measure_83 : decode cX1_measure 83 = .ok (.iconst 0, 1) := by decide +kernel
theorem dX1_measure_84 : decode cX1_measure 84 = .ok (.iadd, 1) := by decide +kernel
theorem dX1_measure_85 : decode cX1_measure 85 = .ok (.iastore, 1) := by decide +kernel
theorem dX1_measure_86 : decode cX1_measure 86 = .ok (.aload_n 0, 1) := by decide +kernel
theorem dX1_measure_87 : decode cX1_measure 87 = .ok (.getfield 34, 3) := by decide +kernel
theorem dX1_measure_90 : decode cX1_measure 90 = .ok (.iload_n 1, 1) := by decide +kernel
theorem dX1_measure_91 : decode cX1_measure 91 = .ok (.iload_n 3, 1) := by decide +kernel
theorem dX1_measure_92 : decode cX1_measure 92 = .ok (.ifCond .eq 14, 3) := by decide +kernel
theorem dX1_measure_95 : decode cX1_measure 95 = .ok (.aload_n 0, 1) := by decide +kernel
theorem dX1_measure_96 : decode cX1_measure 96 = .ok (.getfield 34, 3) := by decide +kernel
theorem dX1_measure_99 : decode cX1_measure 99 = .ok (.iload_n 2, 1) := by decide +kernel
theorem dX1_measure_100 : decode cX1_measure 100 = .ok (.iaload, 1) := by decide +kernel
theorem dX1_measure_101 : decode cX1_measure 101 = .ok (.iconst 1, 1) := by decide +kernel
theorem dX1_measure_102 : decode cX1_measure 102 = .ok (.iadd, 1) := by decide +kernel
theorem dX1_measure_103 : decode cX1_measure 103 = .ok (.goto 4, 3) := by decide +kernel
theorem dX1_measure_106 : decode cX1_measure 106 = .ok (.iconst 0, 1) := by decide +kernel
theorem dX1_measure_107 : decode cX1_measure 107 = .ok (.iastore, 1) := by decide +kernel
theorem dX1_measure_108 : decode cX1_measure 108 = .ok (.iinc 1 1, 3) := by decide +kernel
theorem dX1_measure_111 : decode cX1_measure 111 = .ok (.goto (-109), 3) := by decide +kernel
theorem dX1_measure_114 : decode cX1_measure 114 = .ok (.return_, 1) := by decide +kernel
theorem dX1_deepUpTo_0 : decode cX1_deepUpTo 0 = .ok (.aload_n 0, 1) := by decide +kernel
theorem dX1_deepUpTo_1 : decode cX1_deepUpTo 1 = .ok (.iload_n 1, 1) := by decide +kernel
theorem dX1_deepUpTo_2 : decode cX1_deepUpTo 2 = .ok (.invokevirtual 50, 3) := by decide +kernel
theorem dX1_deepUpTo_5 : decode cX1_deepUpTo 5 = .ok (.ifCond .eq 12, 3) := by decide +kernel
theorem dX1_deepUpTo_8 : decode cX1_deepUpTo 8 = .ok (.aload_n 0, 1) := by decide +kernel
theorem dX1_deepUpTo_9 : decode cX1_deepUpTo 9 = .ok (.getfield 28, 3) := by decide +kernel
theorem dX1_deepUpTo_12 : decode cX1_deepUpTo 12 = .ok (.iload_n 1, 1) := by decide +kernel
theorem dX1_deepUpTo_13 : decode cX1_deepUpTo 13 = .ok (.iaload, 1) := by decide +kernel
theorem dX1_deepUpTo_14 : decode cX1_deepUpTo 14 = .ok (.goto 4, 3) := by decide +kernel
theorem dX1_deepUpTo_17 : decode cX1_deepUpTo 17 = .ok (.iconst 0, 1) := by decide +kernel
theorem dX1_deepUpTo_18 : decode cX1_deepUpTo 18 = .ok (.ireturn, 1) := by decide +kernel
theorem dX1_isOnRoad_0 : decode cX1_isOnRoad 0 = .ok (.aload_n 0, 1) := by decide +kernel
theorem dX1_isOnRoad_1 : decode cX1_isOnRoad 1 = .ok (.iload_n 1, 1) := by decide +kernel
theorem dX1_isOnRoad_2 : decode cX1_isOnRoad 2 = .ok (.invokevirtual 50, 3) := by decide +kernel
theorem dX1_isOnRoad_5 : decode cX1_isOnRoad 5 = .ok (.ifCond .eq 22, 3) := by decide +kernel
theorem dX1_isOnRoad_8 : decode cX1_isOnRoad 8 = .ok (.iload_n 2, 1) := by decide +kernel
theorem dX1_isOnRoad_9 : decode cX1_isOnRoad 9 = .ok (.iload_n 1, 1) := by decide +kernel
theorem dX1_isOnRoad_10 : decode cX1_isOnRoad 10 = .ok (.if_icmp .lt 17, 3) := by decide +kernel
theorem dX1_isOnRoad_13 : decode cX1_isOnRoad 13 = .ok (.iload_n 2, 1) := by decide +kernel
theorem dX1_isOnRoad_14 : decode cX1_isOnRoad 14 = .ok (.aload_n 0, 1) := by decide +kernel
theorem dX1_isOnRoad_15 : decode cX1_isOnRoad 15 = .ok (.getfield 25, 3) := by decide +kernel
theorem dX1_isOnRoad_18 : decode cX1_isOnRoad 18 = .ok (.iload_n 1, 1) := by decide +kernel
theorem dX1_isOnRoad_19 : decode cX1_isOnRoad 19 = .ok (.iaload, 1) := by decide +kernel
theorem dX1_isOnRoad_20 : decode cX1_isOnRoad 20 = .ok (.if_icmp .ge 7, 3) := by decide +kernel
theorem dX1_isOnRoad_23 : decode cX1_isOnRoad 23 = .ok (.iconst 1, 1) := by decide +kernel
theorem dX1_isOnRoad_24 : decode cX1_isOnRoad 24 = .ok (.goto 4, 3) := by decide +kernel
theorem dX1_isOnRoad_27 : decode cX1_isOnRoad 27 = .ok (.iconst 0, 1) := by decide +kernel
theorem dX1_isOnRoad_28 : decode cX1_isOnRoad 28 = .ok (.ireturn, 1) := by decide +kernel
theorem dX1_sharedMany_0 : decode cX1_sharedMany 0 = .ok (.aload_n 0, 1) := by decide +kernel
theorem dX1_sharedMany_1 : decode cX1_sharedMany 1 = .ok (.iload_n 1, 1) := by decide +kernel
theorem dX1_sharedMany_2 : decode cX1_sharedMany 2 = .ok (.invokevirtual 58, 3) := by decide +kernel
theorem dX1_sharedMany_5 : decode cX1_sharedMany 5 = .ok (.istore_n 3, 1) := by decide +kernel
theorem dX1_sharedMany_6 : decode cX1_sharedMany 6 = .ok (.aload_n 0, 1) := by decide +kernel
theorem dX1_sharedMany_7 : decode cX1_sharedMany 7 = .ok (.iload_n 2, 1) := by decide +kernel
theorem dX1_sharedMany_8 : decode cX1_sharedMany 8 = .ok (.invokevirtual 58, 3) := by decide +kernel
theorem dX1_sharedMany_11 : decode cX1_sharedMany 11 = .ok (.istore 4, 2) := by decide +kernel
theorem dX1_sharedMany_13 : decode cX1_sharedMany 13 = .ok (.iconst 0, 1) := by decide +kernel
theorem dX1_sharedMany_14 : decode cX1_sharedMany 14 = .ok (.istore 5, 2) := by decide +kernel
theorem dX1_sharedMany_16 : decode cX1_sharedMany 16 = .ok (.iconst 0, 1) := by decide +kernel
theorem dX1_sharedMany_17 : decode cX1_sharedMany 17 = .ok (.istore 6, 2) := by decide +kernel
theorem dX1_sharedMany_19 : decode cX1_sharedMany 19 = .ok (.iload 6, 2) := by decide +kernel
theorem dX1_sharedMany_21 : decode cX1_sharedMany 21 = .ok (.aload_n 0, 1) := by decide +kernel
theorem dX1_sharedMany_22 : decode cX1_sharedMany 22 = .ok (.getfield 43, 3) := by decide +kernel
theorem dX1_sharedMany_25 : decode cX1_sharedMany 25 = .ok (.if_icmp .ge 44, 3) := by decide +kernel
theorem dX1_sharedMany_28 : decode cX1_sharedMany 28 = .ok (.aload_n 0, 1) := by decide +kernel
theorem dX1_sharedMany_29 : decode cX1_sharedMany 29 = .ok (.iload 6, 2) := by decide +kernel
theorem dX1_sharedMany_31 : decode cX1_sharedMany 31 = .ok (.iload_n 3, 1) := by decide +kernel
theorem dX1_sharedMany_32 : decode cX1_sharedMany 32 = .ok (.invokevirtual 61, 3) := by decide +kernel
theorem dX1_sharedMany_35 : decode cX1_sharedMany 35 = .ok (.ifCond .eq 28, 3) := by decide +kernel
theorem dX1_sharedMany_38 : decode cX1_sharedMany 38 = .ok (.aload_n 0, 1) := by decide +kernel
theorem dX1_sharedMany_39 : decode cX1_sharedMany 39 = .ok (.iload 6, 2) := by decide +kernel
theorem dX1_sharedMany_41 : decode cX1_sharedMany 41 = .ok (.iload 4, 2) := by decide +kernel
theorem dX1_sharedMany_43 : decode cX1_sharedMany 43 = .ok (.invokevirtual 61, 3) := by decide +kernel
theorem dX1_sharedMany_46 : decode cX1_sharedMany 46 = .ok (.ifCond .eq 17, 3) := by decide +kernel
theorem dX1_sharedMany_49 : decode cX1_sharedMany 49 = .ok (.iload 5, 2) := by decide +kernel
theorem dX1_sharedMany_51 : decode cX1_sharedMany 51 = .ok (.aload_n 0, 1) := by decide +kernel
theorem dX1_sharedMany_52 : decode cX1_sharedMany 52 = .ok (.getfield 31, 3) := by decide +kernel
theorem dX1_sharedMany_55 : decode cX1_sharedMany 55 = .ok (.iload 6, 2) := by decide +kernel
theorem dX1_sharedMany_57 : decode cX1_sharedMany 57 = .ok (.iaload, 1) := by decide +kernel
theorem dX1_sharedMany_58 : decode cX1_sharedMany 58 = .ok (.invokestatic 65, 3) := by decide +kernel
theorem dX1_sharedMany_61 : decode cX1_sharedMany 61 = .ok (.istore 5, 2) := by decide +kernel
theorem dX1_sharedMany_63 : decode cX1_sharedMany 63 = .ok (.iinc 6 1, 3) := by decide +kernel
theorem dX1_sharedMany_66 : decode cX1_sharedMany 66 = .ok (.goto (-47), 3) := by decide +kernel
theorem dX1_sharedMany_69 : decode cX1_sharedMany 69 = .ok (.iload 5, 2) := by decide +kernel
theorem dX1_sharedMany_71 : decode cX1_sharedMany 71 = .ok (.ireturn, 1) := by decide +kernel
theorem dX2_init_0 : decode cX2_init 0 = .ok (.aload_n 0, 1) := by decide +kernel
theorem dX2_init_1 : decode cX2_init 1 = .ok (.invokespecial 3, 3) := by decide +kernel
theorem dX2_init_4 : decode cX2_init 4 = .ok (.aload_n 0, 1) := by decide +kernel
theorem dX2_init_5 : decode cX2_init 5 = .ok (.aload_n 1, 1) := by decide +kernel
theorem dX2_init_6 : decode cX2_init 6 = .ok (.putfield 9, 3) := by decide +kernel
theorem dX2_init_9 : decode cX2_init 9 = .ok (.aload_n 0, 1) := by decide +kernel
theorem dX2_init_10 : decode cX2_init 10 = .ok (.aload_n 2, 1) := by decide +kernel
theorem dX2_init_11 : decode cX2_init 11 = .ok (.putfield 15, 3) := by decide +kernel
theorem dX2_init_14 : decode cX2_init 14 = .ok (.aload_n 0, 1) := by decide +kernel
theorem dX2_init_15 : decode cX2_init 15 = .ok (.iconst (-1), 1) := by decide +kernel
theorem dX2_init_16 : decode cX2_init 16 = .ok (.putfield 19, 3) := by decide +kernel
theorem dX2_init_19 : decode cX2_init 19 = .ok (.aload_n 0, 1) := by decide +kernel
theorem dX2_init_20 : decode cX2_init 20 = .ok (.iconst 0, 1) := by decide +kernel
theorem dX2_init_21 : decode cX2_init 21 = .ok (.putfield 23, 3) := by decide +kernel
theorem dX2_init_24 : decode cX2_init 24 = .ok (.return_, 1) := by decide +kernel
theorem dX2_readAll_0 : decode cX2_readAll 0 = .ok (.aload_n 0, 1) := by decide +kernel
theorem dX2_readAll_1 : decode cX2_readAll 1 = .ok (.getfield 9, 3) := by decide +kernel
theorem dX2_readAll_4 : decode cX2_readAll 4 = .ok (.invokevirtual 26, 3) := by decide +kernel
theorem dX2_readAll_7 : decode cX2_readAll 7 = .ok (.aload_n 0, 1) := by decide +kernel
theorem dX2_readAll_8 : decode cX2_readAll 8 = .ok (.getfield 15, 3) := by decide +kernel
theorem dX2_readAll_11 : decode cX2_readAll 11 = .ok (.invokevirtual 31, 3) := by decide +kernel
theorem dX2_readAll_14 : decode cX2_readAll 14 = .ok (.iconst 1, 1) := by decide +kernel
theorem dX2_readAll_15 : decode cX2_readAll 15 = .ok (.istore_n 1, 1) := by decide +kernel
theorem dX2_readAll_16 : decode cX2_readAll 16 = .ok (.iconst 0, 1) := by decide +kernel
theorem dX2_readAll_17 : decode cX2_readAll 17 = .ok (.istore_n 2, 1) := by decide +kernel
theorem dX2_readAll_18 : decode cX2_readAll 18 = .ok (.iload_n 2, 1) := by decide +kernel
theorem dX2_readAll_19 : decode cX2_readAll 19 = .ok (.sipush 400, 3) := by decide +kernel
theorem dX2_readAll_22 : decode cX2_readAll 22 = .ok (.if_icmp .gt 18, 3) := by decide +kernel
theorem dX2_readAll_25 : decode cX2_readAll 25 = .ok (.iload_n 1, 1) := by decide +kernel
theorem dX2_readAll_26 : decode cX2_readAll 26 = .ok (.ifCond .eq 14, 3) := by decide +kernel
theorem dX2_readAll_29 : decode cX2_readAll 29 = .ok (.aload_n 0, 1) := by decide +kernel
theorem dX2_readAll_30 : decode cX2_readAll 30 = .ok (.invokevirtual 36, 3) := by decide +kernel
theorem dX2_readAll_33 : decode cX2_readAll 33 = .ok (.istore_n 1, 1) := by decide +kernel
theorem dX2_readAll_34 : decode cX2_readAll 34 = .ok (.iinc 2 1, 3) := by decide +kernel
theorem dX2_readAll_37 : decode cX2_readAll 37 = .ok (.goto (-19), 3) := by decide +kernel
theorem dX2_readAll_40 : decode cX2_readAll 40 = .ok (.aload_n 0, 1) := by decide +kernel
theorem dX2_readAll_41 : decode cX2_readAll 41 = .ok (.getfield 15, 3) := by decide +kernel
theorem dX2_readAll_44 : decode cX2_readAll 44 = .ok (.invokevirtual 40, 3) := by decide +kernel
theorem dX2_readAll_47 : decode cX2_readAll 47 = .ok (.aload_n 0, 1) := by decide +kernel
theorem dX2_readAll_48 : decode cX2_readAll 48 = .ok (.getfield 9, 3) := by decide +kernel
theorem dX2_readAll_51 : decode cX2_readAll 51 = .ok (.getfield 43, 3) := by decide +kernel
theorem dX2_readAll_54 : decode cX2_readAll 54 = .ok (.ifCond .ne 7, 3) := by decide +kernel
theorem dX2_readAll_57 : decode cX2_readAll 57 = .ok (.iconst 1, 1) := by decide +kernel
theorem dX2_readAll_58 : decode cX2_readAll 58 = .ok (.goto 4, 3) := by decide +kernel
theorem dX2_readAll_61 : decode cX2_readAll 61 = .ok (.iconst 0, 1) := by decide +kernel
theorem dX2_readAll_62 : decode cX2_readAll 62 = .ok (.ireturn, 1) := by decide +kernel
theorem dX2_readPart_0 : decode cX2_readPart 0 = .ok (.aload_n 0, 1) := by decide +kernel
theorem dX2_readPart_1 : decode cX2_readPart 1 = .ok (.getfield 9, 3) := by decide +kernel
theorem dX2_readPart_4 : decode cX2_readPart 4 = .ok (.invokevirtual 46, 3) := by decide +kernel
theorem dX2_readPart_7 : decode cX2_readPart 7 = .ok (.istore_n 1, 1) := by decide +kernel
theorem dX2_readPart_8 : decode cX2_readPart 8 = .ok (.iload_n 1, 1) := by decide +kernel
theorem dX2_readPart_9 : decode cX2_readPart 9 = .ok (.iconst (-1), 1) := by decide +kernel
theorem dX2_readPart_10 : decode cX2_readPart 10 = .ok (.if_icmp .ne 8, 3) := by decide +kernel
theorem dX2_readPart_13 : decode cX2_readPart 13 = .ok (.aload_n 0, 1) := by decide +kernel
theorem dX2_readPart_14 : decode cX2_readPart 14 = .ok (.invokevirtual 50, 3) := by decide +kernel
theorem dX2_readPart_17 : decode cX2_readPart 17 = .ok (.ireturn, 1) := by decide +kernel
theorem dX2_readPart_18 : decode cX2_readPart 18 = .ok (.iload_n 1, 1) := by decide +kernel
theorem dX2_readPart_19 : decode cX2_readPart 19 = .ok (.bipush 93, 2) := by decide +kernel
theorem dX2_readPart_21 : decode cX2_readPart 21 = .ok (.if_icmp .ne 10, 3) := by decide +kernel
theorem dX2_readPart_24 : decode cX2_readPart 24 = .ok (.aload_n 0, 1) := by decide +kernel
theorem dX2_readPart_25 : decode cX2_readPart 25 = .ok (.invokevirtual 53, 3) := by decide +kernel
theorem dX2_readPart_28 : decode cX2_readPart 28 = .ok (.goto 7, 3) := by decide +kernel
theorem dX2_readPart_31 : decode cX2_readPart 31 = .ok (.aload_n 0, 1) := by decide +kernel
theorem dX2_readPart_32 : decode cX2_readPart 32 = .ok (.invokevirtual 56, 3) := by decide +kernel
theorem dX2_readPart_35 : decode cX2_readPart 35 = .ok (.ireturn, 1) := by decide +kernel
theorem dX2_readEnd_0 : decode cX2_readEnd 0 = .ok (.aload_n 0, 1) := by decide +kernel
theorem dX2_readEnd_1 : decode cX2_readEnd 1 = .ok (.getfield 19, 3) := by decide +kernel
theorem dX2_readEnd_4 : decode cX2_readEnd 4 = .ok (.iconst (-1), 1) := by decide +kernel
theorem dX2_readEnd_5 : decode cX2_readEnd 5 = .ok (.if_icmp .eq 12, 3) := by decide +kernel
theorem dX2_readEnd_8 : decode cX2_readEnd 8 = .ok (.aload_n 0, 1) := by decide +kernel
theorem dX2_readEnd_9 : decode cX2_readEnd 9 = .ok (.getfield 9, 3) := by decide +kernel
theorem dX2_readEnd_12 : decode cX2_readEnd 12 = .ok (.iconst 1, 1) := by decide +kernel
theorem dX2_readEnd_13 : decode cX2_readEnd 13 = .ok (.invokevirtual 59, 3) := by decide +kernel
theorem dX2_readEnd_16 : decode cX2_readEnd 16 = .ok (.ireturn, 1) := by decide +kernel
theorem dX2_readEnd_17 : decode cX2_readEnd 17 = .ok (.aload_n 0, 1) := by decide +kernel
theorem dX2_readEnd_18 : decode cX2_readEnd 18 = .ok (.getfield 15, 3) := by decide +kernel
theorem dX2_readEnd_21 : decode cX2_readEnd 21 = .ok (.getfield 63, 3) := by decide +kernel
theorem dX2_readEnd_24 : decode cX2_readEnd 24 = .ok (.ifCond .ne 12, 3) := by decide +kernel
theorem dX2_readEnd_27 : decode cX2_readEnd 27 = .ok (.aload_n 0, 1) := by decide +kernel
theorem dX2_readEnd_28 : decode cX2_readEnd 28 = .ok (.getfield 9, 3) := by decide +kernel
theorem dX2_readEnd_31 : decode cX2_readEnd 31 = .ok (.iconst 3, 1) := by decide +kernel
theorem dX2_readEnd_32 : decode cX2_readEnd 32 = .ok (.invokevirtual 59, 3) := by decide +kernel
theorem dX2_readEnd_35 : decode cX2_readEnd 35 = .ok (.ireturn, 1) := by decide +kernel
theorem dX2_readEnd_36 : decode cX2_readEnd 36 = .ok (.iconst 0, 1) := by decide +kernel
theorem dX2_readEnd_37 : decode cX2_readEnd 37 = .ok (.ireturn, 1) := by decide +kernel
theorem dX2_readClose_0 : decode cX2_readClose 0 = .ok (.aload_n 0, 1) := by decide +kernel
theorem dX2_readClose_1 : decode cX2_readClose 1 = .ok (.getfield 15, 3) := by decide +kernel
theorem dX2_readClose_4 : decode cX2_readClose 4 = .ok (.aload_n 0, 1) := by decide +kernel
theorem dX2_readClose_5 : decode cX2_readClose 5 = .ok (.getfield 19, 3) := by decide +kernel
theorem dX2_readClose_8 : decode cX2_readClose 8 = .ok (.invokevirtual 66, 3) := by decide +kernel
theorem dX2_readClose_11 : decode cX2_readClose 11 = .ok (.ifCond .ne 12, 3) := by decide +kernel
theorem dX2_readClose_14 : decode cX2_readClose 14 = .ok (.aload_n 0, 1) := by decide +kernel
theorem dX2_readClose_15 : decode cX2_readClose 15 = .ok (.getfield 9, 3) := by decide +kernel
theorem dX2_readClose_18 : decode cX2_readClose 18 = .ok (.iconst 1, 1) := by decide +kernel
theorem dX2_readClose_19 : decode cX2_readClose 19 = .ok (.invokevirtual 59, 3) := by decide +kernel
theorem dX2_readClose_22 : decode cX2_readClose 22 = .ok (.ireturn, 1) := by decide +kernel
theorem dX2_readClose_23 : decode cX2_readClose 23 = .ok (.aload_n 0, 1) := by decide +kernel
theorem dX2_readClose_24 : decode cX2_readClose 24 = .ok (.getfield 15, 3) := by decide +kernel
theorem dX2_readClose_27 : decode cX2_readClose 27 = .ok (.getfield 63, 3) := by decide +kernel
theorem dX2_readClose_30 : decode cX2_readClose 30 = .ok (.aload_n 0, 1) := by decide +kernel
theorem dX2_readClose_31 : decode cX2_readClose 31 = .ok (.getfield 19, 3) := by decide +kernel
theorem dX2_readClose_34 : decode cX2_readClose 34 = .ok (.iconst 1, 1) := by decide +kernel
theorem dX2_readClose_35 : decode cX2_readClose 35 = .ok (.iadd, 1) := by decide +kernel
theorem dX2_readClose_36 : decode cX2_readClose 36 = .ok (.if_icmp .ne 12, 3) := by decide +kernel
theorem dX2_readClose_39 : decode cX2_readClose 39 = .ok (.aload_n 0, 1) := by decide +kernel
theorem dX2_readClose_40 : decode cX2_readClose 40 = .ok (.getfield 9, 3) := by decide +kernel
theorem dX2_readClose_43 : decode cX2_readClose 43 = .ok (.iconst 3, 1) := by decide +kernel
theorem dX2_readClose_44 : decode cX2_readClose 44 = .ok (.invokevirtual 59, 3) := by decide +kernel
theorem dX2_readClose_47 : decode cX2_readClose 47 = .ok (.ireturn, 1) := by decide +kernel
theorem dX2_readClose_48 : decode cX2_readClose 48 = .ok (.aload_n 0, 1) := by decide +kernel
theorem dX2_readClose_49 : decode cX2_readClose 49 = .ok (.getfield 9, 3) := by decide +kernel
theorem dX2_readClose_52 : decode cX2_readClose 52 = .ok (.dup, 1) := by decide +kernel
theorem dX2_readClose_53 : decode cX2_readClose 53 = .ok (.getfield 69, 3) := by decide +kernel
theorem dX2_readClose_56 : decode cX2_readClose 56 = .ok (.iconst 1, 1) := by decide +kernel
theorem dX2_readClose_57 : decode cX2_readClose 57 = .ok (.iadd, 1) := by decide +kernel
theorem dX2_readClose_58 : decode cX2_readClose 58 = .ok (.putfield 69, 3) := by decide +kernel
theorem dX2_readClose_61 : decode cX2_readClose 61 = .ok (.aload_n 0, 1) := by decide +kernel
theorem dX2_readClose_62 : decode cX2_readClose 62 = .ok (.getfield 19, 3) := by decide +kernel
theorem dX2_readClose_65 : decode cX2_readClose 65 = .ok (.istore_n 1, 1) := by decide +kernel
theorem dX2_readClose_66 : decode cX2_readClose 66 = .ok (.aload_n 0, 1) := by decide +kernel
theorem dX2_readClose_67 : decode cX2_readClose 67 = .ok (.getfield 15, 3) := by decide +kernel
theorem dX2_readClose_70 : decode cX2_readClose 70 = .ok (.getfield 72, 3) := by decide +kernel
theorem dX2_readClose_73 : decode cX2_readClose 73 = .ok (.iload_n 1, 1) := by decide +kernel
theorem dX2_readClose_74 : decode cX2_readClose 74 = .ok (.aload_n 0, 1) := by decide +kernel
theorem dX2_readClose_75 : decode cX2_readClose 75 = .ok (.getfield 15, 3) := by decide +kernel
theorem dX2_readClose_78 : decode cX2_readClose 78 = .ok (.getfield 63, 3) := by decide +kernel
theorem dX2_readClose_81 : decode cX2_readClose 81 = .ok (.iastore, 1) := by decide +kernel
theorem dX2_readClose_82 : decode cX2_readClose 82 = .ok (.aload_n 0, 1) := by decide +kernel
theorem dX2_readClose_83 : decode cX2_readClose 83 = .ok (.aload_n 0, 1) := by decide +kernel
theorem dX2_readClose_84 : decode cX2_readClose 84 = .ok (.getfield 15, 3) := by decide +kernel
theorem dX2_readClose_87 : decode cX2_readClose 87 = .ok (.getfield 76, 3) := by decide +kernel
theorem dX2_readClose_90 : decode cX2_readClose 90 = .ok (.iload_n 1, 1) := by decide +kernel
theorem dX2_readClose_91 : decode cX2_readClose 91 = .ok (.iaload, 1) := by decide +kernel
theorem dX2_readClose_92 : decode cX2_readClose 92 = .ok (.putfield 19, 3) := by decide +kernel
theorem dX2_readClose_95 : decode cX2_readClose 95 = .ok (.aload_n 0, 1) := by decide +kernel
theorem dX2_readClose_96 : decode cX2_readClose 96 = .ok (.dup, 1) := by decide +kernel
theorem dX2_readClose_97 : decode cX2_readClose 97 = .ok (.getfield 23, 3) := by decide +kernel
theorem dX2_readClose_100 : decode cX2_readClose 100 = .ok (.iconst 1, 1) := by decide +kernel
theorem dX2_readClose_101 : decode cX2_readClose 101 = .ok (.isub, 1) := by decide +kernel
theorem dX2_readClose_102 : decode cX2_readClose 102 = .ok (.putfield 23, 3) := by decide +kernel
theorem dX2_readClose_105 : decode cX2_readClose 105 = .ok (.aload_n 0, 1) := by decide +kernel
theorem dX2_readClose_106 : decode cX2_readClose 106 = .ok (.iload_n 1, 1) := by decide +kernel
theorem dX2_readClose_107 : decode cX2_readClose 107 = .ok (.invokevirtual 79, 3) := by decide +kernel
theorem dX2_readClose_110 : decode cX2_readClose 110 = .ok (.ireturn, 1) := by decide +kernel
theorem dX2_readField_0 : decode cX2_readField 0 = .ok (.aload_n 0, 1) := by decide +kernel
theorem dX2_readField_1 : decode cX2_readField 1 = .ok (.invokevirtual 82, 3) := by decide +kernel
theorem dX2_readField_4 : decode cX2_readField 4 = .ok (.ifCond .ne 5, 3) := by decide +kernel
theorem dX2_readField_7 : decode cX2_readField 7 = .ok (.iconst 0, 1) := by decide +kernel
theorem dX2_readField_8 : decode cX2_readField 8 = .ok (.ireturn, 1) := by decide +kernel
theorem dX2_readField_9 : decode cX2_readField 9 = .ok (.aload_n 0, 1) := by decide +kernel
theorem dX2_readField_10 : decode cX2_readField 10 = .ok (.getfield 15, 3) := by decide +kernel
theorem dX2_readField_13 : decode cX2_readField 13 = .ok (.aload_n 0, 1) := by decide +kernel
theorem dX2_readField_14 : decode cX2_readField 14 = .ok (.getfield 9, 3) := by decide +kernel
theorem dX2_readField_17 : decode cX2_readField 17 = .ok (.getfield 85, 3) := by decide +kernel
theorem dX2_readField_20 : decode cX2_readField 20 = .ok (.aload_n 0, 1) := by decide +kernel
theorem dX2_readField_21 : decode cX2_readField 21 = .ok (.getfield 19, 3) := by decide +kernel
theorem dX2_readField_24 : decode cX2_readField 24 = .ok (.invokevirtual 89, 3) := by decide +kernel
theorem dX2_readField_27 : decode cX2_readField 27 = .ok (.istore_n 1, 1) := by decide +kernel
theorem dX2_readField_28 : decode cX2_readField 28 = .ok (.iload_n 1, 1) := by decide +kernel
theorem dX2_readField_29 : decode cX2_readField 29 = .ok (.iconst (-1), 1) := by decide +kernel
theorem dX2_readField_30 : decode cX2_readField 30 = .ok (.if_icmp .ne 19, 3) := by decide +kernel
theorem dX2_readField_33 : decode cX2_readField 33 = .ok (.aload_n 0, 1) := by decide +kernel
theorem dX2_readField_34 : decode cX2_readField 34 = .ok (.getfield 9, 3) := by decide +kernel
theorem dX2_readField_37 : decode cX2_readField 37 = .ok (.iconst 3, 1) := by decide +kernel
theorem dX2_readField_38 : decode cX2_readField 38 = .ok (.aload_n 0, 1) := by decide +kernel
theorem dX2_readField_39 : decode cX2_readField 39 = .ok (.getfield 9, 3) := by decide +kernel
theorem dX2_readField_42 : decode cX2_readField 42 = .ok (.getfield 93, 3) := by decide +kernel
theorem dX2_readField_45 : decode cX2_readField 45 = .ok (.invokevirtual 96, 3) := by decide +kernel
theorem dX2_readField_48 : decode cX2_readField 48 = .ok (.ireturn, 1) := by decide +kernel
theorem dX2_readField_49 : decode cX2_readField 49 = .ok (.aload_n 0, 1) := by decide +kernel
theorem dX2_readField_50 : decode cX2_readField 50 = .ok (.getfield 9, 3) := by decide +kernel
theorem dX2_readField_53 : decode cX2_readField 53 = .ok (.invokevirtual 46, 3) := by decide +kernel
theorem dX2_readField_56 : decode cX2_readField 56 = .ok (.bipush 91, 2) := by decide +kernel
theorem dX2_readField_58 : decode cX2_readField 58 = .ok (.if_icmp .ne 11, 3) := by decide +kernel
theorem dX2_readField_61 : decode cX2_readField 61 = .ok (.aload_n 0, 1) := by decide +kernel
theorem dX2_readField_62 : decode cX2_readField 62 = .ok (.iload_n 1, 1) := by decide +kernel
theorem dX2_readField_63 : decode cX2_readField 63 = .ok (.invokevirtual 100, 3) := by decide +kernel
theorem dX2_readField_66 : decode cX2_readField 66 = .ok (.goto 8, 3) := by decide +kernel
theorem dX2_readField_69 : decode cX2_readField 69 = .ok (.aload_n 0, 1) := by decide +kernel
theorem dX2_readField_70 : decode cX2_readField 70 = .ok (.iload_n 1, 1) := by decide +kernel
theorem dX2_readField_71 : decode cX2_readField 71 = .ok (.invokevirtual 103, 3) := by decide +kernel
theorem dX2_readField_74 : decode cX2_readField 74 = .ok (.ireturn, 1) := by decide +kernel
theorem dX2_readName_0 : decode cX2_readName 0 = .ok (.aload_n 0, 1) := by decide +kernel
theorem dX2_readName_1 : decode cX2_readName 1 = .ok (.getfield 9, 3) := by decide +kernel
theorem dX2_readName_4 : decode cX2_readName 4 = .ok (.invokevirtual 106, 3) := by decide +kernel
theorem dX2_readName_7 : decode cX2_readName 7 = .ok (.aload_n 0, 1) := by decide +kernel
theorem dX2_readName_8 : decode cX2_readName 8 = .ok (.getfield 9, 3) := by decide +kernel
theorem dX2_readName_11 : decode cX2_readName 11 = .ok (.getfield 109, 3) := by decide +kernel
theorem dX2_readName_14 : decode cX2_readName 14 = .ok (.ifCond .eq 16, 3) := by decide +kernel
theorem dX2_readName_17 : decode cX2_readName 17 = .ok (.aload_n 0, 1) := by decide +kernel
theorem dX2_readName_18 : decode cX2_readName 18 = .ok (.getfield 9, 3) := by decide +kernel
theorem dX2_readName_21 : decode cX2_readName 21 = .ok (.getfield 85, 3) := by decide +kernel
theorem dX2_readName_24 : decode cX2_readName 24 = .ok (.invokestatic 112, 3) := by decide +kernel
theorem dX2_readName_27 : decode cX2_readName 27 = .ok (.ifCond .eq 19, 3) := by decide +kernel
theorem dX2_readName_30 : decode cX2_readName 30 = .ok (.aload_n 0, 1) := by decide +kernel
theorem dX2_readName_31 : decode cX2_readName 31 = .ok (.getfield 9, 3) := by decide +kernel
theorem dX2_readName_34 : decode cX2_readName 34 = .ok (.iconst 1, 1) := by decide +kernel
theorem dX2_readName_35 : decode cX2_readName 35 = .ok (.aload_n 0, 1) := by decide +kernel
theorem dX2_readName_36 : decode cX2_readName 36 = .ok (.getfield 9, 3) := by decide +kernel
theorem dX2_readName_39 : decode cX2_readName 39 = .ok (.getfield 93, 3) := by decide +kernel
theorem dX2_readName_42 : decode cX2_readName 42 = .ok (.invokevirtual 96, 3) := by decide +kernel
theorem dX2_readName_45 : decode cX2_readName 45 = .ok (.ireturn, 1) := by decide +kernel
theorem dX2_readName_46 : decode cX2_readName 46 = .ok (.aload_n 0, 1) := by decide +kernel
theorem dX2_readName_47 : decode cX2_readName 47 = .ok (.getfield 9, 3) := by decide +kernel
theorem dX2_readName_50 : decode cX2_readName 50 = .ok (.getfield 109, 3) := by decide +kernel
theorem dX2_readName_53 : decode cX2_readName 53 = .ok (.bipush 8, 2) := by decide +kernel
theorem dX2_readName_55 : decode cX2_readName 55 = .ok (.if_icmp .le 11, 3) := by decide +kernel
theorem dX2_readName_58 : decode cX2_readName 58 = .ok (.aload_n 0, 1) := by decide +kernel
theorem dX2_readName_59 : decode cX2_readName 59 = .ok (.getfield 9, 3) := by decide +kernel
theorem dX2_readName_62 : decode cX2_readName 62 = .ok (.invokevirtual 116, 3) := by decide +kernel
theorem dX2_readName_65 : decode cX2_readName 65 = .ok (.ireturn, 1) := by decide +kernel
theorem dX2_readName_66 : decode cX2_readName 66 = .ok (.aload_n 0, 1) := by decide +kernel
theorem dX2_readName_67 : decode cX2_readName 67 = .ok (.getfield 15, 3) := by decide +kernel
theorem dX2_readName_70 : decode cX2_readName 70 = .ok (.aload_n 0, 1) := by decide +kernel
theorem dX2_readName_71 : decode cX2_readName 71 = .ok (.getfield 19, 3) := by decide +kernel
theorem dX2_readName_74 : decode cX2_readName 74 = .ok (.aload_n 0, 1) := by decide +kernel
theorem dX2_readName_75 : decode cX2_readName 75 = .ok (.getfield 9, 3) := by decide +kernel
theorem dX2_readName_78 : decode cX2_readName 78 = .ok (.getfield 85, 3) := by decide +kernel
theorem dX2_readName_81 : decode cX2_readName 81 = .ok (.invokevirtual 119, 3) := by decide +kernel
theorem dX2_readName_84 : decode cX2_readName 84 = .ok (.iconst (-1), 1) := by decide +kernel
theorem dX2_readName_85 : decode cX2_readName 85 = .ok (.if_icmp .eq 19, 3) := by decide +kernel
theorem dX2_readName_88 : decode cX2_readName 88 = .ok (.aload_n 0, 1) := by decide +kernel
theorem dX2_readName_89 : decode cX2_readName 89 = .ok (.getfield 9, 3) := by decide +kernel
theorem dX2_readName_92 : decode cX2_readName 92 = .ok (.iconst 2, 1) := by decide +kernel
theorem dX2_readName_93 : decode cX2_readName 93 = .ok (.aload_n 0, 1) := by decide +kernel
theorem dX2_readName_94 : decode cX2_readName 94 = .ok (.getfield 9, 3) := by decide +kernel
theorem dX2_readName_97 : decode cX2_readName 97 = .ok (.getfield 93, 3) := by decide +kernel
theorem dX2_readName_100 : decode cX2_readName 100 = .ok (.invokevirtual 96, 3) := by decide +kernel
theorem dX2_readName_103 : decode cX2_readName 103 = .ok (.ireturn, 1) := by decide +kernel
theorem dX2_readName_104 : decode cX2_readName 104 = .ok (.iconst 1, 1) := by decide +kernel
theorem dX2_readName_105 : decode cX2_readName 105 = .ok (.ireturn, 1) := by decide +kernel
theorem dX2_readOpen_0 : decode cX2_readOpen 0 = .ok (.aload_n 0, 1) := by decide +kernel
theorem dX2_readOpen_1 : decode cX2_readOpen 1 = .ok (.getfield 23, 3) := by decide +kernel
theorem dX2_readOpen_4 : decode cX2_readOpen 4 = .ok (.iconst 4, 1) := by decide +kernel
theorem dX2_readOpen_5 : decode cX2_readOpen 5 = .ok (.if_icmp .lt 12, 3) := by decide +kernel
theorem dX2_readOpen_8 : decode cX2_readOpen 8 = .ok (.aload_n 0, 1) := by decide +kernel
theorem dX2_readOpen_9 : decode cX2_readOpen 9 = .ok (.getfield 9, 3) := by decide +kernel
theorem dX2_readOpen_12 : decode cX2_readOpen 12 = .ok (.iconst 3, 1) := by decide +kernel
theorem dX2_readOpen_13 : decode cX2_readOpen 13 = .ok (.invokevirtual 59, 3) := by decide +kernel
theorem dX2_readOpen_16 : decode cX2_readOpen 16 = .ok (.ireturn, 1) := by decide +kernel
theorem dX2_readOpen_17 : decode cX2_readOpen 17 = .ok (.aload_n 0, 1) := by decide +kernel
theorem dX2_readOpen_18 : decode cX2_readOpen 18 = .ok (.getfield 9, 3) := by decide +kernel
theorem dX2_readOpen_21 : decode cX2_readOpen 21 = .ok (.dup, 1) := by decide +kernel
theorem dX2_readOpen_22 : decode cX2_readOpen 22 = .ok (.getfield 69, 3) := by decide +kernel
theorem dX2_readOpen_25 : decode cX2_readOpen 25 = .ok (.iconst 1, 1) := by decide +kernel
theorem dX2_readOpen_26 : decode cX2_readOpen 26 = .ok (.iadd, 1) := by decide +kernel
theorem dX2_readOpen_27 : decode cX2_readOpen 27 = .ok (.putfield 69, 3) := by decide +kernel
theorem dX2_readOpen_30 : decode cX2_readOpen 30 = .ok (.aload_n 0, 1) := by decide +kernel
theorem dX2_readOpen_31 : decode cX2_readOpen 31 = .ok (.iload_n 1, 1) := by decide +kernel
theorem dX2_readOpen_32 : decode cX2_readOpen 32 = .ok (.putfield 19, 3) := by decide +kernel
theorem dX2_readOpen_35 : decode cX2_readOpen 35 = .ok (.aload_n 0, 1) := by decide +kernel
theorem dX2_readOpen_36 : decode cX2_readOpen 36 = .ok (.dup, 1) := by decide +kernel
theorem dX2_readOpen_37 : decode cX2_readOpen 37 = .ok (.getfield 23, 3) := by decide +kernel
theorem dX2_readOpen_40 : decode cX2_readOpen 40 = .ok (.iconst 1, 1) := by decide +kernel
theorem dX2_readOpen_41 : decode cX2_readOpen 41 = .ok (.iadd, 1) := by decide +kernel
theorem dX2_readOpen_42 : decode cX2_readOpen 42 = .ok (.putfield 23, 3) := by decide +kernel
theorem dX2_readOpen_45 : decode cX2_readOpen 45 = .ok (.iconst 1, 1) := by decide +kernel
theorem dX2_readOpen_46 : decode cX2_readOpen 46 = .ok (.ireturn, 1) := by decide +kernel
theorem dX2_readLeaf_0 : decode cX2_readLeaf 0 = .ok (.aload_n 0, 1) := by decide +kernel
theorem dX2_readLeaf_1 : decode cX2_readLeaf 1 = .ok (.getfield 9, 3) := by decide +kernel
theorem dX2_readLeaf_4 : decode cX2_readLeaf 4 = .ok (.invokevirtual 106, 3) := by decide +kernel
theorem dX2_readLeaf_7 : decode cX2_readLeaf 7 = .ok (.aload_n 0, 1) := by decide +kernel
theorem dX2_readLeaf_8 : decode cX2_readLeaf 8 = .ok (.getfield 9, 3) := by decide +kernel
theorem dX2_readLeaf_11 : decode cX2_readLeaf 11 = .ok (.getfield 85, 3) := by decide +kernel
theorem dX2_readLeaf_14 : decode cX2_readLeaf 14 = .ok (.ldc2_w 123, 3) := by decide +kernel
theorem dX2_readLeaf_17 : decode cX2_readLeaf 17 = .ok (.lcmp, 1) := by decide +kernel
theorem dX2_readLeaf_18 : decode cX2_readLeaf 18 = .ok (.ifCond .ne 7, 3) := by decide +kernel
theorem dX2_readLeaf_21 : decode cX2_readLeaf 21 = .ok (.iconst 1, 1) := by decide +kernel
theorem dX2_readLeaf_22 : decode cX2_readLeaf 22 = .ok (.goto 4, 3) := by decide +kernel
theorem dX2_readLeaf_25 : decode cX2_readLeaf 25 = .ok (.iconst 0, 1) := by decide +kernel
theorem dX2_readLeaf_26 : decode cX2_readLeaf 26 = .ok (.istore_n 2, 1) := by decide +kernel
theorem dX2_readLeaf_27 : decode cX2_readLeaf 27 = .ok (.iload_n 2, 1) := by decide +kernel
theorem dX2_readLeaf_28 : decode cX2_readLeaf 28 = .ok (.ifCond .ne 33, 3) := by decide +kernel
theorem dX2_readLeaf_31 : decode cX2_readLeaf 31 = .ok (.aload_n 0, 1) := by decide +kernel
theorem dX2_readLeaf_32 : decode cX2_readLeaf 32 = .ok (.getfield 9, 3) := by decide +kernel
theorem dX2_readLeaf_35 : decode cX2_readLeaf 35 = .ok (.getfield 85, 3) := by decide +kernel
theorem dX2_readLeaf_38 : decode cX2_readLeaf 38 = .ok (.ldc2_w 125, 3) := by decide +kernel
theorem dX2_readLeaf_41 : decode cX2_readLeaf 41 = .ok (.lcmp, 1) := by decide +kernel
theorem dX2_readLeaf_42 : decode cX2_readLeaf 42 = .ok (.ifCond .eq 19, 3) := by decide +kernel
theorem dX2_readLeaf_45 : decode cX2_readLeaf 45 = .ok (.aload_n 0, 1) := by decide +kernel
theorem dX2_readLeaf_46 : decode cX2_readLeaf 46 = .ok (.getfield 9, 3) := by decide +kernel
theorem dX2_readLeaf_49 : decode cX2_readLeaf 49 = .ok (.iconst 1, 1) := by decide +kernel
theorem dX2_readLeaf_50 : decode cX2_readLeaf 50 = .ok (.aload_n 0, 1) := by decide +kernel
theorem dX2_readLeaf_51 : decode cX2_readLeaf 51 = .ok (.getfield 9, 3) := by decide +kernel
theorem dX2_readLeaf_54 : decode cX2_readLeaf 54 = .ok (.getfield 93, 3) := by decide +kernel
theorem dX2_readLeaf_57 : decode cX2_readLeaf 57 = .ok (.invokevirtual 96, 3) := by decide +kernel
theorem dX2_readLeaf_60 : decode cX2_readLeaf 60 = .ok (.ireturn, 1) := by decide +kernel
theorem dX2_readLeaf_61 : decode cX2_readLeaf 61 = .ok (.aload_n 0, 1) := by decide +kernel
theorem dX2_readLeaf_62 : decode cX2_readLeaf 62 = .ok (.getfield 15, 3) := by decide +kernel
theorem dX2_readLeaf_65 : decode cX2_readLeaf 65 = .ok (.iload_n 1, 1) := by decide +kernel
theorem dX2_readLeaf_66 : decode cX2_readLeaf 66 = .ok (.iload_n 2, 1) := by decide +kernel
theorem dX2_readLeaf_67 : decode cX2_readLeaf 67 = .ok (.ifCond .eq 7, 3) := by decide +kernel
theorem dX2_readLeaf_70 : decode cX2_readLeaf 70 = .ok (.iconst 1, 1) := by decide +kernel
theorem dX2_readLeaf_71 : decode cX2_readLeaf 71 = .ok (.goto 4, 3) := by decide +kernel
theorem dX2_readLeaf_74 : decode cX2_readLeaf 74 = .ok (.iconst 2, 1) := by decide +kernel
theorem dX2_readLeaf_75 : decode cX2_readLeaf 75 = .ok (.invokevirtual 127, 3) := by decide +kernel
theorem dX2_readLeaf_78 : decode cX2_readLeaf 78 = .ok (.ifCond .ne 19, 3) := by decide +kernel
theorem dX2_readLeaf_81 : decode cX2_readLeaf 81 = .ok (.aload_n 0, 1) := by decide +kernel
theorem dX2_readLeaf_82 : decode cX2_readLeaf 82 = .ok (.getfield 9, 3) := by decide +kernel
theorem dX2_readLeaf_85 : decode cX2_readLeaf 85 = .ok (.iconst 3, 1) := by decide +kernel
theorem dX2_readLeaf_86 : decode cX2_readLeaf 86 = .ok (.aload_n 0, 1) := by decide +kernel
theorem dX2_readLeaf_87 : decode cX2_readLeaf 87 = .ok (.getfield 9, 3) := by decide +kernel
theorem dX2_readLeaf_90 : decode cX2_readLeaf 90 = .ok (.getfield 93, 3) := by decide +kernel
theorem dX2_readLeaf_93 : decode cX2_readLeaf 93 = .ok (.invokevirtual 96, 3) := by decide +kernel
theorem dX2_readLeaf_96 : decode cX2_readLeaf 96 = .ok (.ireturn, 1) := by decide +kernel
theorem dX2_readLeaf_97 : decode cX2_readLeaf 97 = .ok (.aload_n 0, 1) := by decide +kernel
theorem dX2_readLeaf_98 : decode cX2_readLeaf 98 = .ok (.iload_n 1, 1) := by decide +kernel
theorem dX2_readLeaf_99 : decode cX2_readLeaf 99 = .ok (.invokevirtual 79, 3) := by decide +kernel
theorem dX2_readLeaf_102 : decode cX2_readLeaf 102 = .ok (.ireturn, 1) := by decide +kernel
theorem dX2_readMark_0 : decode cX2_readMark 0 = .ok (.aload_n 0, 1) := by decide +kernel
theorem dX2_readMark_1 : decode cX2_readMark 1 = .ok (.getfield 9, 3) := by decide +kernel
theorem dX2_readMark_4 : decode cX2_readMark 4 = .ok (.invokevirtual 106, 3) := by decide +kernel
theorem dX2_readMark_7 : decode cX2_readMark 7 = .ok (.aload_n 0, 1) := by decide +kernel
theorem dX2_readMark_8 : decode cX2_readMark 8 = .ok (.getfield 9, 3) := by decide +kernel
theorem dX2_readMark_11 : decode cX2_readMark 11 = .ok (.getfield 85, 3) := by decide +kernel
theorem dX2_readMark_14 : decode cX2_readMark 14 = .ok (.invokestatic 130, 3) := by decide +kernel
theorem dX2_readMark_17 : decode cX2_readMark 17 = .ok (.istore_n 2, 1) := by decide +kernel
theorem dX2_readMark_18 : decode cX2_readMark 18 = .ok (.iload_n 2, 1) := by decide +kernel
theorem dX2_readMark_19 : decode cX2_readMark 19 = .ok (.iconst (-1), 1) := by decide +kernel
theorem dX2_readMark_20 : decode cX2_readMark 20 = .ok (.if_icmp .eq 14, 3) := by decide +kernel
theorem dX2_readMark_23 : decode cX2_readMark 23 = .ok (.aload_n 0, 1) := by decide +kernel
theorem dX2_readMark_24 : decode cX2_readMark 24 = .ok (.getfield 15, 3) := by decide +kernel
theorem dX2_readMark_27 : decode cX2_readMark 27 = .ok (.iload_n 1, 1) := by decide +kernel
theorem dX2_readMark_28 : decode cX2_readMark 28 = .ok (.invokevirtual 66, 3) := by decide +kernel
theorem dX2_readMark_31 : decode cX2_readMark 31 = .ok (.ifCond .ne 19, 3) := by decide +kernel
theorem dX2_readMark_34 : decode cX2_readMark 34 = .ok (.aload_n 0, 1) := by decide +kernel
theorem dX2_readMark_35 : decode cX2_readMark 35 = .ok (.getfield 9, 3) := by decide +kernel
theorem dX2_readMark_38 : decode cX2_readMark 38 = .ok (.iconst 1, 1) := by decide +kernel
theorem dX2_readMark_39 : decode cX2_readMark 39 = .ok (.aload_n 0, 1) := by decide +kernel
theorem dX2_readMark_40 : decode cX2_readMark 40 = .ok (.getfield 9, 3) := by decide +kernel
theorem dX2_readMark_43 : decode cX2_readMark 43 = .ok (.getfield 93, 3) := by decide +kernel
theorem dX2_readMark_46 : decode cX2_readMark 46 = .ok (.invokevirtual 96, 3) := by decide +kernel
theorem dX2_readMark_49 : decode cX2_readMark 49 = .ok (.ireturn, 1) := by decide +kernel
theorem dX2_readMark_50 : decode cX2_readMark 50 = .ok (.aload_n 0, 1) := by decide +kernel
theorem dX2_readMark_51 : decode cX2_readMark 51 = .ok (.getfield 15, 3) := by decide +kernel
theorem dX2_readMark_54 : decode cX2_readMark 54 = .ok (.getfield 134, 3) := by decide +kernel
theorem dX2_readMark_57 : decode cX2_readMark 57 = .ok (.iload_n 1, 1) := by decide +kernel
theorem dX2_readMark_58 : decode cX2_readMark 58 = .ok (.iload_n 2, 1) := by decide +kernel
theorem dX2_readMark_59 : decode cX2_readMark 59 = .ok (.iastore, 1) := by decide +kernel
theorem dX2_readMark_60 : decode cX2_readMark 60 = .ok (.aload_n 0, 1) := by decide +kernel
theorem dX2_readMark_61 : decode cX2_readMark 61 = .ok (.getfield 9, 3) := by decide +kernel
theorem dX2_readMark_64 : decode cX2_readMark 64 = .ok (.bipush 59, 2) := by decide +kernel
theorem dX2_readMark_66 : decode cX2_readMark 66 = .ok (.invokevirtual 137, 3) := by decide +kernel
theorem dX2_readMark_69 : decode cX2_readMark 69 = .ok (.ireturn, 1) := by decide +kernel
theorem dX2_markOf_0 : decode cX2_markOf 0 = .ok (.lload_n 0, 1) := by decide +kernel
theorem dX2_markOf_1 : decode cX2_markOf 1 = .ok (.ldc2_w 140, 3) := by decide +kernel
theorem dX2_markOf_4 : decode cX2_markOf 4 = .ok (.lcmp, 1) := by decide +kernel
theorem dX2_markOf_5 : decode cX2_markOf 5 = .ok (.ifCond .ne 5, 3) := by decide +kernel
theorem dX2_markOf_8 : decode cX2_markOf 8 = .ok (.iconst 1, 1) := by decide +kernel
theorem dX2_markOf_9 : decode cX2_markOf 9 = .ok (.ireturn, 1) := by decide +kernel
theorem dX2_markOf_10 : decode cX2_markOf 10 = .ok (.lload_n 0, 1) := by decide +kernel
theorem dX2_markOf_11 : decode cX2_markOf 11 = .ok (.ldc2_w 142, 3) := by decide +kernel
theorem dX2_markOf_14 : decode cX2_markOf 14 = .ok (.lcmp, 1) := by decide +kernel
theorem dX2_markOf_15 : decode cX2_markOf 15 = .ok (.ifCond .ne 5, 3) := by decide +kernel
theorem dX2_markOf_18 : decode cX2_markOf 18 = .ok (.iconst 2, 1) := by decide +kernel
theorem dX2_markOf_19 : decode cX2_markOf 19 = .ok (.ireturn, 1) := by decide +kernel
theorem dX2_markOf_20 : decode cX2_markOf 20 = .ok (.lload_n 0, 1) := by decide +kernel
theorem dX2_markOf_21 : decode cX2_markOf 21 = .ok (.ldc2_w 144, 3) := by decide +kernel
theorem dX2_markOf_24 : decode cX2_markOf 24 = .ok (.lcmp, 1) := by decide +kernel
theorem dX2_markOf_25 : decode cX2_markOf 25 = .ok (.ifCond .ne 7, 3) := by decide +kernel
theorem dX2_markOf_28 : decode cX2_markOf 28 = .ok (.iconst 3, 1) := by decide +kernel
theorem dX2_markOf_29 : decode cX2_markOf 29 = .ok (.goto 4, 3) := by decide +kernel
theorem dX2_markOf_32 : decode cX2_markOf 32 = .ok (.iconst (-1), 1) := by decide +kernel
theorem dX2_markOf_33 : decode cX2_markOf 33 = .ok (.ireturn, 1) := by decide +kernel
theorem dX2_isKeyWord_0 : decode cX2_isKeyWord 0 = .ok (.lload_n 0, 1) := by decide +kernel
theorem dX2_isKeyWord_1 : decode cX2_isKeyWord 1 = .ok (.ldc2_w 123, 3) := by decide +kernel
theorem dX2_isKeyWord_4 : decode cX2_isKeyWord 4 = .ok (.lcmp, 1) := by decide +kernel
theorem dX2_isKeyWord_5 : decode cX2_isKeyWord 5 = .ok (.ifCond .eq 19, 3) := by decide +kernel
theorem dX2_isKeyWord_8 : decode cX2_isKeyWord 8 = .ok (.lload_n 0, 1) := by decide +kernel
theorem dX2_isKeyWord_9 : decode cX2_isKeyWord 9 = .ok (.ldc2_w 125, 3) := by decide +kernel
theorem dX2_isKeyWord_12 : decode cX2_isKeyWord 12 = .ok (.lcmp, 1) := by decide +kernel
theorem dX2_isKeyWord_13 : decode cX2_isKeyWord 13 = .ok (.ifCond .eq 11, 3) := by decide +kernel
theorem dX2_isKeyWord_16 : decode cX2_isKeyWord 16 = .ok (.lload_n 0, 1) := by decide +kernel
theorem dX2_isKeyWord_17 : decode cX2_isKeyWord 17 = .ok (.invokestatic 130, 3) := by decide +kernel
theorem dX2_isKeyWord_20 : decode cX2_isKeyWord 20 = .ok (.iconst (-1), 1) := by decide +kernel
theorem dX2_isKeyWord_21 : decode cX2_isKeyWord 21 = .ok (.if_icmp .eq 7, 3) := by decide +kernel
theorem dX2_isKeyWord_24 : decode cX2_isKeyWord 24 = .ok (.iconst 1, 1) := by decide +kernel
theorem dX2_isKeyWord_25 : decode cX2_isKeyWord 25 = .ok (.goto 4, 3) := by decide +kernel
theorem dX2_isKeyWord_28 : decode cX2_isKeyWord 28 = .ok (.iconst 0, 1) := by decide +kernel
theorem dX2_isKeyWord_29 : decode cX2_isKeyWord 29 = .ok (.ireturn, 1) := by decide +kernel
theorem dX3_init_0 : decode cX3_init 0 = .ok (.aload_n 0, 1) := by decide +kernel
theorem dX3_init_1 : decode cX3_init 1 = .ok (.invokespecial 3, 3) := by decide +kernel
theorem dX3_init_4 : decode cX3_init 4 = .ok (.aload_n 0, 1) := by decide +kernel
theorem dX3_init_5 : decode cX3_init 5 = .ok (.bipush 16, 2) := by decide +kernel
theorem dX3_init_7 : decode cX3_init 7 = .ok (.newarray .int, 2) := by decide +kernel
theorem dX3_init_9 : decode cX3_init 9 = .ok (.putfield 9, 3) := by decide +kernel
theorem dX3_init_12 : decode cX3_init 12 = .ok (.aload_n 0, 1) := by decide +kernel
theorem dX3_init_13 : decode cX3_init 13 = .ok (.bipush 16, 2) := by decide +kernel
theorem dX3_init_15 : decode cX3_init 15 = .ok (.newarray .int, 2) := by decide +kernel
theorem dX3_init_17 : decode cX3_init 17 = .ok (.putfield 15, 3) := by decide +kernel
theorem dX3_init_20 : decode cX3_init 20 = .ok (.aload_n 0, 1) := by decide +kernel
theorem dX3_init_21 : decode cX3_init 21 = .ok (.bipush 16, 2) := by decide +kernel
theorem dX3_init_23 : decode cX3_init 23 = .ok (.newarray .int, 2) := by decide +kernel
theorem dX3_init_25 : decode cX3_init 25 = .ok (.putfield 18, 3) := by decide +kernel
theorem dX3_init_28 : decode cX3_init 28 = .ok (.aload_n 0, 1) := by decide +kernel
theorem dX3_init_29 : decode cX3_init 29 = .ok (.bipush 16, 2) := by decide +kernel
theorem dX3_init_31 : decode cX3_init 31 = .ok (.newarray .long, 2) := by decide +kernel
theorem dX3_init_33 : decode cX3_init 33 = .ok (.putfield 21, 3) := by decide +kernel
theorem dX3_init_36 : decode cX3_init 36 = .ok (.aload_n 0, 1) := by decide +kernel
theorem dX3_init_37 : decode cX3_init 37 = .ok (.iconst 0, 1) := by decide +kernel
theorem dX3_init_38 : decode cX3_init 38 = .ok (.putfield 25, 3) := by decide +kernel
theorem dX3_init_41 : decode cX3_init 41 = .ok (.aload_n 0, 1) := by decide +kernel
theorem dX3_init_42 : decode cX3_init 42 = .ok (.iconst 0, 1) := by decide +kernel
theorem dX3_init_43 : decode cX3_init 43 = .ok (.putfield 29, 3) := by decide +kernel
theorem dX3_init_46 : decode cX3_init 46 = .ok (.aload_n 0, 1) := by decide +kernel
theorem dX3_init_47 : decode cX3_init 47 = .ok (.iconst 0, 1) := by decide +kernel
theorem dX3_init_48 : decode cX3_init 48 = .ok (.putfield 32, 3) := by decide +kernel
theorem dX3_init_51 : decode cX3_init 51 = .ok (.aload_n 0, 1) := by decide +kernel
theorem dX3_init_52 : decode cX3_init 52 = .ok (.iconst 0, 1) := by decide +kernel
theorem dX3_init_53 : decode cX3_init 53 = .ok (.putfield 35, 3) := by decide +kernel
theorem dX3_init_56 : decode cX3_init 56 = .ok (.aload_n 0, 1) := by decide +kernel
theorem dX3_init_57 : decode cX3_init 57 = .ok (.iconst 0, 1) := by decide +kernel
theorem dX3_init_58 : decode cX3_init 58 = .ok (.putfield 39, 3) := by decide +kernel
theorem dX3_init_61 : decode cX3_init 61 = .ok (.return_, 1) := by decide +kernel
theorem dX3_begin_0 : decode cX3_begin 0 = .ok (.aload_n 0, 1) := by decide +kernel
theorem dX3_begin_1 : decode cX3_begin 1 = .ok (.iconst 0, 1) := by decide +kernel
theorem dX3_begin_2 : decode cX3_begin 2 = .ok (.putfield 25, 3) := by decide +kernel
theorem dX3_begin_5 : decode cX3_begin 5 = .ok (.aload_n 0, 1) := by decide +kernel
theorem dX3_begin_6 : decode cX3_begin 6 = .ok (.iload_n 1, 1) := by decide +kernel
theorem dX3_begin_7 : decode cX3_begin 7 = .ok (.putfield 29, 3) := by decide +kernel
theorem dX3_begin_10 : decode cX3_begin 10 = .ok (.aload_n 0, 1) := by decide +kernel
theorem dX3_begin_11 : decode cX3_begin 11 = .ok (.iload_n 2, 1) := by decide +kernel
theorem dX3_begin_12 : decode cX3_begin 12 = .ok (.putfield 32, 3) := by decide +kernel
theorem dX3_begin_15 : decode cX3_begin 15 = .ok (.aload_n 0, 1) := by decide +kernel
theorem dX3_begin_16 : decode cX3_begin 16 = .ok (.iload_n 3, 1) := by decide +kernel
theorem dX3_begin_17 : decode cX3_begin 17 = .ok (.putfield 35, 3) := by decide +kernel
theorem dX3_begin_20 : decode cX3_begin 20 = .ok (.aload_n 0, 1) := by decide +kernel
theorem dX3_begin_21 : decode cX3_begin 21 = .ok (.iload 4, 2) := by decide +kernel
theorem dX3_begin_23 : decode cX3_begin 23 = .ok (.putfield 39, 3) := by decide +kernel
theorem dX3_begin_26 : decode cX3_begin 26 = .ok (.return_, 1) := by decide +kernel
theorem dX3_add_0 : decode cX3_add 0 = .ok (.aload_n 0, 1) := by decide +kernel
theorem dX3_add_1 : decode cX3_add 1 = .ok (.getfield 25, 3) := by decide +kernel
theorem dX3_add_4 : decode cX3_add 4 = .ok (.sipush 3000, 3) := by decide +kernel
theorem dX3_add_7 : decode cX3_add 7 = .ok (.if_icmp .lt 4, 3) := by decide +kernel
theorem dX3_add_10 : decode cX3_add 10 = .ok (.return_, 1) := by decide +kernel
theorem dX3_add_11 : decode cX3_add 11 = .ok (.aload_n 0, 1) := by decide +kernel
theorem dX3_add_12 : decode cX3_add 12 = .ok (.getfield 25, 3) := by decide +kernel
theorem dX3_add_15 : decode cX3_add 15 = .ok (.aload_n 0, 1) := by decide +kernel
theorem dX3_add_16 : decode cX3_add 16 = .ok (.getfield 9, 3) := by decide +kernel
theorem dX3_add_19 : decode cX3_add 19 = .ok (.arraylength, 1) := by decide +kernel
theorem dX3_add_20 : decode cX3_add 20 = .ok (.if_icmp .lt 7, 3) := by decide +kernel
theorem dX3_add_23 : decode cX3_add 23 = .ok (.aload_n 0, 1) := by decide +kernel
theorem dX3_add_24 : decode cX3_add 24 = .ok (.invokevirtual 42, 3) := by decide +kernel
theorem dX3_add_27 : decode cX3_add 27 = .ok (.aload_n 0, 1) := by decide +kernel
theorem dX3_add_28 : decode cX3_add 28 = .ok (.getfield 9, 3) := by decide +kernel
theorem dX3_add_31 : decode cX3_add 31 = .ok (.aload_n 0, 1) := by decide +kernel
theorem dX3_add_32 : decode cX3_add 32 = .ok (.getfield 25, 3) := by decide +kernel
theorem dX3_add_35 : decode cX3_add 35 = .ok (.iload_n 2, 1) := by decide +kernel
theorem dX3_add_36 : decode cX3_add 36 = .ok (.iastore, 1) := by decide +kernel
theorem dX3_add_37 : decode cX3_add 37 = .ok (.aload_n 0, 1) := by decide +kernel
theorem dX3_add_38 : decode cX3_add 38 = .ok (.getfield 15, 3) := by decide +kernel
theorem dX3_add_41 : decode cX3_add 41 = .ok (.aload_n 0, 1) := by decide +kernel
theorem dX3_add_42 : decode cX3_add 42 = .ok (.getfield 25, 3) := by decide +kernel
theorem dX3_add_45 : decode cX3_add 45 = .ok (.iload_n 3, 1) := by decide +kernel
theorem dX3_add_46 : decode cX3_add 46 = .ok (.iastore, 1) := by decide +kernel
theorem dX3_add_47 : decode cX3_add 47 = .ok (.aload_n 0, 1) := by decide +kernel
theorem dX3_add_48 : decode cX3_add 48 = .ok (.getfield 18, 3) := by decide +kernel
theorem dX3_add_51 : decode cX3_add 51 = .ok (.aload_n 0, 1) := by decide +kernel
theorem dX3_add_52 : decode cX3_add 52 = .ok (.getfield 25, 3) := by decide +kernel
theorem dX3_add_55 : decode cX3_add 55 = .ok (.iload_n 1, 1) := by decide +kernel
theorem dX3_add_56 : decode cX3_add 56 = .ok (.iastore, 1) := by decide +kernel
theorem dX3_add_57 : decode cX3_add 57 = .ok (.aload_n 0, 1) := by decide +kernel
theorem dX3_add_58 : decode cX3_add 58 = .ok (.getfield 21, 3) := by decide +kernel
theorem dX3_add_61 : decode cX3_add 61 = .ok (.aload_n 0, 1) := by decide +kernel
theorem dX3_add_62 : decode cX3_add 62 = .ok (.getfield 25, 3) := by decide +kernel
theorem dX3_add_65 : decode cX3_add 65 = .ok (.lload 4, 2) := by decide +kernel
theorem dX3_add_67 : decode cX3_add 67 = .ok (.lastore, 1) := by decide +kernel
theorem dX3_add_68 : decode cX3_add 68 = .ok (.aload_n 0, 1) := by decide +kernel
theorem dX3_add_69 : decode cX3_add 69 = .ok (.dup, 1) := by decide +kernel
theorem dX3_add_70 : decode cX3_add 70 = .ok (.getfield 25, 3) := by decide +kernel
theorem dX3_add_73 : decode cX3_add 73 = .ok (.iconst 1, 1) := by decide +kernel
theorem dX3_add_74 : decode cX3_add 74 = .ok (.iadd, 1) := by decide +kernel
theorem dX3_add_75 : decode cX3_add 75 = .ok (.putfield 25, 3) := by decide +kernel
theorem dX3_add_78 : decode cX3_add 78 = .ok (.return_, 1) := by decide +kernel
theorem dX3_grow_0 : decode cX3_grow 0 = .ok (.aload_n 0, 1) := by decide +kernel
theorem dX3_grow_1 : decode cX3_grow 1 = .ok (.getfield 25, 3) := by decide +kernel
theorem dX3_grow_4 : decode cX3_grow 4 = .ok (.aload_n 0, 1) := by decide +kernel
theorem dX3_grow_5 : decode cX3_grow 5 = .ok (.getfield 25, 3) := by decide +kernel
theorem dX3_grow_8 : decode cX3_grow 8 = .ok (.iconst 2, 1) := by decide +kernel
theorem dX3_grow_9 : decode cX3_grow 9 = .ok (.idiv, 1) := by decide +kernel
theorem dX3_grow_10 : decode cX3_grow 10 = .ok (.iadd, 1) := by decide +kernel
theorem dX3_grow_11 : decode cX3_grow 11 = .ok (.bipush 16, 2) := by decide +kernel
theorem dX3_grow_13 : decode cX3_grow 13 = .ok (.iadd, 1) := by decide +kernel
theorem dX3_grow_14 : decode cX3_grow 14 = .ok (.istore_n 1, 1) := by decide +kernel
theorem dX3_grow_15 : decode cX3_grow 15 = .ok (.aload_n 0, 1) := by decide +kernel
theorem dX3_grow_16 : decode cX3_grow 16 = .ok (.aload_n 0, 1) := by decide +kernel
theorem dX3_grow_17 : decode cX3_grow 17 = .ok (.getfield 9, 3) := by decide +kernel
theorem dX3_grow_20 : decode cX3_grow 20 = .ok (.iload_n 1, 1) := by decide +kernel
theorem dX3_grow_21 : decode cX3_grow 21 = .ok (.invokestatic 45, 3) := by decide +kernel
theorem dX3_grow_24 : decode cX3_grow 24 = .ok (.putfield 9, 3) := by decide +kernel
theorem dX3_grow_27 : decode cX3_grow 27 = .ok (.aload_n 0, 1) := by decide +kernel
theorem dX3_grow_28 : decode cX3_grow 28 = .ok (.aload_n 0, 1) := by decide +kernel
theorem dX3_grow_29 : decode cX3_grow 29 = .ok (.getfield 15, 3) := by decide +kernel
theorem dX3_grow_32 : decode cX3_grow 32 = .ok (.iload_n 1, 1) := by decide +kernel
theorem dX3_grow_33 : decode cX3_grow 33 = .ok (.invokestatic 45, 3) := by decide +kernel
theorem dX3_grow_36 : decode cX3_grow 36 = .ok (.putfield 15, 3) := by decide +kernel
theorem dX3_grow_39 : decode cX3_grow 39 = .ok (.aload_n 0, 1) := by decide +kernel
theorem dX3_grow_40 : decode cX3_grow 40 = .ok (.aload_n 0, 1) := by decide +kernel
theorem dX3_grow_41 : decode cX3_grow 41 = .ok (.getfield 18, 3) := by decide +kernel
theorem dX3_grow_44 : decode cX3_grow 44 = .ok (.iload_n 1, 1) := by decide +kernel
theorem dX3_grow_45 : decode cX3_grow 45 = .ok (.invokestatic 45, 3) := by decide +kernel
theorem dX3_grow_48 : decode cX3_grow 48 = .ok (.putfield 18, 3) := by decide +kernel
theorem dX3_grow_51 : decode cX3_grow 51 = .ok (.aload_n 0, 1) := by decide +kernel
theorem dX3_grow_52 : decode cX3_grow 52 = .ok (.aload_n 0, 1) := by decide +kernel
theorem dX3_grow_53 : decode cX3_grow 53 = .ok (.getfield 21, 3) := by decide +kernel
theorem dX3_grow_56 : decode cX3_grow 56 = .ok (.iload_n 1, 1) := by decide +kernel
theorem dX3_grow_57 : decode cX3_grow 57 = .ok (.invokestatic 51, 3) := by decide +kernel
theorem dX3_grow_60 : decode cX3_grow 60 = .ok (.putfield 21, 3) := by decide +kernel
theorem dX3_grow_63 : decode cX3_grow 63 = .ok (.return_, 1) := by decide +kernel
theorem dX3_forget_0 : decode cX3_forget 0 = .ok (.iconst 0, 1) := by decide +kernel
theorem dX3_forget_1 : decode cX3_forget 1 = .ok (.istore_n 2, 1) := by decide +kernel
theorem dX3_forget_2 : decode cX3_forget 2 = .ok (.iconst 0, 1) := by decide +kernel
theorem dX3_forget_3 : decode cX3_forget 3 = .ok (.istore_n 3, 1) := by decide +kernel
theorem dX3_forget_4 : decode cX3_forget 4 = .ok (.iload_n 3, 1) := by decide +kernel
theorem dX3_forget_5 : decode cX3_forget 5 = .ok (.aload_n 0, 1) := by decide +kernel
theorem dX3_forget_6 : decode cX3_forget 6 = .ok (.getfield 25, 3) := by decide +kernel
theorem dX3_forget_9 : decode cX3_forget 9 = .ok (.if_icmp .ge 91, 3) := by decide +kernel
theorem dX3_forget_12 : decode cX3_forget 12 = .ok (.aload_n 0, 1) := by decide +kernel
theorem dX3_forget_13 : decode cX3_forget 13 = .ok (.getfield 18, 3) := by decide +kernel
theorem dX3_forget_16 : decode cX3_forget 16 = .ok (.iload_n 3, 1) := by decide +kernel
theorem dX3_forget_17 : decode cX3_forget 17 = .ok (.iaload, 1) := by decide +kernel
theorem dX3_forget_18 : decode cX3_forget 18 = .ok (.iload_n 1, 1) := by decide +kernel
theorem dX3_forget_19 : decode cX3_forget 19 = .ok (.if_icmp .eq 75, 3) := by decide +kernel
theorem dX3_forget_22 : decode cX3_forget 22 = .ok (.aload_n 0, 1) := by decide +kernel
theorem dX3_forget_23 : decode cX3_forget 23 = .ok (.getfield 9, 3) := by decide +kernel
theorem dX3_forget_26 : decode cX3_forget 26 = .ok (.iload_n 2, 1) := by decide +kernel
theorem dX3_forget_27 : decode cX3_forget 27 = .ok (.aload_n 0, 1) := by decide +kernel
theorem dX3_forget_28 : decode cX3_forget 28 = .ok (.getfield 9, 3) := by decide +kernel
theorem dX3_forget_31 : decode cX3_forget 31 = .ok (.iload_n 3, 1) := by decide +kernel
theorem dX3_forget_32 : decode cX3_forget 32 = .ok (.iaload, 1) := by decide +kernel
theorem dX3_forget_33 : decode cX3_forget 33 = .ok (.iastore, 1) := by decide +kernel
theorem dX3_forget_34 : decode cX3_forget 34 = .ok (.aload_n 0, 1) := by decide +kernel
theorem dX3_forget_35 : decode cX3_forget 35 = .ok (.getfield 15, 3) := by decide +kernel
theorem dX3_forget_38 : decode cX3_forget 38 = .ok (.iload_n 2, 1) := by decide +kernel
theorem dX3_forget_39 : decode cX3_forget 39 = .ok (.aload_n 0, 1) := by decide +kernel
theorem dX3_forget_40 : decode cX3_forget 40 = .ok (.getfield 15, 3) := by decide +kernel
theorem dX3_forget_43 : decode cX3_forget 43 = .ok (.iload_n 3, 1) := by decide +kernel
theorem dX3_forget_44 : decode cX3_forget 44 = .ok (.iaload, 1) := by decide +kernel
theorem dX3_forget_45 : decode cX3_forget 45 = .ok (.iastore, 1) := by decide +kernel
theorem dX3_forget_46 : decode cX3_forget 46 = .ok (.aload_n 0, 1) := by decide +kernel
theorem dX3_forget_47 : decode cX3_forget 47 = .ok (.getfield 18, 3) := by decide +kernel
theorem dX3_forget_50 : decode cX3_forget 50 = .ok (.iload_n 2, 1) := by decide +kernel
theorem dX3_forget_51 : decode cX3_forget 51 = .ok (.aload_n 0, 1) := by decide +kernel
theorem dX3_forget_52 : decode cX3_forget 52 = .ok (.getfield 18, 3) := by decide +kernel
theorem dX3_forget_55 : decode cX3_forget 55 = .ok (.iload_n 3, 1) := by decide +kernel
theorem dX3_forget_56 : decode cX3_forget 56 = .ok (.iaload, 1) := by decide +kernel
theorem dX3_forget_57 : decode cX3_forget 57 = .ok (.iload_n 1, 1) := by decide +kernel
theorem dX3_forget_58 : decode cX3_forget 58 = .ok (.if_icmp .le 14, 3) := by decide +kernel
theorem dX3_forget_61 : decode cX3_forget 61 = .ok (.aload_n 0, 1) := by decide +kernel
theorem dX3_forget_62 : decode cX3_forget 62 = .ok (.getfield 18, 3) := by decide +kernel
theorem dX3_forget_65 : decode cX3_forget 65 = .ok (.iload_n 3, 1) := by decide +kernel
theorem dX3_forget_66 : decode cX3_forget 66 = .ok (.iaload, 1) := by decide +kernel
theorem dX3_forget_67 : decode cX3_forget 67 = .ok (.iconst 1, 1) := by decide +kernel
theorem dX3_forget_68 : decode cX3_forget 68 = .ok (.isub, 1) := by decide +kernel
theorem dX3_forget_69 : decode cX3_forget 69 = .ok (.goto 9, 3) := by decide +kernel
theorem dX3_forget_72 : decode cX3_forget 72 = .ok (.aload_n 0, 1) := by decide +kernel
theorem dX3_forget_73 : decode cX3_forget 73 = .ok (.getfield 18, 3) := by decide +kernel
theorem dX3_forget_76 : decode cX3_forget 76 = .ok (.iload_n 3, 1) := by decide +kernel
theorem dX3_forget_77 : decode cX3_forget 77 = .ok (.iaload, 1) := by decide +kernel
theorem dX3_forget_78 : decode cX3_forget 78 = .ok (.iastore, 1) := by decide +kernel
theorem dX3_forget_79 : decode cX3_forget 79 = .ok (.aload_n 0, 1) := by decide +kernel
theorem dX3_forget_80 : decode cX3_forget 80 = .ok (.getfield 21, 3) := by decide +kernel
theorem dX3_forget_83 : decode cX3_forget 83 = .ok (.iload_n 2, 1) := by decide +kernel
theorem dX3_forget_84 : decode cX3_forget 84 = .ok (.aload_n 0, 1) := by decide +kernel
theorem dX3_forget_85 : decode cX3_forget 85 = .ok (.getfield 21, 3) := by decide +kernel
theorem dX3_forget_88 : decode cX3_forget 88 = .ok (.iload_n 3, 1) := by decide +kernel
theorem dX3_forget_89 : decode cX3_forget 89 = .ok (.laload, 1) := by decide +kernel
theorem dX3_forget_90 : decode cX3_forget 90 = .ok (.lastore, 1) := by decide +kernel
theorem dX3_forget_91 : decode cX3_forget 91 = .ok (.iinc 2 1, 3) := by decide +kernel
theorem dX3_forget_94 : decode cX3_forget 94 = .ok (.iinc 3 1, 3) := by decide +kernel
theorem dX3_forget_97 : decode cX3_forget 97 = .ok (.goto (-93), 3) := by decide +kernel
theorem dX3_forget_100 : decode cX3_forget 100 = .ok (.aload_n 0, 1) := by decide +kernel
theorem dX3_forget_101 : decode cX3_forget 101 = .ok (.iload_n 2, 1) := by decide +kernel
theorem dX3_forget_102 : decode cX3_forget 102 = .ok (.putfield 25, 3) := by decide +kernel
theorem dX3_forget_105 : decode cX3_forget 105 = .ok (.return_, 1) := by decide +kernel
theorem dX3_isRow_0 : decode cX3_isRow 0 = .ok (.iload_n 1, 1) := by decide +kernel
theorem dX3_isRow_1 : decode cX3_isRow 1 = .ok (.ifCond .lt 15, 3) := by decide +kernel
theorem dX3_isRow_4 : decode cX3_isRow 4 = .ok (.iload_n 1, 1) := by decide +kernel
theorem dX3_isRow_5 : decode cX3_isRow 5 = .ok (.aload_n 0, 1) := by decide +kernel
theorem dX3_isRow_6 : decode cX3_isRow 6 = .ok (.getfield 25, 3) := by decide +kernel
theorem dX3_isRow_9 : decode cX3_isRow 9 = .ok (.if_icmp .ge 7, 3) := by decide +kernel
theorem dX3_isRow_12 : decode cX3_isRow 12 = .ok (.iconst 1, 1) := by decide +kernel
theorem dX3_isRow_13 : decode cX3_isRow 13 = .ok (.goto 4, 3) := by decide +kernel
theorem dX3_isRow_16 : decode cX3_isRow 16 = .ok (.iconst 0, 1) := by decide +kernel
theorem dX3_isRow_17 : decode cX3_isRow 17 = .ok (.ireturn, 1) := by decide +kernel
theorem dX3_hasValue_0 : decode cX3_hasValue 0 = .ok (.aload_n 0, 1) := by decide +kernel
theorem dX3_hasValue_1 : decode cX3_hasValue 1 = .ok (.iload_n 1, 1) := by decide +kernel
theorem dX3_hasValue_2 : decode cX3_hasValue 2 = .ok (.invokevirtual 54, 3) := by decide +kernel
theorem dX3_hasValue_5 : decode cX3_hasValue 5 = .ok (.ifCond .eq 20, 3) := by decide +kernel
theorem dX3_hasValue_8 : decode cX3_hasValue 8 = .ok (.aload_n 0, 1) := by decide +kernel
theorem dX3_hasValue_9 : decode cX3_hasValue 9 = .ok (.getfield 15, 3) := by decide +kernel
theorem dX3_hasValue_12 : decode cX3_hasValue 12 = .ok (.iload_n 1, 1) := by decide +kernel
theorem dX3_hasValue_13 : decode cX3_hasValue 13 = .ok (.iaload, 1) := by decide +kernel
theorem dX3_hasValue_14 : decode cX3_hasValue 14 = .ok (.aload_n 0, 1) := by decide +kernel
theorem dX3_hasValue_15 : decode cX3_hasValue 15 = .ok (.getfield 29, 3) := by decide +kernel
theorem dX3_hasValue_18 : decode cX3_hasValue 18 = .ok (.if_icmp .ne 7, 3) := by decide +kernel
theorem dX3_hasValue_21 : decode cX3_hasValue 21 = .ok (.iconst 1, 1) := by decide +kernel
theorem dX3_hasValue_22 : decode cX3_hasValue 22 = .ok (.goto 4, 3) := by decide +kernel
theorem dX3_hasValue_25 : decode cX3_hasValue 25 = .ok (.iconst 0, 1) := by decide +kernel
theorem dX3_hasValue_26 : decode cX3_hasValue 26 = .ok (.ireturn, 1) := by decide +kernel
theorem dX3_hasLevel_0 : decode cX3_hasLevel 0 = .ok (.aload_n 0, 1) := by decide +kernel
theorem dX3_hasLevel_1 : decode cX3_hasLevel 1 = .ok (.iload_n 1, 1) := by decide +kernel
theorem dX3_hasLevel_2 : decode cX3_hasLevel 2 = .ok (.invokevirtual 54, 3) := by decide +kernel
theorem dX3_hasLevel_5 : decode cX3_hasLevel 5 = .ok (.ifCond .eq 17, 3) := by decide +kernel
theorem dX3_hasLevel_8 : decode cX3_hasLevel 8 = .ok (.aload_n 0, 1) := by decide +kernel
theorem dX3_hasLevel_9 : decode cX3_hasLevel 9 = .ok (.getfield 9, 3) := by decide +kernel
theorem dX3_hasLevel_12 : decode cX3_hasLevel 12 = .ok (.iload_n 1, 1) := by decide +kernel
theorem dX3_hasLevel_13 : decode cX3_hasLevel 13 = .ok (.iaload, 1) := by decide +kernel
theorem dX3_hasLevel_14 : decode cX3_hasLevel 14 = .ok (.iload_n 2, 1) := by decide +kernel
theorem dX3_hasLevel_15 : decode cX3_hasLevel 15 = .ok (.if_icmp .ne 7, 3) := by decide +kernel
theorem dX3_hasLevel_18 : decode cX3_hasLevel 18 = .ok (.iconst 1, 1) := by decide +kernel
theorem dX3_hasLevel_19 : decode cX3_hasLevel 19 = .ok (.goto 4, 3) := by decide +kernel
theorem dX3_hasLevel_22 : decode cX3_hasLevel 22 = .ok (.iconst 0, 1) := by decide +kernel
theorem dX3_hasLevel_23 : decode cX3_hasLevel 23 = .ok (.ireturn, 1) := by decide +kernel
theorem dX3_hasValueWithin_0 : decode cX3_hasValueWithin 0 = .ok (.aload_n 0, 1) := by decide +kernel
theorem dX3_hasValueWithin_1 : decode cX3_hasValueWithin 1 = .ok (.iload_n 1, 1) := by decide +kernel
theorem dX3_hasValueWithin_2 : decode cX3_hasValueWithin 2 = .ok (.invokevirtual 58, 3) := by decide +kernel
theorem dX3_hasValueWithin_5 : decode cX3_hasValueWithin 5 = .ok (.ifCond .eq 30, 3) := by decide +kernel
theorem dX3_hasValueWithin_8 : decode cX3_hasValueWithin 8 = .ok (.aload_n 0, 1) := by decide +kernel
theorem dX3_hasValueWithin_9 : decode cX3_hasValueWithin 9 = .ok (.getfield 21, 3) := by decide +kernel
theorem dX3_hasValueWithin_12 : decode cX3_hasValueWithin 12 = .ok (.iload_n 1, 1) := by decide +kernel
theorem dX3_hasValueWithin_13 : decode cX3_hasValueWithin 13 = .ok (.laload, 1) := by decide +kernel
theorem dX3_hasValueWithin_14 : decode cX3_hasValueWithin 14 = .ok (.lload_n 2, 1) := by decide +kernel
theorem dX3_hasValueWithin_15 : decode cX3_hasValueWithin 15 = .ok (.lcmp, 1) := by decide +kernel
theorem dX3_hasValueWithin_16 : decode cX3_hasValueWithin 16 = .ok (.ifCond .lt 19, 3) := by decide +kernel
theorem dX3_hasValueWithin_19 : decode cX3_hasValueWithin 19 = .ok (.aload_n 0, 1) := by decide +kernel
theorem dX3_hasValueWithin_20 : decode cX3_hasValueWithin 20 = .ok (.getfield 21, 3) := by decide +kernel
theorem dX3_hasValueWithin_23 : decode cX3_hasValueWithin 23 = .ok (.iload_n 1, 1) := by decide +kernel
theorem dX3_hasValueWithin_24 : decode cX3_hasValueWithin 24 = .ok (.laload, 1) := by decide +kernel
theorem dX3_hasValueWithin_25 : decode cX3_hasValueWithin 25 = .ok (.lload 4, 2) := by decide +kernel
theorem dX3_hasValueWithin_27 : decode cX3_hasValueWithin 27 = .ok (.lcmp, 1) := by decide +kernel
theorem dX3_hasValueWithin_28 : decode cX3_hasValueWithin 28 = .ok (.ifCond .gt 7, 3) := by decide +kernel
theorem dX3_hasValueWithin_31 : decode cX3_hasValueWithin 31 = .ok (.iconst 1, 1) := by decide +kernel
theorem dX3_hasValueWithin_32 : decode cX3_hasValueWithin 32 = .ok (.goto 4, 3) := by decide +kernel
theorem dX3_hasValueWithin_35 : decode cX3_hasValueWithin 35 = .ok (.iconst 0, 1) := by decide +kernel
theorem dX3_hasValueWithin_36 : decode cX3_hasValueWithin 36 = .ok (.ireturn, 1) := by decide +kernel
theorem dX3_firstRowOf_0 : decode cX3_firstRowOf 0 = .ok (.iconst 0, 1) := by decide +kernel
theorem dX3_firstRowOf_1 : decode cX3_firstRowOf 1 = .ok (.istore_n 2, 1) := by decide +kernel
theorem dX3_firstRowOf_2 : decode cX3_firstRowOf 2 = .ok (.iload_n 2, 1) := by decide +kernel
theorem dX3_firstRowOf_3 : decode cX3_firstRowOf 3 = .ok (.aload_n 0, 1) := by decide +kernel
theorem dX3_firstRowOf_4 : decode cX3_firstRowOf 4 = .ok (.getfield 25, 3) := by decide +kernel
theorem dX3_firstRowOf_7 : decode cX3_firstRowOf 7 = .ok (.if_icmp .ge 21, 3) := by decide +kernel
theorem dX3_firstRowOf_10 : decode cX3_firstRowOf 10 = .ok (.aload_n 0, 1) := by decide +kernel
theorem dX3_firstRowOf_11 : decode cX3_firstRowOf 11 = .ok (.getfield 18, 3) := by decide +kernel
theorem dX3_firstRowOf_14 : decode cX3_firstRowOf 14 = .ok (.iload_n 2, 1) := by decide +kernel
theorem dX3_firstRowOf_15 : decode cX3_firstRowOf 15 = .ok (.iaload, 1) := by decide +kernel
theorem dX3_firstRowOf_16 : decode cX3_firstRowOf 16 = .ok (.iload_n 1, 1) := by decide +kernel
theorem dX3_firstRowOf_17 : decode cX3_firstRowOf 17 = .ok (.if_icmp .ne 5, 3) := by decide +kernel
theorem dX3_firstRowOf_20 : decode cX3_firstRowOf 20 = .ok (.iload_n 2, 1) := by decide +kernel
theorem dX3_firstRowOf_21 : decode cX3_firstRowOf 21 = .ok (.ireturn, 1) := by decide +kernel
theorem dX3_firstRowOf_22 : decode cX3_firstRowOf 22 = .ok (.iinc 2 1, 3) := by decide +kernel
theorem dX3_firstRowOf_25 : decode cX3_firstRowOf 25 = .ok (.goto (-23), 3) := by decide +kernel
theorem dX3_firstRowOf_28 : decode cX3_firstRowOf 28 = .ok (.iconst (-1), 1) := by decide +kernel
theorem dX3_firstRowOf_29 : decode cX3_firstRowOf 29 = .ok (.ireturn, 1) := by decide +kernel
theorem dX3_countValues_0 : decode cX3_countValues 0 = .ok (.iconst 0, 1) := by decide +kernel
theorem dX3_countValues_1 : decode cX3_countValues 1 = .ok (.istore_n 1, 1) := by decide +kernel
theorem dX3_countValues_2 : decode cX3_countValues 2 = .ok (.iconst 0, 1) := by decide +kernel
theorem dX3_countValues_3 : decode cX3_countValues 3 = .ok (.istore_n 2, 1) := by decide +kernel
theorem dX3_countValues_4 : decode cX3_countValues 4 = .ok (.iload_n 2, 1) := by decide +kernel
theorem dX3_countValues_5 : decode cX3_countValues 5 = .ok (.aload_n 0, 1) := by decide +kernel
theorem dX3_countValues_6 : decode cX3_countValues 6 = .ok (.getfield 25, 3) := by decide +kernel
theorem dX3_countValues_9 : decode cX3_countValues 9 = .ok (.if_icmp .ge 20, 3) := by decide +kernel
theorem dX3_countValues_12 : decode cX3_countValues 12 = .ok (.aload_n 0, 1) := by decide +kernel
theorem dX3_countValues_13 : decode cX3_countValues 13 = .ok (.iload_n 2, 1) := by decide +kernel
theorem dX3_countValues_14 : decode cX3_countValues 14 = .ok (.invokevirtual 58, 3) := by decide +kernel
theorem dX3_countValues_17 : decode cX3_countValues 17 = .ok (.ifCond .eq 6, 3) := by decide +kernel
theorem dX3_countValues_20 : decode cX3_countValues 20 = .ok (.iinc 1 1, 3) := by decide +kernel
theorem dX3_countValues_23 : decode cX3_countValues 23 = .ok (.iinc 2 1, 3) := by decide +kernel
theorem dX3_countValues_26 : decode cX3_countValues 26 = .ok (.goto (-22), 3) := by decide +kernel
theorem dX3_countValues_29 : decode cX3_countValues 29 = .ok (.iload_n 1, 1) := by decide +kernel
theorem dX3_countValues_30 : decode cX3_countValues 30 = .ok (.ireturn, 1) := by decide +kernel
theorem dX3_countUnlike_0 : decode cX3_countUnlike 0 = .ok (.iconst 0, 1) := by decide +kernel
theorem dX3_countUnlike_1 : decode cX3_countUnlike 1 = .ok (.istore_n 1, 1) := by decide +kernel
theorem dX3_countUnlike_2 : decode cX3_countUnlike 2 = .ok (.iconst 0, 1) := by decide +kernel
theorem dX3_countUnlike_3 : decode cX3_countUnlike 3 = .ok (.istore_n 2, 1) := by decide +kernel
theorem dX3_countUnlike_4 : decode cX3_countUnlike 4 = .ok (.iload_n 2, 1) := by decide +kernel
theorem dX3_countUnlike_5 : decode cX3_countUnlike 5 = .ok (.aload_n 0, 1) := by decide +kernel
theorem dX3_countUnlike_6 : decode cX3_countUnlike 6 = .ok (.getfield 25, 3) := by decide +kernel
theorem dX3_countUnlike_9 : decode cX3_countUnlike 9 = .ok (.if_icmp .ge 28, 3) := by decide +kernel
theorem dX3_countUnlike_12 : decode cX3_countUnlike 12 = .ok (.aload_n 0, 1) := by decide +kernel
theorem dX3_countUnlike_13 : decode cX3_countUnlike 13 = .ok (.iload_n 2, 1) := by decide +kernel
theorem dX3_countUnlike_14 : decode cX3_countUnlike 14 = .ok (.invokevirtual 58, 3) := by decide +kernel
theorem dX3_countUnlike_17 : decode cX3_countUnlike 17 = .ok (.ifCond .eq 14, 3) := by decide +kernel
theorem dX3_countUnlike_20 : decode cX3_countUnlike 20 = .ok (.aload_n 0, 1) := by decide +kernel
theorem dX3_countUnlike_21 : decode cX3_countUnlike 21 = .ok (.iload_n 2, 1) := by decide +kernel
theorem dX3_countUnlike_22 : decode cX3_countUnlike 22 = .ok (.invokevirtual 61, 3) := by decide +kernel
theorem dX3_countUnlike_25 : decode cX3_countUnlike 25 = .ok (.ifCond .ne 6, 3) := by decide +kernel
theorem dX3_countUnlike_28 : decode cX3_countUnlike 28 = .ok (.iinc 1 1, 3) := by decide +kernel
theorem dX3_countUnlike_31 : decode cX3_countUnlike 31 = .ok (.iinc 2 1, 3) := by decide +kernel
theorem dX3_countUnlike_34 : decode cX3_countUnlike 34 = .ok (.goto (-30), 3) := by decide +kernel
theorem dX3_countUnlike_37 : decode cX3_countUnlike 37 = .ok (.iload_n 1, 1) := by decide +kernel
theorem dX3_countUnlike_38 : decode cX3_countUnlike 38 = .ok (.ireturn, 1) := by decide +kernel
theorem dX3_hasValueAhead_0 : decode cX3_hasValueAhead 0 = .ok (.iconst 0, 1) := by decide +kernel
theorem dX3_hasValueAhead_1 : decode cX3_hasValueAhead 1 = .ok (.istore_n 2, 1) := by decide +kernel
theorem dX3_hasValueAhead_2 : decode cX3_hasValueAhead 2 = .ok (.iload_n 2, 1) := by decide +kernel
theorem dX3_hasValueAhead_3 : decode cX3_hasValueAhead 3 = .ok (.iload_n 1, 1) := by decide +kernel
theorem dX3_hasValueAhead_4 : decode cX3_hasValueAhead 4 = .ok (.if_icmp .ge 35, 3) := by decide +kernel
theorem dX3_hasValueAhead_7 : decode cX3_hasValueAhead 7 = .ok (.aload_n 0, 1) := by decide +kernel
theorem dX3_hasValueAhead_8 : decode cX3_hasValueAhead 8 = .ok (.getfield 21, 3) := by decide +kernel
theorem dX3_hasValueAhead_11 : decode cX3_hasValueAhead 11 = .ok (.iload_n 2, 1) := by decide +kernel
theorem dX3_hasValueAhead_12 : decode cX3_hasValueAhead 12 = .ok (.laload, 1) := by decide +kernel
theorem dX3_hasValueAhead_13 : decode cX3_hasValueAhead 13 = .ok (.aload_n 0, 1) := by decide +kernel
theorem dX3_hasValueAhead_14 : decode cX3_hasValueAhead 14 = .ok (.getfield 21, 3) := by decide +kernel
theorem dX3_hasValueAhead_17 : decode cX3_hasValueAhead 17 = .ok (.iload_n 1, 1) := by decide +kernel
theorem dX3_hasValueAhead_18 : decode cX3_hasValueAhead 18 = .ok (.laload, 1) := by decide +kernel
theorem dX3_hasValueAhead_19 : decode cX3_hasValueAhead 19 = .ok (.lcmp, 1) := by decide +kernel
theorem dX3_hasValueAhead_20 : decode cX3_hasValueAhead 20 = .ok (.ifCond .ne 13, 3) := by decide +kernel
theorem dX3_hasValueAhead_23 : decode cX3_hasValueAhead 23 = .ok (.aload_n 0, 1) := by decide +kernel
theorem dX3_hasValueAhead_24 : decode cX3_hasValueAhead 24 = .ok (.iload_n 2, 1) := by decide +kernel
theorem dX3_hasValueAhead_25 : decode cX3_hasValueAhead 25 = .ok (.invokevirtual 58, 3) := by decide +kernel
theorem dX3_hasValueAhead_28 : decode cX3_hasValueAhead 28 = .ok (.ifCond .eq 5, 3) := by decide +kernel
theorem dX3_hasValueAhead_31 : decode cX3_hasValueAhead 31 = .ok (.iconst 1, 1) := by decide +kernel
theorem dX3_hasValueAhead_32 : decode cX3_hasValueAhead 32 = .ok (.ireturn, 1) := by decide +kernel
theorem dX3_hasValueAhead_33 : decode cX3_hasValueAhead 33 = .ok (.iinc 2 1, 3) := by decide +kernel
theorem dX3_hasValueAhead_36 : decode cX3_hasValueAhead 36 = .ok (.goto (-34), 3) := by decide +kernel
theorem dX3_hasValueAhead_39 : decode cX3_hasValueAhead 39 = .ok (.iconst 0, 1) := by decide +kernel
theorem dX3_hasValueAhead_40 : decode cX3_hasValueAhead 40 = .ok (.ireturn, 1) := by decide +kernel
theorem dX3_measureSize_0 : decode cX3_measureSize 0 = .ok (.aload_n 0, 1) := by decide +kernel
theorem dX3_measureSize_1 : decode cX3_measureSize 1 = .ok (.invokevirtual 64, 3) := by decide +kernel
theorem dX3_measureSize_4 : decode cX3_measureSize 4 = .ok (.istore_n 1, 1) := by decide +kernel
theorem dX3_measureSize_5 : decode cX3_measureSize 5 = .ok (.iconst 0, 1) := by decide +kernel
theorem dX3_measureSize_6 : decode cX3_measureSize 6 = .ok (.istore_n 2, 1) := by decide +kernel
theorem dX3_measureSize_7 : decode cX3_measureSize 7 = .ok (.iload_n 2, 1) := by decide +kernel
theorem dX3_measureSize_8 : decode cX3_measureSize 8 = .ok (.bipush 30, 2) := by decide +kernel
theorem dX3_measureSize_10 : decode cX3_measureSize 10 = .ok (.if_icmp .ge 16, 3) := by decide +kernel
theorem dX3_measureSize_13 : decode cX3_measureSize 13 = .ok (.iconst 1, 1) := by decide +kernel
theorem dX3_measureSize_14 : decode cX3_measureSize 14 = .ok (.iload_n 2, 1) := by decide +kernel
theorem dX3_measureSize_15 : decode cX3_measureSize 15 = .ok (.ishl, 1) := by decide +kernel
theorem dX3_measureSize_16 : decode cX3_measureSize 16 = .ok (.iload_n 1, 1) := by decide +kernel
theorem dX3_measureSize_17 : decode cX3_measureSize 17 = .ok (.if_icmp .ge 9, 3) := by decide +kernel
theorem dX3_measureSize_20 : decode cX3_measureSize 20 = .ok (.iinc 2 1, 3) := by decide +kernel
theorem dX3_measureSize_23 : decode cX3_measureSize 23 = .ok (.goto (-16), 3) := by decide +kernel
theorem dX3_measureSize_26 : decode cX3_measureSize 26 = .ok (.aload_n 0, 1) := by decide +kernel
theorem dX3_measureSize_27 : decode cX3_measureSize 27 = .ok (.getfield 32, 3) := by decide +kernel
theorem dX3_measureSize_30 : decode cX3_measureSize 30 = .ok (.ifCond .ne 7, 3) := by decide +kernel
theorem dX3_measureSize_33 : decode cX3_measureSize 33 = .ok (.iconst 0, 1) := by decide +kernel
theorem dX3_measureSize_34 : decode cX3_measureSize 34 = .ok (.goto 13, 3) := by decide +kernel
theorem dX3_measureSize_37 : decode cX3_measureSize 37 = .ok (.iconst 2, 1) := by decide +kernel
theorem dX3_measureSize_38 : decode cX3_measureSize 38 = .ok (.aload_n 0, 1) := by decide +kernel
theorem dX3_measureSize_39 : decode cX3_measureSize 39 = .ok (.aload_n 0, 1) := by decide +kernel
theorem dX3_measureSize_40 : decode cX3_measureSize 40 = .ok (.getfield 9, 3) := by decide +kernel
theorem dX3_measureSize_43 : decode cX3_measureSize 43 = .ok (.invokevirtual 68, 3) := by decide +kernel
theorem dX3_measureSize_46 : decode cX3_measureSize 46 = .ok (.imul, 1) := by decide +kernel
theorem dX3_measureSize_47 : decode cX3_measureSize 47 = .ok (.istore_n 3, 1) := by decide +kernel
theorem dX3_measureSize_48 : decode cX3_measureSize 48 = .ok (.aload_n 0, 1) := by decide +kernel
theorem dX3_measureSize_49 : decode cX3_measureSize 49 = .ok (.getfield 29, 3) := by decide +kernel
theorem dX3_measureSize_52 : decode cX3_measureSize 52 = .ok (.ifCond .ne 7, 3) := by decide +kernel
theorem dX3_measureSize_55 : decode cX3_measureSize 55 = .ok (.iconst 0, 1) := by decide +kernel
theorem dX3_measureSize_56 : decode cX3_measureSize 56 = .ok (.goto 13, 3) := by decide +kernel
theorem dX3_measureSize_59 : decode cX3_measureSize 59 = .ok (.iconst 2, 1) := by decide +kernel
theorem dX3_measureSize_60 : decode cX3_measureSize 60 = .ok (.aload_n 0, 1) := by decide +kernel
theorem dX3_measureSize_61 : decode cX3_measureSize 61 = .ok (.aload_n 0, 1) := by decide +kernel
theorem dX3_measureSize_62 : decode cX3_measureSize 62 = .ok (.getfield 15, 3) := by decide +kernel
theorem dX3_measureSize_65 : decode cX3_measureSize 65 = .ok (.invokevirtual 68, 3) := by decide +kernel
theorem dX3_measureSize_68 : decode cX3_measureSize 68 = .ok (.imul, 1) := by decide +kernel
theorem dX3_measureSize_69 : decode cX3_measureSize 69 = .ok (.istore 4, 2) := by decide +kernel
theorem dX3_measureSize_71 : decode cX3_measureSize 71 = .ok (.iload_n 3, 1) := by decide +kernel
theorem dX3_measureSize_72 : decode cX3_measureSize 72 = .ok (.iload 4, 2) := by decide +kernel
theorem dX3_measureSize_74 : decode cX3_measureSize 74 = .ok (.iadd, 1) := by decide +kernel
theorem dX3_measureSize_75 : decode cX3_measureSize 75 = .ok (.bipush 8, 2) := by decide +kernel
theorem dX3_measureSize_77 : decode cX3_measureSize 77 = .ok (.iload_n 1, 1) := by decide +kernel
theorem dX3_measureSize_78 : decode cX3_measureSize 78 = .ok (.imul, 1) := by decide +kernel
theorem dX3_measureSize_79 : decode cX3_measureSize 79 = .ok (.iadd, 1) := by decide +kernel
theorem dX3_measureSize_80 : decode cX3_measureSize 80 = .ok (.iload_n 2, 1) := by decide +kernel
theorem dX3_measureSize_81 : decode cX3_measureSize 81 = .ok (.aload_n 0, 1) := by decide +kernel
theorem dX3_measureSize_82 : decode cX3_measureSize 82 = .ok (.invokevirtual 72, 3) := by decide +kernel
theorem dX3_measureSize_85 : decode cX3_measureSize 85 = .ok (.imul, 1) := by decide +kernel
theorem dX3_measureSize_86 : decode cX3_measureSize 86 = .ok (.bipush 7, 2) := by decide +kernel
theorem dX3_measureSize_88 : decode cX3_measureSize 88 = .ok (.iadd, 1) := by decide +kernel
theorem dX3_measureSize_89 : decode cX3_measureSize 89 = .ok (.bipush 8, 2) := by decide +kernel
theorem dX3_measureSize_91 : decode cX3_measureSize 91 = .ok (.idiv, 1) := by decide +kernel
theorem dX3_measureSize_92 : decode cX3_measureSize 92 = .ok (.iadd, 1) := by decide +kernel
theorem dX3_measureSize_93 : decode cX3_measureSize 93 = .ok (.ireturn, 1) := by decide +kernel
theorem dX3_countRuns_0 : decode cX3_countRuns 0 = .ok (.iconst 0, 1) := by decide +kernel
theorem dX3_countRuns_1 : decode cX3_countRuns 1 = .ok (.istore_n 2, 1) := by decide +kernel
theorem dX3_countRuns_2 : decode cX3_countRuns 2 = .ok (.iconst 0, 1) := by decide +kernel
theorem dX3_countRuns_3 : decode cX3_countRuns 3 = .ok (.istore_n 3, 1) := by decide +kernel
theorem dX3_countRuns_4 : decode cX3_countRuns 4 = .ok (.iload_n 3, 1) := by decide +kernel
theorem dX3_countRuns_5 : decode cX3_countRuns 5 = .ok (.aload_n 0, 1) := by decide +kernel
theorem dX3_countRuns_6 : decode cX3_countRuns 6 = .ok (.getfield 25, 3) := by decide +kernel
theorem dX3_countRuns_9 : decode cX3_countRuns 9 = .ok (.if_icmp .ge 33, 3) := by decide +kernel
theorem dX3_countRuns_12 : decode cX3_countRuns 12 = .ok (.iload_n 3, 1) := by decide +kernel
theorem dX3_countRuns_13 : decode cX3_countRuns 13 = .ok (.aload_n 1, 1) := by decide +kernel
theorem dX3_countRuns_14 : decode cX3_countRuns 14 = .ok (.arraylength, 1) := by decide +kernel
theorem dX3_countRuns_15 : decode cX3_countRuns 15 = .ok (.if_icmp .ge 27, 3) := by decide +kernel
theorem dX3_countRuns_18 : decode cX3_countRuns 18 = .ok (.iload_n 3, 1) := by decide +kernel
theorem dX3_countRuns_19 : decode cX3_countRuns 19 = .ok (.ifCond .eq 14, 3) := by decide +kernel
theorem dX3_countRuns_22 : decode cX3_countRuns 22 = .ok (.aload_n 1, 1) := by decide +kernel
theorem dX3_countRuns_23 : decode cX3_countRuns 23 = .ok (.iload_n 3, 1) := by decide +kernel
theorem dX3_countRuns_24 : decode cX3_countRuns 24 = .ok (.iaload, 1) := by decide +kernel
theorem dX3_countRuns_25 : decode cX3_countRuns 25 = .ok (.aload_n 1, 1) := by decide +kernel
theorem dX3_countRuns_26 : decode cX3_countRuns 26 = .ok (.iload_n 3, 1) := by decide +kernel
theorem dX3_countRuns_27 : decode cX3_countRuns 27 = .ok (.iconst 1, 1) := by decide +kernel
theorem dX3_countRuns_28 : decode cX3_countRuns 28 = .ok (.isub, 1) := by decide +kernel
theorem dX3_countRuns_29 : decode cX3_countRuns 29 = .ok (.iaload, 1) := by decide +kernel
theorem dX3_countRuns_30 : decode cX3_countRuns 30 = .ok (.if_icmp .eq 6, 3) := by decide +kernel
theorem dX3_countRuns_33 : decode cX3_countRuns 33 = .ok (.iinc 2 1, 3) := by decide +kernel
theorem dX3_countRuns_36 : decode cX3_countRuns 36 = .ok (.iinc 3 1, 3) := by decide +kernel
theorem dX3_countRuns_39 : decode cX3_countRuns 39 = .ok (.goto (-35), 3) := by decide +kernel
theorem dX3_countRuns_42 : decode cX3_countRuns 42 = .ok (.iload_n 2, 1) := by decide +kernel
theorem dX3_countRuns_43 : decode cX3_countRuns 43 = .ok (.ireturn, 1) := by decide +kernel
theorem dX3_stretchEnd_0 : decode cX3_stretchEnd 0 = .ok (.iload_n 1, 1) := by decide +kernel
theorem dX3_stretchEnd_1 : decode cX3_stretchEnd 1 = .ok (.iconst 1, 1) := by decide +kernel
theorem dX3_stretchEnd_2 : decode cX3_stretchEnd 2 = .ok (.iadd, 1) := by decide +kernel
theorem dX3_stretchEnd_3 : decode cX3_stretchEnd 3 = .ok (.istore_n 3, 1) := by decide +kernel
theorem dX3_stretchEnd_4 : decode cX3_stretchEnd 4 = .ok (.iload_n 3, 1) := by decide +kernel
theorem dX3_stretchEnd_5 : decode cX3_stretchEnd 5 = .ok (.aload_n 0, 1) := by decide +kernel
theorem dX3_stretchEnd_6 : decode cX3_stretchEnd 6 = .ok (.getfield 25, 3) := by decide +kernel
theorem dX3_stretchEnd_9 : decode cX3_stretchEnd 9 = .ok (.if_icmp .ge 21, 3) := by decide +kernel
theorem dX3_stretchEnd_12 : decode cX3_stretchEnd 12 = .ok (.aload_n 0, 1) := by decide +kernel
theorem dX3_stretchEnd_13 : decode cX3_stretchEnd 13 = .ok (.getfield 9, 3) := by decide +kernel
theorem dX3_stretchEnd_16 : decode cX3_stretchEnd 16 = .ok (.iload_n 3, 1) := by decide +kernel
theorem dX3_stretchEnd_17 : decode cX3_stretchEnd 17 = .ok (.iaload, 1) := by decide +kernel
end
section
theorem dX3_stretchEnd_18 : decode cX3_stretchEnd 18 = .ok (.iload_n 2, 1) := by decide +kernel
theorem dX3_stretchEnd_19 : decode cX3_stretchEnd 19 = .ok (.if_icmp .gt 5, 3) := by decide +kernel
theorem dX3_stretchEnd_22 : decode cX3_stretchEnd 22 = .ok (.iload_n 3, 1) := by decide +kernel
theorem dX3_stretchEnd_23 : decode cX3_stretchEnd 23 = .ok (.ireturn, 1) := by decide +kernel
theorem dX3_stretchEnd_24 : decode cX3_stretchEnd 24 = .ok (.iinc 3 1, 3) := by decide +kernel
theorem dX3_stretchEnd_27 : decode cX3_stretchEnd 27 = .ok (.goto (-23), 3) := by decide +kernel
theorem dX3_stretchEnd_30 : decode cX3_stretchEnd 30 = .ok (.aload_n 0, 1) := by decide +kernel
theorem dX3_stretchEnd_31 : decode cX3_stretchEnd 31 = .ok (.getfield 25, 3) := by decide +kernel
theorem dX3_stretchEnd_34 : decode cX3_stretchEnd 34 = .ok (.ireturn, 1) := by decide +kernel
theorem dX3_holdsInStretch_0 : decode cX3_holdsInStretch 0 = .ok (.aload_n 0, 1) := by decide +kernel
theorem dX3_holdsInStretch_1 : decode cX3_holdsInStretch 1 = .ok (.iload_n 1, 1) := by decide +kernel
theorem dX3_holdsInStretch_2 : decode cX3_holdsInStretch 2 = .ok (.iload_n 2, 1) := by decide +kernel
theorem dX3_holdsInStretch_3 : decode cX3_holdsInStretch 3 = .ok (.invokevirtual 75, 3) := by decide +kernel
theorem dX3_holdsInStretch_6 : decode cX3_holdsInStretch 6 = .ok (.istore 5, 2) := by decide +kernel
theorem dX3_holdsInStretch_8 : decode cX3_holdsInStretch 8 = .ok (.iload_n 1, 1) := by decide +kernel
theorem dX3_holdsInStretch_9 : decode cX3_holdsInStretch 9 = .ok (.istore 6, 2) := by decide +kernel
theorem dX3_holdsInStretch_11 : decode cX3_holdsInStretch 11 = .ok (.iload 6, 2) := by decide +kernel
theorem dX3_holdsInStretch_13 : decode cX3_holdsInStretch 13 = .ok (.iload 5, 2) := by decide +kernel
theorem dX3_holdsInStretch_15 : decode cX3_holdsInStretch 15 = .ok (.if_icmp .ge 22, 3) := by decide +kernel
theorem dX3_holdsInStretch_18 : decode cX3_holdsInStretch 18 = .ok (.aload_n 0, 1) := by decide +kernel
theorem dX3_holdsInStretch_19 : decode cX3_holdsInStretch 19 = .ok (.iload 6, 2) := by decide +kernel
theorem dX3_holdsInStretch_21 : decode cX3_holdsInStretch 21 = .ok (.lload_n 3, 1) := by decide +kernel
theorem dX3_holdsInStretch_22 : decode cX3_holdsInStretch 22 = .ok (.lload_n 3, 1) := by decide +kernel
theorem dX3_holdsInStretch_23 : decode cX3_holdsInStretch 23 = .ok (.invokevirtual 79, 3) := by decide +kernel
theorem dX3_holdsInStretch_26 : decode cX3_holdsInStretch 26 = .ok (.ifCond .eq 5, 3) := by decide +kernel
theorem dX3_holdsInStretch_29 : decode cX3_holdsInStretch 29 = .ok (.iconst 1, 1) := by decide +kernel
theorem dX3_holdsInStretch_30 : decode cX3_holdsInStretch 30 = .ok (.ireturn, 1) := by decide +kernel
theorem dX3_holdsInStretch_31 : decode cX3_holdsInStretch 31 = .ok (.iinc 6 1, 3) := by decide +kernel
theorem dX3_holdsInStretch_34 : decode cX3_holdsInStretch 34 = .ok (.goto (-23), 3) := by decide +kernel
theorem dX3_holdsInStretch_37 : decode cX3_holdsInStretch 37 = .ok (.iconst 0, 1) := by decide +kernel
theorem dX3_holdsInStretch_38 : decode cX3_holdsInStretch 38 = .ok (.ireturn, 1) := by decide +kernel
theorem dX4_init_0 : decode cX4_init 0 = .ok (.aload_n 0, 1) := by decide +kernel
theorem dX4_init_1 : decode cX4_init 1 = .ok (.invokespecial 3, 3) := by decide +kernel
theorem dX4_init_4 : decode cX4_init 4 = .ok (.aload_n 0, 1) := by decide +kernel
theorem dX4_init_5 : decode cX4_init 5 = .ok (.sipush 400, 3) := by decide +kernel
theorem dX4_init_8 : decode cX4_init 8 = .ok (.newarray .byte, 2) := by decide +kernel
theorem dX4_init_10 : decode cX4_init 10 = .ok (.putfield 9, 3) := by decide +kernel
theorem dX4_init_13 : decode cX4_init 13 = .ok (.aload_n 0, 1) := by decide +kernel
theorem dX4_init_14 : decode cX4_init 14 = .ok (.iconst 0, 1) := by decide +kernel
theorem dX4_init_15 : decode cX4_init 15 = .ok (.putfield 15, 3) := by decide +kernel
theorem dX4_init_18 : decode cX4_init 18 = .ok (.aload_n 0, 1) := by decide +kernel
theorem dX4_init_19 : decode cX4_init 19 = .ok (.iconst 0, 1) := by decide +kernel
theorem dX4_init_20 : decode cX4_init 20 = .ok (.putfield 19, 3) := by decide +kernel
theorem dX4_init_23 : decode cX4_init 23 = .ok (.aload_n 0, 1) := by decide +kernel
theorem dX4_init_24 : decode cX4_init 24 = .ok (.iconst 0, 1) := by decide +kernel
theorem dX4_init_25 : decode cX4_init 25 = .ok (.putfield 22, 3) := by decide +kernel
theorem dX4_init_28 : decode cX4_init 28 = .ok (.aload_n 0, 1) := by decide +kernel
theorem dX4_init_29 : decode cX4_init 29 = .ok (.iconst (-1), 1) := by decide +kernel
theorem dX4_init_30 : decode cX4_init 30 = .ok (.putfield 25, 3) := by decide +kernel
theorem dX4_init_33 : decode cX4_init 33 = .ok (.aload_n 0, 1) := by decide +kernel
theorem dX4_init_34 : decode cX4_init 34 = .ok (.iconst 0, 1) := by decide +kernel
theorem dX4_init_35 : decode cX4_init 35 = .ok (.putfield 28, 3) := by decide +kernel
theorem dX4_init_38 : decode cX4_init 38 = .ok (.aload_n 0, 1) := by decide +kernel
theorem dX4_init_39 : decode cX4_init 39 = .ok (.iconst 0, 1) := by decide +kernel
theorem dX4_init_40 : decode cX4_init 40 = .ok (.putfield 31, 3) := by decide +kernel
theorem dX4_init_43 : decode cX4_init 43 = .ok (.aload_n 0, 1) := by decide +kernel
theorem dX4_init_44 : decode cX4_init 44 = .ok (.lconst 0, 1) := by decide +kernel
theorem dX4_init_45 : decode cX4_init 45 = .ok (.putfield 34, 3) := by decide +kernel
theorem dX4_init_48 : decode cX4_init 48 = .ok (.return_, 1) := by decide +kernel
theorem dX4_put_0 : decode cX4_put 0 = .ok (.bipush 24, 2) := by decide +kernel
theorem dX4_put_2 : decode cX4_put 2 = .ok (.istore_n 2, 1) := by decide +kernel
theorem dX4_put_3 : decode cX4_put 3 = .ok (.iload_n 2, 1) := by decide +kernel
theorem dX4_put_4 : decode cX4_put 4 = .ok (.ifCond .lt 42, 3) := by decide +kernel
theorem dX4_put_7 : decode cX4_put 7 = .ok (.aload_n 0, 1) := by decide +kernel
theorem dX4_put_8 : decode cX4_put 8 = .ok (.getfield 15, 3) := by decide +kernel
theorem dX4_put_11 : decode cX4_put 11 = .ok (.sipush 400, 3) := by decide +kernel
theorem dX4_put_14 : decode cX4_put 14 = .ok (.if_icmp .ge 32, 3) := by decide +kernel
theorem dX4_put_17 : decode cX4_put 17 = .ok (.aload_n 0, 1) := by decide +kernel
theorem dX4_put_18 : decode cX4_put 18 = .ok (.getfield 9, 3) := by decide +kernel
theorem dX4_put_21 : decode cX4_put 21 = .ok (.aload_n 0, 1) := by decide +kernel
theorem dX4_put_22 : decode cX4_put 22 = .ok (.getfield 15, 3) := by decide +kernel
theorem dX4_put_25 : decode cX4_put 25 = .ok (.iload_n 1, 1) := by decide +kernel
theorem dX4_put_26 : decode cX4_put 26 = .ok (.iload_n 2, 1) := by decide +kernel
theorem dX4_put_27 : decode cX4_put 27 = .ok (.iushr, 1) := by decide +kernel
theorem dX4_put_28 : decode cX4_put 28 = .ok (.i2b, 1) := by decide +kernel
theorem dX4_put_29 : decode cX4_put 29 = .ok (.bastore, 1) := by decide +kernel
theorem dX4_put_30 : decode cX4_put 30 = .ok (.aload_n 0, 1) := by decide +kernel
theorem dX4_put_31 : decode cX4_put 31 = .ok (.dup, 1) := by decide +kernel
theorem dX4_put_32 : decode cX4_put 32 = .ok (.getfield 15, 3) := by decide +kernel
theorem dX4_put_35 : decode cX4_put 35 = .ok (.iconst 1, 1) := by decide +kernel
theorem dX4_put_36 : decode cX4_put 36 = .ok (.iadd, 1) := by decide +kernel
theorem dX4_put_37 : decode cX4_put 37 = .ok (.putfield 15, 3) := by decide +kernel
theorem dX4_put_40 : decode cX4_put 40 = .ok (.iinc 2 (-8), 3) := by decide +kernel
theorem dX4_put_43 : decode cX4_put 43 = .ok (.goto (-40), 3) := by decide +kernel
theorem dX4_put_46 : decode cX4_put 46 = .ok (.return_, 1) := by decide +kernel
theorem dX4_begin_0 : decode cX4_begin 0 = .ok (.aload_n 0, 1) := by decide +kernel
theorem dX4_begin_1 : decode cX4_begin 1 = .ok (.iconst 0, 1) := by decide +kernel
theorem dX4_begin_2 : decode cX4_begin 2 = .ok (.putfield 19, 3) := by decide +kernel
theorem dX4_begin_5 : decode cX4_begin 5 = .ok (.aload_n 0, 1) := by decide +kernel
theorem dX4_begin_6 : decode cX4_begin 6 = .ok (.iconst 0, 1) := by decide +kernel
theorem dX4_begin_7 : decode cX4_begin 7 = .ok (.putfield 22, 3) := by decide +kernel
theorem dX4_begin_10 : decode cX4_begin 10 = .ok (.aload_n 0, 1) := by decide +kernel
theorem dX4_begin_11 : decode cX4_begin 11 = .ok (.iconst (-1), 1) := by decide +kernel
theorem dX4_begin_12 : decode cX4_begin 12 = .ok (.putfield 25, 3) := by decide +kernel
theorem dX4_begin_15 : decode cX4_begin 15 = .ok (.return_, 1) := by decide +kernel
theorem dX4_fail_0 : decode cX4_fail 0 = .ok (.aload_n 0, 1) := by decide +kernel
theorem dX4_fail_1 : decode cX4_fail 1 = .ok (.iload_n 1, 1) := by decide +kernel
theorem dX4_fail_2 : decode cX4_fail 2 = .ok (.putfield 22, 3) := by decide +kernel
theorem dX4_fail_5 : decode cX4_fail 5 = .ok (.aload_n 0, 1) := by decide +kernel
theorem dX4_fail_6 : decode cX4_fail 6 = .ok (.iload_n 2, 1) := by decide +kernel
theorem dX4_fail_7 : decode cX4_fail 7 = .ok (.putfield 25, 3) := by decide +kernel
theorem dX4_fail_10 : decode cX4_fail 10 = .ok (.iconst 0, 1) := by decide +kernel
theorem dX4_fail_11 : decode cX4_fail 11 = .ok (.ireturn, 1) := by decide +kernel
theorem dX4_failHere_0 : decode cX4_failHere 0 = .ok (.aload_n 0, 1) := by decide +kernel
theorem dX4_failHere_1 : decode cX4_failHere 1 = .ok (.iload_n 1, 1) := by decide +kernel
theorem dX4_failHere_2 : decode cX4_failHere 2 = .ok (.aload_n 0, 1) := by decide +kernel
theorem dX4_failHere_3 : decode cX4_failHere 3 = .ok (.getfield 19, 3) := by decide +kernel
theorem dX4_failHere_6 : decode cX4_failHere 6 = .ok (.invokevirtual 38, 3) := by decide +kernel
theorem dX4_failHere_9 : decode cX4_failHere 9 = .ok (.ireturn, 1) := by decide +kernel
theorem dX4_here_0 : decode cX4_here 0 = .ok (.aload_n 0, 1) := by decide +kernel
theorem dX4_here_1 : decode cX4_here 1 = .ok (.getfield 19, 3) := by decide +kernel
theorem dX4_here_4 : decode cX4_here 4 = .ok (.ifCond .lt 40, 3) := by decide +kernel
theorem dX4_here_7 : decode cX4_here 7 = .ok (.aload_n 0, 1) := by decide +kernel
theorem dX4_here_8 : decode cX4_here 8 = .ok (.getfield 19, 3) := by decide +kernel
theorem dX4_here_11 : decode cX4_here 11 = .ok (.aload_n 0, 1) := by decide +kernel
theorem dX4_here_12 : decode cX4_here 12 = .ok (.getfield 15, 3) := by decide +kernel
theorem dX4_here_15 : decode cX4_here 15 = .ok (.if_icmp .ge 29, 3) := by decide +kernel
theorem dX4_here_18 : decode cX4_here 18 = .ok (.aload_n 0, 1) := by decide +kernel
theorem dX4_here_19 : decode cX4_here 19 = .ok (.getfield 19, 3) := by decide +kernel
theorem dX4_here_22 : decode cX4_here 22 = .ok (.sipush 400, 3) := by decide +kernel
theorem dX4_here_25 : decode cX4_here 25 = .ok (.if_icmp .ge 19, 3) := by decide +kernel
theorem dX4_here_28 : decode cX4_here 28 = .ok (.aload_n 0, 1) := by decide +kernel
theorem dX4_here_29 : decode cX4_here 29 = .ok (.getfield 9, 3) := by decide +kernel
theorem dX4_here_32 : decode cX4_here 32 = .ok (.aload_n 0, 1) := by decide +kernel
theorem dX4_here_33 : decode cX4_here 33 = .ok (.getfield 19, 3) := by decide +kernel
theorem dX4_here_36 : decode cX4_here 36 = .ok (.baload, 1) := by decide +kernel
theorem dX4_here_37 : decode cX4_here 37 = .ok (.sipush 255, 3) := by decide +kernel
theorem dX4_here_40 : decode cX4_here 40 = .ok (.iand, 1) := by decide +kernel
theorem dX4_here_41 : decode cX4_here 41 = .ok (.goto 4, 3) := by decide +kernel
theorem dX4_here_44 : decode cX4_here 44 = .ok (.iconst (-1), 1) := by decide +kernel
theorem dX4_here_45 : decode cX4_here 45 = .ok (.ireturn, 1) := by decide +kernel
theorem dX4_next_0 : decode cX4_next 0 = .ok (.aload_n 0, 1) := by decide +kernel
theorem dX4_next_1 : decode cX4_next 1 = .ok (.getfield 19, 3) := by decide +kernel
theorem dX4_next_4 : decode cX4_next 4 = .ok (.aload_n 0, 1) := by decide +kernel
theorem dX4_next_5 : decode cX4_next 5 = .ok (.getfield 15, 3) := by decide +kernel
theorem dX4_next_8 : decode cX4_next 8 = .ok (.if_icmp .ge 34, 3) := by decide +kernel
theorem dX4_next_11 : decode cX4_next 11 = .ok (.aload_n 0, 1) := by decide +kernel
theorem dX4_next_12 : decode cX4_next 12 = .ok (.invokevirtual 42, 3) := by decide +kernel
theorem dX4_next_15 : decode cX4_next 15 = .ok (.bipush 10, 2) := by decide +kernel
theorem dX4_next_17 : decode cX4_next 17 = .ok (.if_icmp .eq 12, 3) := by decide +kernel
theorem dX4_next_20 : decode cX4_next 20 = .ok (.aload_n 0, 1) := by decide +kernel
theorem dX4_next_21 : decode cX4_next 21 = .ok (.invokevirtual 42, 3) := by decide +kernel
theorem dX4_next_24 : decode cX4_next 24 = .ok (.bipush 32, 2) := by decide +kernel
theorem dX4_next_26 : decode cX4_next 26 = .ok (.if_icmp .ne 16, 3) := by decide +kernel
theorem dX4_next_29 : decode cX4_next 29 = .ok (.aload_n 0, 1) := by decide +kernel
theorem dX4_next_30 : decode cX4_next 30 = .ok (.dup, 1) := by decide +kernel
theorem dX4_next_31 : decode cX4_next 31 = .ok (.getfield 19, 3) := by decide +kernel
theorem dX4_next_34 : decode cX4_next 34 = .ok (.iconst 1, 1) := by decide +kernel
theorem dX4_next_35 : decode cX4_next 35 = .ok (.iadd, 1) := by decide +kernel
theorem dX4_next_36 : decode cX4_next 36 = .ok (.putfield 19, 3) := by decide +kernel
theorem dX4_next_39 : decode cX4_next 39 = .ok (.goto (-39), 3) := by decide +kernel
theorem dX4_next_42 : decode cX4_next 42 = .ok (.aload_n 0, 1) := by decide +kernel
theorem dX4_next_43 : decode cX4_next 43 = .ok (.invokevirtual 42, 3) := by decide +kernel
theorem dX4_next_46 : decode cX4_next 46 = .ok (.ireturn, 1) := by decide +kernel
theorem dX4_pass_0 : decode cX4_pass 0 = .ok (.aload_n 0, 1) := by decide +kernel
theorem dX4_pass_1 : decode cX4_pass 1 = .ok (.invokevirtual 46, 3) := by decide +kernel
theorem dX4_pass_4 : decode cX4_pass 4 = .ok (.iload_n 1, 1) := by decide +kernel
theorem dX4_pass_5 : decode cX4_pass 5 = .ok (.if_icmp .eq 9, 3) := by decide +kernel
theorem dX4_pass_8 : decode cX4_pass 8 = .ok (.aload_n 0, 1) := by decide +kernel
theorem dX4_pass_9 : decode cX4_pass 9 = .ok (.iconst 1, 1) := by decide +kernel
theorem dX4_pass_10 : decode cX4_pass 10 = .ok (.invokevirtual 49, 3) := by decide +kernel
theorem dX4_pass_13 : decode cX4_pass 13 = .ok (.ireturn, 1) := by decide +kernel
theorem dX4_pass_14 : decode cX4_pass 14 = .ok (.aload_n 0, 1) := by decide +kernel
theorem dX4_pass_15 : decode cX4_pass 15 = .ok (.dup, 1) := by decide +kernel
theorem dX4_pass_16 : decode cX4_pass 16 = .ok (.getfield 19, 3) := by decide +kernel
theorem dX4_pass_19 : decode cX4_pass 19 = .ok (.iconst 1, 1) := by decide +kernel
theorem dX4_pass_20 : decode cX4_pass 20 = .ok (.iadd, 1) := by decide +kernel
theorem dX4_pass_21 : decode cX4_pass 21 = .ok (.putfield 19, 3) := by decide +kernel
theorem dX4_pass_24 : decode cX4_pass 24 = .ok (.iconst 1, 1) := by decide +kernel
theorem dX4_pass_25 : decode cX4_pass 25 = .ok (.ireturn, 1) := by decide +kernel
theorem dX4_readWord_0 : decode cX4_readWord 0 = .ok (.aload_n 0, 1) := by decide +kernel
theorem dX4_readWord_1 : decode cX4_readWord 1 = .ok (.invokevirtual 46, 3) := by decide +kernel
theorem dX4_readWord_4 : decode cX4_readWord 4 = .ok (.pop, 1) := by decide +kernel
theorem dX4_readWord_5 : decode cX4_readWord 5 = .ok (.aload_n 0, 1) := by decide +kernel
theorem dX4_readWord_6 : decode cX4_readWord 6 = .ok (.aload_n 0, 1) := by decide +kernel
theorem dX4_readWord_7 : decode cX4_readWord 7 = .ok (.getfield 19, 3) := by decide +kernel
theorem dX4_readWord_10 : decode cX4_readWord 10 = .ok (.putfield 28, 3) := by decide +kernel
theorem dX4_readWord_13 : decode cX4_readWord 13 = .ok (.lconst 0, 1) := by decide +kernel
theorem dX4_readWord_14 : decode cX4_readWord 14 = .ok (.lstore_n 1, 1) := by decide +kernel
theorem dX4_readWord_15 : decode cX4_readWord 15 = .ok (.aload_n 0, 1) := by decide +kernel
theorem dX4_readWord_16 : decode cX4_readWord 16 = .ok (.getfield 19, 3) := by decide +kernel
theorem dX4_readWord_19 : decode cX4_readWord 19 = .ok (.aload_n 0, 1) := by decide +kernel
theorem dX4_readWord_20 : decode cX4_readWord 20 = .ok (.getfield 15, 3) := by decide +kernel
theorem dX4_readWord_23 : decode cX4_readWord 23 = .ok (.if_icmp .ge 43, 3) := by decide +kernel
theorem dX4_readWord_26 : decode cX4_readWord 26 = .ok (.aload_n 0, 1) := by decide +kernel
theorem dX4_readWord_27 : decode cX4_readWord 27 = .ok (.invokevirtual 42, 3) := by decide +kernel
theorem dX4_readWord_30 : decode cX4_readWord 30 = .ok (.invokestatic 53, 3) := by decide +kernel
theorem dX4_readWord_33 : decode cX4_readWord 33 = .ok (.ifCond .eq 33, 3) := by decide +kernel
theorem dX4_readWord_36 : decode cX4_readWord 36 = .ok (.lload_n 1, 1) := by decide +kernel
theorem dX4_readWord_37 : decode cX4_readWord 37 = .ok (.ldc2_w 56, 3) := by decide +kernel
theorem dX4_readWord_40 : decode cX4_readWord 40 = .ok (.lmul, 1) := by decide +kernel
theorem dX4_readWord_41 : decode cX4_readWord 41 = .ok (.aload_n 0, 1) := by decide +kernel
theorem dX4_readWord_42 : decode cX4_readWord 42 = .ok (.invokevirtual 42, 3) := by decide +kernel
theorem dX4_readWord_45 : decode cX4_readWord 45 = .ok (.bipush 97, 2) := by decide +kernel
theorem dX4_readWord_47 : decode cX4_readWord 47 = .ok (.isub, 1) := by decide +kernel
theorem dX4_readWord_48 : decode cX4_readWord 48 = .ok (.iconst 1, 1) := by decide +kernel
theorem dX4_readWord_49 : decode cX4_readWord 49 = .ok (.iadd, 1) := by decide +kernel
theorem dX4_readWord_50 : decode cX4_readWord 50 = .ok (.i2l, 1) := by decide +kernel
theorem dX4_readWord_51 : decode cX4_readWord 51 = .ok (.ladd, 1) := by decide +kernel
theorem dX4_readWord_52 : decode cX4_readWord 52 = .ok (.lstore_n 1, 1) := by decide +kernel
theorem dX4_readWord_53 : decode cX4_readWord 53 = .ok (.aload_n 0, 1) := by decide +kernel
theorem dX4_readWord_54 : decode cX4_readWord 54 = .ok (.dup, 1) := by decide +kernel
theorem dX4_readWord_55 : decode cX4_readWord 55 = .ok (.getfield 19, 3) := by decide +kernel
theorem dX4_readWord_58 : decode cX4_readWord 58 = .ok (.iconst 1, 1) := by decide +kernel
theorem dX4_readWord_59 : decode cX4_readWord 59 = .ok (.iadd, 1) := by decide +kernel
theorem dX4_readWord_60 : decode cX4_readWord 60 = .ok (.putfield 19, 3) := by decide +kernel
theorem dX4_readWord_63 : decode cX4_readWord 63 = .ok (.goto (-48), 3) := by decide +kernel
theorem dX4_readWord_66 : decode cX4_readWord 66 = .ok (.aload_n 0, 1) := by decide +kernel
theorem dX4_readWord_67 : decode cX4_readWord 67 = .ok (.aload_n 0, 1) := by decide +kernel
theorem dX4_readWord_68 : decode cX4_readWord 68 = .ok (.getfield 19, 3) := by decide +kernel
theorem dX4_readWord_71 : decode cX4_readWord 71 = .ok (.aload_n 0, 1) := by decide +kernel
theorem dX4_readWord_72 : decode cX4_readWord 72 = .ok (.getfield 28, 3) := by decide +kernel
theorem dX4_readWord_75 : decode cX4_readWord 75 = .ok (.isub, 1) := by decide +kernel
theorem dX4_readWord_76 : decode cX4_readWord 76 = .ok (.putfield 31, 3) := by decide +kernel
theorem dX4_readWord_79 : decode cX4_readWord 79 = .ok (.aload_n 0, 1) := by decide +kernel
theorem dX4_readWord_80 : decode cX4_readWord 80 = .ok (.aload_n 0, 1) := by decide +kernel
theorem dX4_readWord_81 : decode cX4_readWord 81 = .ok (.getfield 31, 3) := by decide +kernel
theorem dX4_readWord_84 : decode cX4_readWord 84 = .ok (.bipush 8, 2) := by decide +kernel
theorem dX4_readWord_86 : decode cX4_readWord 86 = .ok (.if_icmp .le 7, 3) := by decide +kernel
theorem dX4_readWord_89 : decode cX4_readWord 89 = .ok (.lconst 0, 1) := by decide +kernel
theorem dX4_readWord_90 : decode cX4_readWord 90 = .ok (.goto 4, 3) := by decide +kernel
theorem dX4_readWord_93 : decode cX4_readWord 93 = .ok (.lload_n 1, 1) := by decide +kernel
theorem dX4_readWord_94 : decode cX4_readWord 94 = .ok (.putfield 34, 3) := by decide +kernel
theorem dX4_readWord_97 : decode cX4_readWord 97 = .ok (.return_, 1) := by decide +kernel
theorem dX4_failAtLetterTooMany_0 : decode cX4_failAtLetterTooMany 0 = .ok (.aload_n 0, 1) := by decide +kernel
theorem dX4_failAtLetterTooMany_1 : decode cX4_failAtLetterTooMany 1 = .ok (.iconst 1, 1) := by decide +kernel
theorem dX4_failAtLetterTooMany_2 : decode cX4_failAtLetterTooMany 2 = .ok (.aload_n 0, 1) := by decide +kernel
theorem dX4_failAtLetterTooMany_3 : decode cX4_failAtLetterTooMany 3 = .ok (.getfield 28, 3) := by decide +kernel
theorem dX4_failAtLetterTooMany_6 : decode cX4_failAtLetterTooMany 6 = .ok (.bipush 8, 2) := by decide +kernel
theorem dX4_failAtLetterTooMany_8 : decode cX4_failAtLetterTooMany 8 = .ok (.iadd, 1) := by decide +kernel
theorem dX4_failAtLetterTooMany_9 : decode cX4_failAtLetterTooMany 9 = .ok (.invokevirtual 38, 3) := by decide +kernel
theorem dX4_failAtLetterTooMany_12 : decode cX4_failAtLetterTooMany 12 = .ok (.ireturn, 1) := by decide +kernel
theorem dX5_init_0 : decode cX5_init 0 = .ok (.aload_n 0, 1) := by decide +kernel
theorem dX5_init_1 : decode cX5_init 1 = .ok (.invokespecial 3, 3) := by decide +kernel
theorem dX5_init_4 : decode cX5_init 4 = .ok (.aload_n 0, 1) := by decide +kernel
theorem dX5_init_5 : decode cX5_init 5 = .ok (.sipush 400, 3) := by decide +kernel
theorem dX5_init_8 : decode cX5_init 8 = .ok (.newarray .byte, 2) := by decide +kernel
theorem dX5_init_10 : decode cX5_init 10 = .ok (.putfield 9, 3) := by decide +kernel
theorem dX5_init_13 : decode cX5_init 13 = .ok (.aload_n 0, 1) := by decide +kernel
theorem dX5_init_14 : decode cX5_init 14 = .ok (.iconst 0, 1) := by decide +kernel
theorem dX5_init_15 : decode cX5_init 15 = .ok (.putfield 15, 3) := by decide +kernel
theorem dX5_init_18 : decode cX5_init 18 = .ok (.return_, 1) := by decide +kernel
theorem dX5_byteAt_0 : decode cX5_byteAt 0 = .ok (.iload_n 1, 1) := by decide +kernel
theorem dX5_byteAt_1 : decode cX5_byteAt 1 = .ok (.ifCond .lt 31, 3) := by decide +kernel
theorem dX5_byteAt_4 : decode cX5_byteAt 4 = .ok (.iload_n 1, 1) := by decide +kernel
theorem dX5_byteAt_5 : decode cX5_byteAt 5 = .ok (.aload_n 0, 1) := by decide +kernel
theorem dX5_byteAt_6 : decode cX5_byteAt 6 = .ok (.getfield 15, 3) := by decide +kernel
theorem dX5_byteAt_9 : decode cX5_byteAt 9 = .ok (.if_icmp .ge 23, 3) := by decide +kernel
theorem dX5_byteAt_12 : decode cX5_byteAt 12 = .ok (.iload_n 1, 1) := by decide +kernel
theorem dX5_byteAt_13 : decode cX5_byteAt 13 = .ok (.sipush 400, 3) := by decide +kernel
theorem dX5_byteAt_16 : decode cX5_byteAt 16 = .ok (.if_icmp .ge 16, 3) := by decide +kernel
theorem dX5_byteAt_19 : decode cX5_byteAt 19 = .ok (.aload_n 0, 1) := by decide +kernel
theorem dX5_byteAt_20 : decode cX5_byteAt 20 = .ok (.getfield 9, 3) := by decide +kernel
theorem dX5_byteAt_23 : decode cX5_byteAt 23 = .ok (.iload_n 1, 1) := by decide +kernel
theorem dX5_byteAt_24 : decode cX5_byteAt 24 = .ok (.baload, 1) := by decide +kernel
theorem dX5_byteAt_25 : decode cX5_byteAt 25 = .ok (.sipush 255, 3) := by decide +kernel
theorem dX5_byteAt_28 : decode cX5_byteAt 28 = .ok (.iand, 1) := by decide +kernel
theorem dX5_byteAt_29 : decode cX5_byteAt 29 = .ok (.goto 4, 3) := by decide +kernel
theorem dX5_byteAt_32 : decode cX5_byteAt 32 = .ok (.iconst (-1), 1) := by decide +kernel
theorem dX5_byteAt_33 : decode cX5_byteAt 33 = .ok (.ireturn, 1) := by decide +kernel
theorem dX5_put_0 : decode cX5_put 0 = .ok (.aload_n 0, 1) := by decide +kernel
theorem dX5_put_1 : decode cX5_put 1 = .ok (.getfield 15, 3) := by decide +kernel
theorem dX5_put_4 : decode cX5_put 4 = .ok (.sipush 400, 3) := by decide +kernel
theorem dX5_put_7 : decode cX5_put 7 = .ok (.if_icmp .ge 24, 3) := by decide +kernel
theorem dX5_put_10 : decode cX5_put 10 = .ok (.aload_n 0, 1) := by decide +kernel
theorem dX5_put_11 : decode cX5_put 11 = .ok (.getfield 9, 3) := by decide +kernel
theorem dX5_put_14 : decode cX5_put 14 = .ok (.aload_n 0, 1) := by decide +kernel
theorem dX5_put_15 : decode cX5_put 15 = .ok (.getfield 15, 3) := by decide +kernel
theorem dX5_put_18 : decode cX5_put 18 = .ok (.iload_n 1, 1) := by decide +kernel
theorem dX5_put_19 : decode cX5_put 19 = .ok (.i2b, 1) := by decide +kernel
theorem dX5_put_20 : decode cX5_put 20 = .ok (.bastore, 1) := by decide +kernel
theorem dX5_put_21 : decode cX5_put 21 = .ok (.aload_n 0, 1) := by decide +kernel
theorem dX5_put_22 : decode cX5_put 22 = .ok (.dup, 1) := by decide +kernel
theorem dX5_put_23 : decode cX5_put 23 = .ok (.getfield 15, 3) := by decide +kernel
theorem dX5_put_26 : decode cX5_put 26 = .ok (.iconst 1, 1) := by decide +kernel
theorem dX5_put_27 : decode cX5_put 27 = .ok (.iadd, 1) := by decide +kernel
theorem dX5_put_28 : decode cX5_put 28 = .ok (.putfield 15, 3) := by decide +kernel
theorem dX5_put_31 : decode cX5_put 31 = .ok (.return_, 1) := by decide +kernel
theorem dX5_putWord_0 : decode cX5_putWord 0 = .ok (.ldc2_w 19, 3) := by decide +kernel
theorem dX5_putWord_3 : decode cX5_putWord 3 = .ok (.lstore_n 3, 1) := by decide +kernel
theorem dX5_putWord_4 : decode cX5_putWord 4 = .ok (.lload_n 3, 1) := by decide +kernel
theorem dX5_putWord_5 : decode cX5_putWord 5 = .ok (.lconst 0, 1) := by decide +kernel
theorem dX5_putWord_6 : decode cX5_putWord 6 = .ok (.lcmp, 1) := by decide +kernel
theorem dX5_putWord_7 : decode cX5_putWord 7 = .ok (.ifCond .le 39, 3) := by decide +kernel
theorem dX5_putWord_10 : decode cX5_putWord 10 = .ok (.lload_n 1, 1) := by decide +kernel
theorem dX5_putWord_11 : decode cX5_putWord 11 = .ok (.lload_n 3, 1) := by decide +kernel
theorem dX5_putWord_12 : decode cX5_putWord 12 = .ok (.ldiv, 1) := by decide +kernel
theorem dX5_putWord_13 : decode cX5_putWord 13 = .ok (.ldc2_w 21, 3) := by decide +kernel
theorem dX5_putWord_16 : decode cX5_putWord 16 = .ok (.lrem, 1) := by decide +kernel
theorem dX5_putWord_17 : decode cX5_putWord 17 = .ok (.lstore 5, 2) := by decide +kernel
theorem dX5_putWord_19 : decode cX5_putWord 19 = .ok (.lload 5, 2) := by decide +kernel
theorem dX5_putWord_21 : decode cX5_putWord 21 = .ok (.lconst 0, 1) := by decide +kernel
theorem dX5_putWord_22 : decode cX5_putWord 22 = .ok (.lcmp, 1) := by decide +kernel
theorem dX5_putWord_23 : decode cX5_putWord 23 = .ok (.ifCond .le 14, 3) := by decide +kernel
theorem dX5_putWord_26 : decode cX5_putWord 26 = .ok (.aload_n 0, 1) := by decide +kernel
theorem dX5_putWord_27 : decode cX5_putWord 27 = .ok (.ldc2_w 23, 3) := by decide +kernel
theorem dX5_putWord_30 : decode cX5_putWord 30 = .ok (.lload 5, 2) := by decide +kernel
theorem dX5_putWord_32 : decode cX5_putWord 32 = .ok (.ladd, 1) := by decide +kernel
theorem dX5_putWord_33 : decode cX5_putWord 33 = .ok (.l2i, 1) := by decide +kernel
theorem dX5_putWord_34 : decode cX5_putWord 34 = .ok (.invokevirtual 25, 3) := by decide +kernel
theorem dX5_putWord_37 : decode cX5_putWord 37 = .ok (.lload_n 3, 1) := by decide +kernel
theorem dX5_putWord_38 : decode cX5_putWord 38 = .ok (.ldc2_w 21, 3) := by decide +kernel
theorem dX5_putWord_41 : decode cX5_putWord 41 = .ok (.ldiv, 1) := by decide +kernel
theorem dX5_putWord_42 : decode cX5_putWord 42 = .ok (.lstore_n 3, 1) := by decide +kernel
theorem dX5_putWord_43 : decode cX5_putWord 43 = .ok (.goto (-39), 3) := by decide +kernel
theorem dX5_putWord_46 : decode cX5_putWord 46 = .ok (.return_, 1) := by decide +kernel
theorem dX5_putNumber_0 : decode cX5_putNumber 0 = .ok (.lload_n 1, 1) := by decide +kernel
theorem dX5_putNumber_1 : decode cX5_putNumber 1 = .ok (.lconst 0, 1) := by decide +kernel
theorem dX5_putNumber_2 : decode cX5_putNumber 2 = .ok (.lcmp, 1) := by decide +kernel
theorem dX5_putNumber_3 : decode cX5_putNumber 3 = .ok (.ifCond .ge 9, 3) := by decide +kernel
theorem dX5_putNumber_6 : decode cX5_putNumber 6 = .ok (.aload_n 0, 1) := by decide +kernel
theorem dX5_putNumber_7 : decode cX5_putNumber 7 = .ok (.bipush 45, 2) := by decide +kernel
theorem dX5_putNumber_9 : decode cX5_putNumber 9 = .ok (.invokevirtual 25, 3) := by decide +kernel
theorem dX5_putNumber_12 : decode cX5_putNumber 12 = .ok (.lload_n 1, 1) := by decide +kernel
theorem dX5_putNumber_13 : decode cX5_putNumber 13 = .ok (.invokestatic 29, 3) := by decide +kernel
theorem dX5_putNumber_16 : decode cX5_putNumber 16 = .ok (.lstore_n 3, 1) := by decide +kernel
theorem dX5_putNumber_17 : decode cX5_putNumber 17 = .ok (.ldc2_w 35, 3) := by decide +kernel
theorem dX5_putNumber_20 : decode cX5_putNumber 20 = .ok (.lstore 5, 2) := by decide +kernel
theorem dX5_putNumber_22 : decode cX5_putNumber 22 = .ok (.lload 5, 2) := by decide +kernel
theorem dX5_putNumber_24 : decode cX5_putNumber 24 = .ok (.lconst 0, 1) := by decide +kernel
theorem dX5_putNumber_25 : decode cX5_putNumber 25 = .ok (.lcmp, 1) := by decide +kernel
theorem dX5_putNumber_26 : decode cX5_putNumber 26 = .ok (.ifCond .le 45, 3) := by decide +kernel
theorem dX5_putNumber_29 : decode cX5_putNumber 29 = .ok (.lload_n 3, 1) := by decide +kernel
theorem dX5_putNumber_30 : decode cX5_putNumber 30 = .ok (.lload 5, 2) := by decide +kernel
theorem dX5_putNumber_32 : decode cX5_putNumber 32 = .ok (.lcmp, 1) := by decide +kernel
theorem dX5_putNumber_33 : decode cX5_putNumber 33 = .ok (.ifCond .ge 10, 3) := by decide +kernel
theorem dX5_putNumber_36 : decode cX5_putNumber 36 = .ok (.lload 5, 2) := by decide +kernel
theorem dX5_putNumber_38 : decode cX5_putNumber 38 = .ok (.lconst 1, 1) := by decide +kernel
theorem dX5_putNumber_39 : decode cX5_putNumber 39 = .ok (.lcmp, 1) := by decide +kernel
theorem dX5_putNumber_40 : decode cX5_putNumber 40 = .ok (.ifCond .ne 20, 3) := by decide +kernel
theorem dX5_putNumber_43 : decode cX5_putNumber 43 = .ok (.aload_n 0, 1) := by decide +kernel
theorem dX5_putNumber_44 : decode cX5_putNumber 44 = .ok (.ldc2_w 37, 3) := by decide +kernel
theorem dX5_putNumber_47 : decode cX5_putNumber 47 = .ok (.lload_n 3, 1) := by decide +kernel
theorem dX5_putNumber_48 : decode cX5_putNumber 48 = .ok (.lload 5, 2) := by decide +kernel
theorem dX5_putNumber_50 : decode cX5_putNumber 50 = .ok (.ldiv, 1) := by decide +kernel
theorem dX5_putNumber_51 : decode cX5_putNumber 51 = .ok (.ldc2_w 39, 3) := by decide +kernel
theorem dX5_putNumber_54 : decode cX5_putNumber 54 = .ok (.lrem, 1) := by decide +kernel
theorem dX5_putNumber_55 : decode cX5_putNumber 55 = .ok (.ladd, 1) := by decide +kernel
theorem dX5_putNumber_56 : decode cX5_putNumber 56 = .ok (.l2i, 1) := by decide +kernel
theorem dX5_putNumber_57 : decode cX5_putNumber 57 = .ok (.invokevirtual 25, 3) := by decide +kernel
theorem dX5_putNumber_60 : decode cX5_putNumber 60 = .ok (.lload 5, 2) := by decide +kernel
theorem dX5_putNumber_62 : decode cX5_putNumber 62 = .ok (.ldc2_w 39, 3) := by decide +kernel
theorem dX5_putNumber_65 : decode cX5_putNumber 65 = .ok (.ldiv, 1) := by decide +kernel
theorem dX5_putNumber_66 : decode cX5_putNumber 66 = .ok (.lstore 5, 2) := by decide +kernel
theorem dX5_putNumber_68 : decode cX5_putNumber 68 = .ok (.goto (-46), 3) := by decide +kernel
theorem dX5_putNumber_71 : decode cX5_putNumber 71 = .ok (.return_, 1) := by decide +kernel
theorem dX6_init_0 : decode cX6_init 0 = .ok (.aload_n 0, 1) := by decide +kernel
theorem dX6_init_1 : decode cX6_init 1 = .ok (.invokespecial 3, 3) := by decide +kernel
theorem dX6_init_4 : decode cX6_init 4 = .ok (.aload_n 0, 1) := by decide +kernel
theorem dX6_init_5 : decode cX6_init 5 = .ok (.aload_n 1, 1) := by decide +kernel
theorem dX6_init_6 : decode cX6_init 6 = .ok (.putfield 9, 3) := by decide +kernel
theorem dX6_init_9 : decode cX6_init 9 = .ok (.aload_n 0, 1) := by decide +kernel
theorem dX6_init_10 : decode cX6_init 10 = .ok (.aload_n 2, 1) := by decide +kernel
theorem dX6_init_11 : decode cX6_init 11 = .ok (.putfield 15, 3) := by decide +kernel
theorem dX6_init_14 : decode cX6_init 14 = .ok (.aload_n 0, 1) := by decide +kernel
theorem dX6_init_15 : decode cX6_init 15 = .ok (.iload_n 3, 1) := by decide +kernel
theorem dX6_init_16 : decode cX6_init 16 = .ok (.putfield 19, 3) := by decide +kernel
theorem dX6_init_19 : decode cX6_init 19 = .ok (.aload_n 0, 1) := by decide +kernel
theorem dX6_init_20 : decode cX6_init 20 = .ok (.aload 4, 2) := by decide +kernel
theorem dX6_init_22 : decode cX6_init 22 = .ok (.putfield 23, 3) := by decide +kernel
theorem dX6_init_25 : decode cX6_init 25 = .ok (.aload_n 0, 1) := by decide +kernel
theorem dX6_init_26 : decode cX6_init 26 = .ok (.bipush 12, 2) := by decide +kernel
theorem dX6_init_28 : decode cX6_init 28 = .ok (.newarray .int, 2) := by decide +kernel
theorem dX6_init_30 : decode cX6_init 30 = .ok (.putfield 27, 3) := by decide +kernel
theorem dX6_init_33 : decode cX6_init 33 = .ok (.return_, 1) := by decide +kernel
theorem dX6_writeAll_0 : decode cX6_writeAll 0 = .ok (.aload_n 0, 1) := by decide +kernel
theorem dX6_writeAll_1 : decode cX6_writeAll 1 = .ok (.getfield 23, 3) := by decide +kernel
theorem dX6_writeAll_4 : decode cX6_writeAll 4 = .ok (.iconst 0, 1) := by decide +kernel
theorem dX6_writeAll_5 : decode cX6_writeAll 5 = .ok (.putfield 31, 3) := by decide +kernel
theorem dX6_writeAll_8 : decode cX6_writeAll 8 = .ok (.iconst 0, 1) := by decide +kernel
theorem dX6_writeAll_9 : decode cX6_writeAll 9 = .ok (.istore_n 2, 1) := by decide +kernel
theorem dX6_writeAll_10 : decode cX6_writeAll 10 = .ok (.iload_n 2, 1) := by decide +kernel
theorem dX6_writeAll_11 : decode cX6_writeAll 11 = .ok (.bipush 12, 2) := by decide +kernel
theorem dX6_writeAll_13 : decode cX6_writeAll 13 = .ok (.if_icmp .ge 34, 3) := by decide +kernel
theorem dX6_writeAll_16 : decode cX6_writeAll 16 = .ok (.aload_n 0, 1) := by decide +kernel
theorem dX6_writeAll_17 : decode cX6_writeAll 17 = .ok (.iload_n 2, 1) := by decide +kernel
theorem dX6_writeAll_18 : decode cX6_writeAll 18 = .ok (.invokevirtual 36, 3) := by decide +kernel
theorem dX6_writeAll_21 : decode cX6_writeAll 21 = .ok (.astore_n 3, 1) := by decide +kernel
theorem dX6_writeAll_22 : decode cX6_writeAll 22 = .ok (.aload_n 0, 1) := by decide +kernel
theorem dX6_writeAll_23 : decode cX6_writeAll 23 = .ok (.getfield 27, 3) := by decide +kernel
theorem dX6_writeAll_26 : decode cX6_writeAll 26 = .ok (.iload_n 2, 1) := by decide +kernel
theorem dX6_writeAll_27 : decode cX6_writeAll 27 = .ok (.aload_n 3, 1) := by decide +kernel
theorem dX6_writeAll_28 : decode cX6_writeAll 28 = .ok (.ifnonnull 7, 3) := by decide +kernel
theorem dX6_writeAll_31 : decode cX6_writeAll 31 = .ok (.iconst (-1), 1) := by decide +kernel
theorem dX6_writeAll_32 : decode cX6_writeAll 32 = .ok (.goto 8, 3) := by decide +kernel
theorem dX6_writeAll_35 : decode cX6_writeAll 35 = .ok (.aload_n 3, 1) := by decide +kernel
theorem dX6_writeAll_36 : decode cX6_writeAll 36 = .ok (.iload_n 1, 1) := by decide +kernel
theorem dX6_writeAll_37 : decode cX6_writeAll 37 = .ok (.invokevirtual 40, 3) := by decide +kernel
theorem dX6_writeAll_40 : decode cX6_writeAll 40 = .ok (.iastore, 1) := by decide +kernel
theorem dX6_writeAll_41 : decode cX6_writeAll 41 = .ok (.iinc 2 1, 3) := by decide +kernel
theorem dX6_writeAll_44 : decode cX6_writeAll 44 = .ok (.goto (-34), 3) := by decide +kernel
theorem dX6_writeAll_47 : decode cX6_writeAll 47 = .ok (.aload_n 0, 1) := by decide +kernel
theorem dX6_writeAll_48 : decode cX6_writeAll 48 = .ok (.iconst (-1), 1) := by decide +kernel
theorem dX6_writeAll_49 : decode cX6_writeAll 49 = .ok (.iconst 0, 1) := by decide +kernel
theorem dX6_writeAll_50 : decode cX6_writeAll 50 = .ok (.invokevirtual 46, 3) := by decide +kernel
theorem dX6_writeAll_53 : decode cX6_writeAll 53 = .ok (.return_, 1) := by decide +kernel
theorem dX6_wantedTable_0 : decode cX6_wantedTable 0 = .ok (.iload_n 1, 1) := by decide +kernel
theorem dX6_wantedTable_1 : decode cX6_wantedTable 1 = .ok (.ifCond .lt 33, 3) := by decide +kernel
theorem dX6_wantedTable_4 : decode cX6_wantedTable 4 = .ok (.iload_n 1, 1) := by decide +kernel
theorem dX6_wantedTable_5 : decode cX6_wantedTable 5 = .ok (.aload_n 0, 1) := by decide +kernel
theorem dX6_wantedTable_6 : decode cX6_wantedTable 6 = .ok (.getfield 9, 3) := by decide +kernel
theorem dX6_wantedTable_9 : decode cX6_wantedTable 9 = .ok (.getfield 50, 3) := by decide +kernel
theorem dX6_wantedTable_12 : decode cX6_wantedTable 12 = .ok (.if_icmp .ge 22, 3) := by decide +kernel
theorem dX6_wantedTable_15 : decode cX6_wantedTable 15 = .ok (.iload_n 1, 1) := by decide +kernel
theorem dX6_wantedTable_16 : decode cX6_wantedTable 16 = .ok (.bipush 12, 2) := by decide +kernel
theorem dX6_wantedTable_18 : decode cX6_wantedTable 18 = .ok (.if_icmp .ge 16, 3) := by decide +kernel
theorem dX6_wantedTable_21 : decode cX6_wantedTable 21 = .ok (.iload_n 1, 1) := by decide +kernel
theorem dX6_wantedTable_22 : decode cX6_wantedTable 22 = .ok (.aload_n 0, 1) := by decide +kernel
theorem dX6_wantedTable_23 : decode cX6_wantedTable 23 = .ok (.getfield 15, 3) := by decide +kernel
theorem dX6_wantedTable_26 : decode cX6_wantedTable 26 = .ok (.arraylength, 1) := by decide +kernel
theorem dX6_wantedTable_27 : decode cX6_wantedTable 27 = .ok (.if_icmp .ge 7, 3) := by decide +kernel
theorem dX6_wantedTable_30 : decode cX6_wantedTable 30 = .ok (.iconst 1, 1) := by decide +kernel
theorem dX6_wantedTable_31 : decode cX6_wantedTable 31 = .ok (.goto 4, 3) := by decide +kernel
theorem dX6_wantedTable_34 : decode cX6_wantedTable 34 = .ok (.iconst 0, 1) := by decide +kernel
theorem dX6_wantedTable_35 : decode cX6_wantedTable 35 = .ok (.istore_n 2, 1) := by decide +kernel
theorem dX6_wantedTable_36 : decode cX6_wantedTable 36 = .ok (.iload_n 2, 1) := by decide +kernel
theorem dX6_wantedTable_37 : decode cX6_wantedTable 37 = .ok (.ifCond .eq 24, 3) := by decide +kernel
theorem dX6_wantedTable_40 : decode cX6_wantedTable 40 = .ok (.aload_n 0, 1) := by decide +kernel
theorem dX6_wantedTable_41 : decode cX6_wantedTable 41 = .ok (.getfield 19, 3) := by decide +kernel
theorem dX6_wantedTable_44 : decode cX6_wantedTable 44 = .ok (.iload_n 1, 1) := by decide +kernel
theorem dX6_wantedTable_45 : decode cX6_wantedTable 45 = .ok (.ishr, 1) := by decide +kernel
theorem dX6_wantedTable_46 : decode cX6_wantedTable 46 = .ok (.iconst 1, 1) := by decide +kernel
theorem dX6_wantedTable_47 : decode cX6_wantedTable 47 = .ok (.iand, 1) := by decide +kernel
theorem dX6_wantedTable_48 : decode cX6_wantedTable 48 = .ok (.iconst 1, 1) := by decide +kernel
theorem dX6_wantedTable_49 : decode cX6_wantedTable 49 = .ok (.if_icmp .ne 12, 3) := by decide +kernel
theorem dX6_wantedTable_52 : decode cX6_wantedTable 52 = .ok (.aload_n 0, 1) := by decide +kernel
theorem dX6_wantedTable_53 : decode cX6_wantedTable 53 = .ok (.getfield 15, 3) := by decide +kernel
theorem dX6_wantedTable_56 : decode cX6_wantedTable 56 = .ok (.iload_n 1, 1) := by decide +kernel
theorem dX6_wantedTable_57 : decode cX6_wantedTable 57 = .ok (.aaload, 1) := by decide +kernel
theorem dX6_wantedTable_58 : decode cX6_wantedTable 58 = .ok (.goto 4, 3) := by decide +kernel
theorem dX6_wantedTable_61 : decode cX6_wantedTable 61 = .ok (.aconst_null, 1) := by decide +kernel
theorem dX6_wantedTable_62 : decode cX6_wantedTable 62 = .ok (.areturn, 1) := by decide +kernel
theorem dX6_writeParts_0 : decode cX6_writeParts 0 = .ok (.iload_n 2, 1) := by decide +kernel
theorem dX6_writeParts_1 : decode cX6_writeParts 1 = .ok (.iconst 4, 1) := by decide +kernel
theorem dX6_writeParts_2 : decode cX6_writeParts 2 = .ok (.if_icmp .le 4, 3) := by decide +kernel
theorem dX6_writeParts_5 : decode cX6_writeParts 5 = .ok (.return_, 1) := by decide +kernel
theorem dX6_writeParts_6 : decode cX6_writeParts 6 = .ok (.iconst 0, 1) := by decide +kernel
theorem dX6_writeParts_7 : decode cX6_writeParts 7 = .ok (.istore_n 3, 1) := by decide +kernel
theorem dX6_writeParts_8 : decode cX6_writeParts 8 = .ok (.iload_n 3, 1) := by decide +kernel
theorem dX6_writeParts_9 : decode cX6_writeParts 9 = .ok (.aload_n 0, 1) := by decide +kernel
theorem dX6_writeParts_10 : decode cX6_writeParts 10 = .ok (.getfield 9, 3) := by decide +kernel
theorem dX6_writeParts_13 : decode cX6_writeParts 13 = .ok (.getfield 55, 3) := by decide +kernel
theorem dX6_writeParts_16 : decode cX6_writeParts 16 = .ok (.if_icmp .ge 28, 3) := by decide +kernel
theorem dX6_writeParts_19 : decode cX6_writeParts 19 = .ok (.aload_n 0, 1) := by decide +kernel
theorem dX6_writeParts_20 : decode cX6_writeParts 20 = .ok (.getfield 9, 3) := by decide +kernel
theorem dX6_writeParts_23 : decode cX6_writeParts 23 = .ok (.getfield 58, 3) := by decide +kernel
theorem dX6_writeParts_26 : decode cX6_writeParts 26 = .ok (.iload_n 3, 1) := by decide +kernel
theorem dX6_writeParts_27 : decode cX6_writeParts 27 = .ok (.iaload, 1) := by decide +kernel
theorem dX6_writeParts_28 : decode cX6_writeParts 28 = .ok (.iload_n 1, 1) := by decide +kernel
theorem dX6_writeParts_29 : decode cX6_writeParts 29 = .ok (.if_icmp .ne 9, 3) := by decide +kernel
theorem dX6_writeParts_32 : decode cX6_writeParts 32 = .ok (.aload_n 0, 1) := by decide +kernel
theorem dX6_writeParts_33 : decode cX6_writeParts 33 = .ok (.iload_n 3, 1) := by decide +kernel
theorem dX6_writeParts_34 : decode cX6_writeParts 34 = .ok (.iload_n 2, 1) := by decide +kernel
theorem dX6_writeParts_35 : decode cX6_writeParts 35 = .ok (.invokevirtual 61, 3) := by decide +kernel
theorem dX6_writeParts_38 : decode cX6_writeParts 38 = .ok (.iinc 3 1, 3) := by decide +kernel
theorem dX6_writeParts_41 : decode cX6_writeParts 41 = .ok (.goto (-33), 3) := by decide +kernel
theorem dX6_writeParts_44 : decode cX6_writeParts 44 = .ok (.return_, 1) := by decide +kernel
theorem dX6_writeField_0 : decode cX6_writeField 0 = .ok (.aload_n 0, 1) := by decide +kernel
theorem dX6_writeField_1 : decode cX6_writeField 1 = .ok (.iload_n 1, 1) := by decide +kernel
theorem dX6_writeField_2 : decode cX6_writeField 2 = .ok (.invokevirtual 64, 3) := by decide +kernel
theorem dX6_writeField_5 : decode cX6_writeField 5 = .ok (.istore_n 3, 1) := by decide +kernel
theorem dX6_writeField_6 : decode cX6_writeField 6 = .ok (.aload_n 0, 1) := by decide +kernel
theorem dX6_writeField_7 : decode cX6_writeField 7 = .ok (.iload_n 3, 1) := by decide +kernel
theorem dX6_writeField_8 : decode cX6_writeField 8 = .ok (.invokevirtual 36, 3) := by decide +kernel
theorem dX6_writeField_11 : decode cX6_writeField 11 = .ok (.astore 4, 2) := by decide +kernel
theorem dX6_writeField_13 : decode cX6_writeField 13 = .ok (.aload 4, 2) := by decide +kernel
theorem dX6_writeField_15 : decode cX6_writeField 15 = .ok (.ifnull 17, 3) := by decide +kernel
theorem dX6_writeField_18 : decode cX6_writeField 18 = .ok (.aload 4, 2) := by decide +kernel
theorem dX6_writeField_20 : decode cX6_writeField 20 = .ok (.aload_n 0, 1) := by decide +kernel
theorem dX6_writeField_21 : decode cX6_writeField 21 = .ok (.getfield 27, 3) := by decide +kernel
theorem dX6_writeField_24 : decode cX6_writeField 24 = .ok (.iload_n 3, 1) := by decide +kernel
theorem dX6_writeField_25 : decode cX6_writeField 25 = .ok (.iaload, 1) := by decide +kernel
theorem dX6_writeField_26 : decode cX6_writeField 26 = .ok (.invokevirtual 67, 3) := by decide +kernel
theorem dX6_writeField_29 : decode cX6_writeField 29 = .ok (.ifCond .ne 4, 3) := by decide +kernel
theorem dX6_writeField_32 : decode cX6_writeField 32 = .ok (.return_, 1) := by decide +kernel
theorem dX6_writeField_33 : decode cX6_writeField 33 = .ok (.aload 4, 2) := by decide +kernel
theorem dX6_writeField_35 : decode cX6_writeField 35 = .ok (.getfield 71, 3) := by decide +kernel
theorem dX6_writeField_38 : decode cX6_writeField 38 = .ok (.aload_n 0, 1) := by decide +kernel
theorem dX6_writeField_39 : decode cX6_writeField 39 = .ok (.getfield 27, 3) := by decide +kernel
theorem dX6_writeField_42 : decode cX6_writeField 42 = .ok (.iload_n 3, 1) := by decide +kernel
theorem dX6_writeField_43 : decode cX6_writeField 43 = .ok (.iaload, 1) := by decide +kernel
theorem dX6_writeField_44 : decode cX6_writeField 44 = .ok (.iaload, 1) := by decide +kernel
theorem dX6_writeField_45 : decode cX6_writeField 45 = .ok (.aload_n 0, 1) := by decide +kernel
theorem dX6_writeField_46 : decode cX6_writeField 46 = .ok (.getfield 9, 3) := by decide +kernel
theorem dX6_writeField_49 : decode cX6_writeField 49 = .ok (.getfield 74, 3) := by decide +kernel
theorem dX6_writeField_52 : decode cX6_writeField 52 = .ok (.iload_n 1, 1) := by decide +kernel
theorem dX6_writeField_53 : decode cX6_writeField 53 = .ok (.iaload, 1) := by decide +kernel
theorem dX6_writeField_54 : decode cX6_writeField 54 = .ok (.if_icmp .ge 9, 3) := by decide +kernel
theorem dX6_writeField_57 : decode cX6_writeField 57 = .ok (.aload_n 0, 1) := by decide +kernel
theorem dX6_writeField_58 : decode cX6_writeField 58 = .ok (.iload_n 1, 1) := by decide +kernel
theorem dX6_writeField_59 : decode cX6_writeField 59 = .ok (.invokevirtual 77, 3) := by decide +kernel
theorem dX6_writeField_62 : decode cX6_writeField 62 = .ok (.return_, 1) := by decide +kernel
theorem dX6_writeField_63 : decode cX6_writeField 63 = .ok (.iconst 1, 1) := by decide +kernel
theorem dX6_writeField_64 : decode cX6_writeField 64 = .ok (.istore 5, 2) := by decide +kernel
theorem dX6_writeField_66 : decode cX6_writeField 66 = .ok (.iconst 0, 1) := by decide +kernel
theorem dX6_writeField_67 : decode cX6_writeField 67 = .ok (.istore 6, 2) := by decide +kernel
theorem dX6_writeField_69 : decode cX6_writeField 69 = .ok (.iload 6, 2) := by decide +kernel
theorem dX6_writeField_71 : decode cX6_writeField 71 = .ok (.sipush 400, 3) := by decide +kernel
theorem dX6_writeField_74 : decode cX6_writeField 74 = .ok (.if_icmp .ge 118, 3) := by decide +kernel
theorem dX6_writeField_77 : decode cX6_writeField 77 = .ok (.iload 5, 2) := by decide +kernel
theorem dX6_writeField_79 : decode cX6_writeField 79 = .ok (.ifCond .eq 113, 3) := by decide +kernel
theorem dX6_writeField_82 : decode cX6_writeField 82 = .ok (.aload_n 0, 1) := by decide +kernel
theorem dX6_writeField_83 : decode cX6_writeField 83 = .ok (.getfield 23, 3) := by decide +kernel
theorem dX6_writeField_86 : decode cX6_writeField 86 = .ok (.aload_n 0, 1) := by decide +kernel
theorem dX6_writeField_87 : decode cX6_writeField 87 = .ok (.getfield 9, 3) := by decide +kernel
theorem dX6_writeField_90 : decode cX6_writeField 90 = .ok (.getfield 81, 3) := by decide +kernel
theorem dX6_writeField_93 : decode cX6_writeField 93 = .ok (.iload_n 1, 1) := by decide +kernel
theorem dX6_writeField_94 : decode cX6_writeField 94 = .ok (.laload, 1) := by decide +kernel
theorem dX6_writeField_95 : decode cX6_writeField 95 = .ok (.invokevirtual 85, 3) := by decide +kernel
theorem dX6_writeField_98 : decode cX6_writeField 98 = .ok (.aload_n 0, 1) := by decide +kernel
theorem dX6_writeField_99 : decode cX6_writeField 99 = .ok (.getfield 23, 3) := by decide +kernel
theorem dX6_writeField_102 : decode cX6_writeField 102 = .ok (.bipush 58, 2) := by decide +kernel
theorem dX6_writeField_104 : decode cX6_writeField 104 = .ok (.invokevirtual 89, 3) := by decide +kernel
theorem dX6_writeField_107 : decode cX6_writeField 107 = .ok (.aload_n 0, 1) := by decide +kernel
theorem dX6_writeField_108 : decode cX6_writeField 108 = .ok (.getfield 9, 3) := by decide +kernel
theorem dX6_writeField_111 : decode cX6_writeField 111 = .ok (.getfield 92, 3) := by decide +kernel
theorem dX6_writeField_114 : decode cX6_writeField 114 = .ok (.iload_n 1, 1) := by decide +kernel
theorem dX6_writeField_115 : decode cX6_writeField 115 = .ok (.iaload, 1) := by decide +kernel
theorem dX6_writeField_116 : decode cX6_writeField 116 = .ok (.iconst 3, 1) := by decide +kernel
theorem dX6_writeField_117 : decode cX6_writeField 117 = .ok (.if_icmp .ne 12, 3) := by decide +kernel
theorem dX6_writeField_120 : decode cX6_writeField 120 = .ok (.aload_n 0, 1) := by decide +kernel
theorem dX6_writeField_121 : decode cX6_writeField 121 = .ok (.iload_n 1, 1) := by decide +kernel
theorem dX6_writeField_122 : decode cX6_writeField 122 = .ok (.iload_n 2, 1) := by decide +kernel
theorem dX6_writeField_123 : decode cX6_writeField 123 = .ok (.invokevirtual 95, 3) := by decide +kernel
theorem dX6_writeField_126 : decode cX6_writeField 126 = .ok (.goto 8, 3) := by decide +kernel
theorem dX6_writeField_129 : decode cX6_writeField 129 = .ok (.aload_n 0, 1) := by decide +kernel
theorem dX6_writeField_130 : decode cX6_writeField 130 = .ok (.iload_n 3, 1) := by decide +kernel
theorem dX6_writeField_131 : decode cX6_writeField 131 = .ok (.invokevirtual 98, 3) := by decide +kernel
theorem dX6_writeField_134 : decode cX6_writeField 134 = .ok (.aload_n 0, 1) := by decide +kernel
theorem dX6_writeField_135 : decode cX6_writeField 135 = .ok (.getfield 23, 3) := by decide +kernel
theorem dX6_writeField_138 : decode cX6_writeField 138 = .ok (.bipush 59, 2) := by decide +kernel
theorem dX6_writeField_140 : decode cX6_writeField 140 = .ok (.invokevirtual 89, 3) := by decide +kernel
theorem dX6_writeField_143 : decode cX6_writeField 143 = .ok (.aload_n 0, 1) := by decide +kernel
theorem dX6_writeField_144 : decode cX6_writeField 144 = .ok (.getfield 9, 3) := by decide +kernel
theorem dX6_writeField_147 : decode cX6_writeField 147 = .ok (.getfield 101, 3) := by decide +kernel
theorem dX6_writeField_150 : decode cX6_writeField 150 = .ok (.iload_n 1, 1) := by decide +kernel
theorem dX6_writeField_151 : decode cX6_writeField 151 = .ok (.iaload, 1) := by decide +kernel
theorem dX6_writeField_152 : decode cX6_writeField 152 = .ok (.iconst 3, 1) := by decide +kernel
theorem dX6_writeField_153 : decode cX6_writeField 153 = .ok (.if_icmp .ne 30, 3) := by decide +kernel
theorem dX6_writeField_156 : decode cX6_writeField 156 = .ok (.aload 4, 2) := by decide +kernel
theorem dX6_writeField_158 : decode cX6_writeField 158 = .ok (.aload_n 0, 1) := by decide +kernel
theorem dX6_writeField_159 : decode cX6_writeField 159 = .ok (.getfield 27, 3) := by decide +kernel
theorem dX6_writeField_162 : decode cX6_writeField 162 = .ok (.iload_n 3, 1) := by decide +kernel
theorem dX6_writeField_163 : decode cX6_writeField 163 = .ok (.iaload, 1) := by decide +kernel
theorem dX6_writeField_164 : decode cX6_writeField 164 = .ok (.aload_n 0, 1) := by decide +kernel
theorem dX6_writeField_165 : decode cX6_writeField 165 = .ok (.getfield 9, 3) := by decide +kernel
theorem dX6_writeField_168 : decode cX6_writeField 168 = .ok (.getfield 104, 3) := by decide +kernel
theorem dX6_writeField_171 : decode cX6_writeField 171 = .ok (.iload_n 1, 1) := by decide +kernel
theorem dX6_writeField_172 : decode cX6_writeField 172 = .ok (.iaload, 1) := by decide +kernel
theorem dX6_writeField_173 : decode cX6_writeField 173 = .ok (.invokevirtual 107, 3) := by decide +kernel
theorem dX6_writeField_176 : decode cX6_writeField 176 = .ok (.ifCond .eq 7, 3) := by decide +kernel
theorem dX6_writeField_179 : decode cX6_writeField 179 = .ok (.iconst 1, 1) := by decide +kernel
theorem dX6_writeField_180 : decode cX6_writeField 180 = .ok (.goto 4, 3) := by decide +kernel
theorem dX6_writeField_183 : decode cX6_writeField 183 = .ok (.iconst 0, 1) := by decide +kernel
theorem dX6_writeField_184 : decode cX6_writeField 184 = .ok (.istore 5, 2) := by decide +kernel
theorem dX6_writeField_186 : decode cX6_writeField 186 = .ok (.iinc 6 1, 3) := by decide +kernel
theorem dX6_writeField_189 : decode cX6_writeField 189 = .ok (.goto (-120), 3) := by decide +kernel
theorem dX6_writeField_192 : decode cX6_writeField 192 = .ok (.return_, 1) := by decide +kernel
theorem dX6_writeGroup_0 : decode cX6_writeGroup 0 = .ok (.aload_n 0, 1) := by decide +kernel
theorem dX6_writeGroup_1 : decode cX6_writeGroup 1 = .ok (.getfield 23, 3) := by decide +kernel
theorem dX6_writeGroup_4 : decode cX6_writeGroup 4 = .ok (.bipush 91, 2) := by decide +kernel
theorem dX6_writeGroup_6 : decode cX6_writeGroup 6 = .ok (.invokevirtual 89, 3) := by decide +kernel
theorem dX6_writeGroup_9 : decode cX6_writeGroup 9 = .ok (.aload_n 0, 1) := by decide +kernel
theorem dX6_writeGroup_10 : decode cX6_writeGroup 10 = .ok (.iload_n 1, 1) := by decide +kernel
theorem dX6_writeGroup_11 : decode cX6_writeGroup 11 = .ok (.iload_n 2, 1) := by decide +kernel
theorem dX6_writeGroup_12 : decode cX6_writeGroup 12 = .ok (.iconst 1, 1) := by decide +kernel
theorem dX6_writeGroup_13 : decode cX6_writeGroup 13 = .ok (.iadd, 1) := by decide +kernel
theorem dX6_writeGroup_14 : decode cX6_writeGroup 14 = .ok (.invokevirtual 46, 3) := by decide +kernel
theorem dX6_writeGroup_17 : decode cX6_writeGroup 17 = .ok (.aload_n 0, 1) := by decide +kernel
theorem dX6_writeGroup_18 : decode cX6_writeGroup 18 = .ok (.getfield 23, 3) := by decide +kernel
theorem dX6_writeGroup_21 : decode cX6_writeGroup 21 = .ok (.bipush 93, 2) := by decide +kernel
theorem dX6_writeGroup_23 : decode cX6_writeGroup 23 = .ok (.invokevirtual 89, 3) := by decide +kernel
theorem dX6_writeGroup_26 : decode cX6_writeGroup 26 = .ok (.return_, 1) := by decide +kernel
theorem dX6_writeLeaf_0 : decode cX6_writeLeaf 0 = .ok (.aload_n 0, 1) := by decide +kernel
theorem dX6_writeLeaf_1 : decode cX6_writeLeaf 1 = .ok (.iload_n 1, 1) := by decide +kernel
theorem dX6_writeLeaf_2 : decode cX6_writeLeaf 2 = .ok (.invokevirtual 36, 3) := by decide +kernel
theorem dX6_writeLeaf_5 : decode cX6_writeLeaf 5 = .ok (.astore_n 2, 1) := by decide +kernel
theorem dX6_writeLeaf_6 : decode cX6_writeLeaf 6 = .ok (.aload_n 2, 1) := by decide +kernel
theorem dX6_writeLeaf_7 : decode cX6_writeLeaf 7 = .ok (.ifnull 16, 3) := by decide +kernel
theorem dX6_writeLeaf_10 : decode cX6_writeLeaf 10 = .ok (.aload_n 2, 1) := by decide +kernel
theorem dX6_writeLeaf_11 : decode cX6_writeLeaf 11 = .ok (.aload_n 0, 1) := by decide +kernel
theorem dX6_writeLeaf_12 : decode cX6_writeLeaf 12 = .ok (.getfield 27, 3) := by decide +kernel
theorem dX6_writeLeaf_15 : decode cX6_writeLeaf 15 = .ok (.iload_n 1, 1) := by decide +kernel
theorem dX6_writeLeaf_16 : decode cX6_writeLeaf 16 = .ok (.iaload, 1) := by decide +kernel
theorem dX6_writeLeaf_17 : decode cX6_writeLeaf 17 = .ok (.invokevirtual 111, 3) := by decide +kernel
theorem dX6_writeLeaf_20 : decode cX6_writeLeaf 20 = .ok (.ifCond .ne 4, 3) := by decide +kernel
theorem dX6_writeLeaf_23 : decode cX6_writeLeaf 23 = .ok (.return_, 1) := by decide +kernel
theorem dX6_writeLeaf_24 : decode cX6_writeLeaf 24 = .ok (.aload_n 2, 1) := by decide +kernel
theorem dX6_writeLeaf_25 : decode cX6_writeLeaf 25 = .ok (.getfield 114, 3) := by decide +kernel
theorem dX6_writeLeaf_28 : decode cX6_writeLeaf 28 = .ok (.aload_n 0, 1) := by decide +kernel
theorem dX6_writeLeaf_29 : decode cX6_writeLeaf 29 = .ok (.getfield 27, 3) := by decide +kernel
theorem dX6_writeLeaf_32 : decode cX6_writeLeaf 32 = .ok (.iload_n 1, 1) := by decide +kernel
theorem dX6_writeLeaf_33 : decode cX6_writeLeaf 33 = .ok (.iaload, 1) := by decide +kernel
theorem dX6_writeLeaf_34 : decode cX6_writeLeaf 34 = .ok (.laload, 1) := by decide +kernel
theorem dX6_writeLeaf_35 : decode cX6_writeLeaf 35 = .ok (.lstore_n 3, 1) := by decide +kernel
theorem dX6_writeLeaf_36 : decode cX6_writeLeaf 36 = .ok (.aload_n 0, 1) := by decide +kernel
theorem dX6_writeLeaf_37 : decode cX6_writeLeaf 37 = .ok (.getfield 27, 3) := by decide +kernel
theorem dX6_writeLeaf_40 : decode cX6_writeLeaf 40 = .ok (.iload_n 1, 1) := by decide +kernel
theorem dX6_writeLeaf_41 : decode cX6_writeLeaf 41 = .ok (.dup2, 1) := by decide +kernel
theorem dX6_writeLeaf_42 : decode cX6_writeLeaf 42 = .ok (.iaload, 1) := by decide +kernel
theorem dX6_writeLeaf_43 : decode cX6_writeLeaf 43 = .ok (.iconst 1, 1) := by decide +kernel
theorem dX6_writeLeaf_44 : decode cX6_writeLeaf 44 = .ok (.iadd, 1) := by decide +kernel
theorem dX6_writeLeaf_45 : decode cX6_writeLeaf 45 = .ok (.iastore, 1) := by decide +kernel
theorem dX6_writeLeaf_46 : decode cX6_writeLeaf 46 = .ok (.aload_n 2, 1) := by decide +kernel
theorem dX6_writeLeaf_47 : decode cX6_writeLeaf 47 = .ok (.getfield 117, 3) := by decide +kernel
theorem dX6_writeLeaf_50 : decode cX6_writeLeaf 50 = .ok (.ifCond .eq 14, 3) := by decide +kernel
theorem dX6_writeLeaf_53 : decode cX6_writeLeaf 53 = .ok (.aload_n 0, 1) := by decide +kernel
theorem dX6_writeLeaf_54 : decode cX6_writeLeaf 54 = .ok (.getfield 23, 3) := by decide +kernel
theorem dX6_writeLeaf_57 : decode cX6_writeLeaf 57 = .ok (.lload_n 3, 1) := by decide +kernel
theorem dX6_writeLeaf_58 : decode cX6_writeLeaf 58 = .ok (.invokevirtual 121, 3) := by decide +kernel
theorem dX6_writeLeaf_61 : decode cX6_writeLeaf 61 = .ok (.goto 11, 3) := by decide +kernel
theorem dX6_writeLeaf_64 : decode cX6_writeLeaf 64 = .ok (.aload_n 0, 1) := by decide +kernel
theorem dX6_writeLeaf_65 : decode cX6_writeLeaf 65 = .ok (.getfield 23, 3) := by decide +kernel
theorem dX6_writeLeaf_68 : decode cX6_writeLeaf 68 = .ok (.lload_n 3, 1) := by decide +kernel
theorem dX6_writeLeaf_69 : decode cX6_writeLeaf 69 = .ok (.invokevirtual 85, 3) := by decide +kernel
theorem dX6_writeLeaf_72 : decode cX6_writeLeaf 72 = .ok (.return_, 1) := by decide +kernel
theorem dX6_firstWantedLeaf_0 : decode cX6_firstWantedLeaf 0 = .ok (.iconst 0, 1) := by decide +kernel
theorem dX6_firstWantedLeaf_1 : decode cX6_firstWantedLeaf 1 = .ok (.istore_n 2, 1) := by decide +kernel
theorem dX6_firstWantedLeaf_2 : decode cX6_firstWantedLeaf 2 = .ok (.iload_n 2, 1) := by decide +kernel
theorem dX6_firstWantedLeaf_3 : decode cX6_firstWantedLeaf 3 = .ok (.aload_n 0, 1) := by decide +kernel
theorem dX6_firstWantedLeaf_4 : decode cX6_firstWantedLeaf 4 = .ok (.getfield 9, 3) := by decide +kernel
theorem dX6_firstWantedLeaf_7 : decode cX6_firstWantedLeaf 7 = .ok (.getfield 50, 3) := by decide +kernel
theorem dX6_firstWantedLeaf_10 : decode cX6_firstWantedLeaf 10 = .ok (.if_icmp .ge 20, 3) := by decide +kernel
theorem dX6_firstWantedLeaf_13 : decode cX6_firstWantedLeaf 13 = .ok (.aload_n 0, 1) := by decide +kernel
theorem dX6_firstWantedLeaf_14 : decode cX6_firstWantedLeaf 14 = .ok (.iload_n 1, 1) := by decide +kernel
theorem dX6_firstWantedLeaf_15 : decode cX6_firstWantedLeaf 15 = .ok (.iload_n 2, 1) := by decide +kernel
theorem dX6_firstWantedLeaf_16 : decode cX6_firstWantedLeaf 16 = .ok (.invokevirtual 124, 3) := by decide +kernel
theorem dX6_firstWantedLeaf_19 : decode cX6_firstWantedLeaf 19 = .ok (.ifCond .eq 5, 3) := by decide +kernel
theorem dX6_firstWantedLeaf_22 : decode cX6_firstWantedLeaf 22 = .ok (.iload_n 2, 1) := by decide +kernel
theorem dX6_firstWantedLeaf_23 : decode cX6_firstWantedLeaf 23 = .ok (.ireturn, 1) := by decide +kernel
theorem dX6_firstWantedLeaf_24 : decode cX6_firstWantedLeaf 24 = .ok (.iinc 2 1, 3) := by decide +kernel
theorem dX6_firstWantedLeaf_27 : decode cX6_firstWantedLeaf 27 = .ok (.goto (-25), 3) := by decide +kernel
theorem dX6_firstWantedLeaf_30 : decode cX6_firstWantedLeaf 30 = .ok (.iconst (-1), 1) := by decide +kernel
theorem dX6_firstWantedLeaf_31 : decode cX6_firstWantedLeaf 31 = .ok (.ireturn, 1) := by decide +kernel
theorem dX6_passLacking_0 : decode cX6_passLacking 0 = .ok (.iconst 0, 1) := by decide +kernel
theorem dX6_passLacking_1 : decode cX6_passLacking 1 = .ok (.istore_n 2, 1) := by decide +kernel
theorem dX6_passLacking_2 : decode cX6_passLacking 2 = .ok (.iload_n 2, 1) := by decide +kernel
theorem dX6_passLacking_3 : decode cX6_passLacking 3 = .ok (.aload_n 0, 1) := by decide +kernel
theorem dX6_passLacking_4 : decode cX6_passLacking 4 = .ok (.getfield 9, 3) := by decide +kernel
theorem dX6_passLacking_7 : decode cX6_passLacking 7 = .ok (.getfield 50, 3) := by decide +kernel
theorem dX6_passLacking_10 : decode cX6_passLacking 10 = .ok (.if_icmp .ge 34, 3) := by decide +kernel
theorem dX6_passLacking_13 : decode cX6_passLacking 13 = .ok (.iload_n 2, 1) := by decide +kernel
theorem dX6_passLacking_14 : decode cX6_passLacking 14 = .ok (.bipush 12, 2) := by decide +kernel
theorem dX6_passLacking_16 : decode cX6_passLacking 16 = .ok (.if_icmp .ge 28, 3) := by decide +kernel
theorem dX6_passLacking_19 : decode cX6_passLacking 19 = .ok (.aload_n 0, 1) := by decide +kernel
theorem dX6_passLacking_20 : decode cX6_passLacking 20 = .ok (.iload_n 1, 1) := by decide +kernel
theorem dX6_passLacking_21 : decode cX6_passLacking 21 = .ok (.iload_n 2, 1) := by decide +kernel
theorem dX6_passLacking_22 : decode cX6_passLacking 22 = .ok (.invokevirtual 124, 3) := by decide +kernel
theorem dX6_passLacking_25 : decode cX6_passLacking 25 = .ok (.ifCond .eq 13, 3) := by decide +kernel
theorem dX6_passLacking_28 : decode cX6_passLacking 28 = .ok (.aload_n 0, 1) := by decide +kernel
theorem dX6_passLacking_29 : decode cX6_passLacking 29 = .ok (.getfield 27, 3) := by decide +kernel
theorem dX6_passLacking_32 : decode cX6_passLacking 32 = .ok (.iload_n 2, 1) := by decide +kernel
theorem dX6_passLacking_33 : decode cX6_passLacking 33 = .ok (.dup2, 1) := by decide +kernel
theorem dX6_passLacking_34 : decode cX6_passLacking 34 = .ok (.iaload, 1) := by decide +kernel
theorem dX6_passLacking_35 : decode cX6_passLacking 35 = .ok (.iconst 1, 1) := by decide +kernel
theorem dX6_passLacking_36 : decode cX6_passLacking 36 = .ok (.iadd, 1) := by decide +kernel
theorem dX6_passLacking_37 : decode cX6_passLacking 37 = .ok (.iastore, 1) := by decide +kernel
theorem dX6_passLacking_38 : decode cX6_passLacking 38 = .ok (.iinc 2 1, 3) := by decide +kernel
theorem dX6_passLacking_41 : decode cX6_passLacking 41 = .ok (.goto (-39), 3) := by decide +kernel
theorem dX6_passLacking_44 : decode cX6_passLacking 44 = .ok (.return_, 1) := by decide +kernel
theorem dX6_isWantedBelow_0 : decode cX6_isWantedBelow 0 = .ok (.aload_n 0, 1) := by decide +kernel
theorem dX6_isWantedBelow_1 : decode cX6_isWantedBelow 1 = .ok (.iload_n 2, 1) := by decide +kernel
theorem dX6_isWantedBelow_2 : decode cX6_isWantedBelow 2 = .ok (.invokevirtual 36, 3) := by decide +kernel
theorem dX6_isWantedBelow_5 : decode cX6_isWantedBelow 5 = .ok (.ifnull 26, 3) := by decide +kernel
theorem dX6_isWantedBelow_8 : decode cX6_isWantedBelow 8 = .ok (.aload_n 0, 1) := by decide +kernel
theorem dX6_isWantedBelow_9 : decode cX6_isWantedBelow 9 = .ok (.getfield 9, 3) := by decide +kernel
theorem dX6_isWantedBelow_12 : decode cX6_isWantedBelow 12 = .ok (.iload_n 1, 1) := by decide +kernel
theorem dX6_isWantedBelow_13 : decode cX6_isWantedBelow 13 = .ok (.aload_n 0, 1) := by decide +kernel
theorem dX6_isWantedBelow_14 : decode cX6_isWantedBelow 14 = .ok (.getfield 9, 3) := by decide +kernel
theorem dX6_isWantedBelow_17 : decode cX6_isWantedBelow 17 = .ok (.iload_n 2, 1) := by decide +kernel
theorem dX6_isWantedBelow_18 : decode cX6_isWantedBelow 18 = .ok (.invokevirtual 127, 3) := by decide +kernel
theorem dX6_isWantedBelow_21 : decode cX6_isWantedBelow 21 = .ok (.invokevirtual 130, 3) := by decide +kernel
theorem dX6_isWantedBelow_24 : decode cX6_isWantedBelow 24 = .ok (.ifCond .eq 7, 3) := by decide +kernel
theorem dX6_isWantedBelow_27 : decode cX6_isWantedBelow 27 = .ok (.iconst 1, 1) := by decide +kernel
theorem dX6_isWantedBelow_28 : decode cX6_isWantedBelow 28 = .ok (.goto 4, 3) := by decide +kernel
theorem dX6_isWantedBelow_31 : decode cX6_isWantedBelow 31 = .ok (.iconst 0, 1) := by decide +kernel
theorem dX6_isWantedBelow_32 : decode cX6_isWantedBelow 32 = .ok (.ireturn, 1) := by decide +kernel
theorem dX7_init_0 : decode cX7_init 0 = .ok (.aload_n 0, 1) := by decide +kernel
theorem dX7_init_1 : decode cX7_init 1 = .ok (.invokespecial 3, 3) := by decide +kernel
theorem dX7_init_4 : decode cX7_init 4 = .ok (.aload_n 0, 1) := by decide +kernel
theorem dX7_init_5 : decode cX7_init 5 = .ok (.new 9, 3) := by decide +kernel
theorem dX7_init_8 : decode cX7_init 8 = .ok (.dup, 1) := by decide +kernel
theorem dX7_init_9 : decode cX7_init 9 = .ok (.invokespecial 11, 3) := by decide +kernel
theorem dX7_init_12 : decode cX7_init 12 = .ok (.putfield 12, 3) := by decide +kernel
theorem dX7_init_15 : decode cX7_init 15 = .ok (.aload_n 0, 1) := by decide +kernel
theorem dX7_init_16 : decode cX7_init 16 = .ok (.bipush 12, 2) := by decide +kernel
theorem dX7_init_18 : decode cX7_init 18 = .ok (.anewarray 16, 3) := by decide +kernel
theorem dX7_init_21 : decode cX7_init 21 = .ok (.putfield 18, 3) := by decide +kernel
theorem dX7_init_24 : decode cX7_init 24 = .ok (.iconst 0, 1) := by decide +kernel
theorem dX7_init_25 : decode cX7_init 25 = .ok (.istore_n 1, 1) := by decide +kernel
theorem dX7_init_26 : decode cX7_init 26 = .ok (.iload_n 1, 1) := by decide +kernel
theorem dX7_init_27 : decode cX7_init 27 = .ok (.bipush 12, 2) := by decide +kernel
theorem dX7_init_29 : decode cX7_init 29 = .ok (.if_icmp .ge 22, 3) := by decide +kernel
theorem dX7_init_32 : decode cX7_init 32 = .ok (.aload_n 0, 1) := by decide +kernel
theorem dX7_init_33 : decode cX7_init 33 = .ok (.getfield 18, 3) := by decide +kernel
theorem dX7_init_36 : decode cX7_init 36 = .ok (.iload_n 1, 1) := by decide +kernel
theorem dX7_init_37 : decode cX7_init 37 = .ok (.new 16, 3) := by decide +kernel
theorem dX7_init_40 : decode cX7_init 40 = .ok (.dup, 1) := by decide +kernel
theorem dX7_init_41 : decode cX7_init 41 = .ok (.invokespecial 22, 3) := by decide +kernel
theorem dX7_init_44 : decode cX7_init 44 = .ok (.aastore, 1) := by decide +kernel
theorem dX7_init_45 : decode cX7_init 45 = .ok (.iinc 1 1, 3) := by decide +kernel
theorem dX7_init_48 : decode cX7_init 48 = .ok (.goto (-22), 3) := by decide +kernel
theorem dX7_init_51 : decode cX7_init 51 = .ok (.aload_n 0, 1) := by decide +kernel
theorem dX7_init_52 : decode cX7_init 52 = .ok (.new 23, 3) := by decide +kernel
theorem dX7_init_55 : decode cX7_init 55 = .ok (.dup, 1) := by decide +kernel
theorem dX7_init_56 : decode cX7_init 56 = .ok (.invokespecial 25, 3) := by decide +kernel
theorem dX7_init_59 : decode cX7_init 59 = .ok (.putfield 26, 3) := by decide +kernel
theorem dX7_init_62 : decode cX7_init 62 = .ok (.aload_n 0, 1) := by decide +kernel
theorem dX7_init_63 : decode cX7_init 63 = .ok (.new 30, 3) := by decide +kernel
theorem dX7_init_66 : decode cX7_init 66 = .ok (.dup, 1) := by decide +kernel
theorem dX7_init_67 : decode cX7_init 67 = .ok (.invokespecial 32, 3) := by decide +kernel
theorem dX7_init_70 : decode cX7_init 70 = .ok (.putfield 33, 3) := by decide +kernel
theorem dX7_init_73 : decode cX7_init 73 = .ok (.aload_n 0, 1) := by decide +kernel
theorem dX7_init_74 : decode cX7_init 74 = .ok (.new 30, 3) := by decide +kernel
theorem dX7_init_77 : decode cX7_init 77 = .ok (.dup, 1) := by decide +kernel
theorem dX7_init_78 : decode cX7_init 78 = .ok (.invokespecial 32, 3) := by decide +kernel
theorem dX7_init_81 : decode cX7_init 81 = .ok (.putfield 37, 3) := by decide +kernel
theorem dX7_init_84 : decode cX7_init 84 = .ok (.aload_n 0, 1) := by decide +kernel
theorem dX7_init_85 : decode cX7_init 85 = .ok (.iconst 0, 1) := by decide +kernel
theorem dX7_init_86 : decode cX7_init 86 = .ok (.putfield 40, 3) := by decide +kernel
theorem dX7_init_89 : decode cX7_init 89 = .ok (.return_, 1) := by decide +kernel
theorem dX7_feed_0 : decode cX7_feed 0 = .ok (.aload_n 0, 1) := by decide +kernel
theorem dX7_feed_1 : decode cX7_feed 1 = .ok (.getfield 12, 3) := by decide +kernel
theorem dX7_feed_4 : decode cX7_feed 4 = .ok (.getfield 44, 3) := by decide +kernel
theorem dX7_feed_7 : decode cX7_feed 7 = .ok (.sipush 380, 3) := by decide +kernel
theorem dX7_feed_10 : decode cX7_feed 10 = .ok (.if_icmp .le 5, 3) := by decide +kernel
theorem dX7_feed_13 : decode cX7_feed 13 = .ok (.iconst (-1), 1) := by decide +kernel
theorem dX7_feed_14 : decode cX7_feed 14 = .ok (.ireturn, 1) := by decide +kernel
theorem dX7_feed_15 : decode cX7_feed 15 = .ok (.aload_n 0, 1) := by decide +kernel
theorem dX7_feed_16 : decode cX7_feed 16 = .ok (.getfield 12, 3) := by decide +kernel
theorem dX7_feed_19 : decode cX7_feed 19 = .ok (.iload_n 1, 1) := by decide +kernel
theorem dX7_feed_20 : decode cX7_feed 20 = .ok (.invokevirtual 47, 3) := by decide +kernel
theorem dX7_feed_23 : decode cX7_feed 23 = .ok (.aload_n 0, 1) := by decide +kernel
theorem dX7_feed_24 : decode cX7_feed 24 = .ok (.getfield 12, 3) := by decide +kernel
theorem dX7_feed_27 : decode cX7_feed 27 = .ok (.iload_n 2, 1) := by decide +kernel
theorem dX7_feed_28 : decode cX7_feed 28 = .ok (.invokevirtual 47, 3) := by decide +kernel
theorem dX7_feed_31 : decode cX7_feed 31 = .ok (.aload_n 0, 1) := by decide +kernel
theorem dX7_feed_32 : decode cX7_feed 32 = .ok (.getfield 12, 3) := by decide +kernel
theorem dX7_feed_35 : decode cX7_feed 35 = .ok (.iload_n 3, 1) := by decide +kernel
theorem dX7_feed_36 : decode cX7_feed 36 = .ok (.invokevirtual 47, 3) := by decide +kernel
theorem dX7_feed_39 : decode cX7_feed 39 = .ok (.aload_n 0, 1) := by decide +kernel
theorem dX7_feed_40 : decode cX7_feed 40 = .ok (.getfield 12, 3) := by decide +kernel
theorem dX7_feed_43 : decode cX7_feed 43 = .ok (.iload 4, 2) := by decide +kernel
theorem dX7_feed_45 : decode cX7_feed 45 = .ok (.invokevirtual 47, 3) := by decide +kernel
theorem dX7_feed_48 : decode cX7_feed 48 = .ok (.aload_n 0, 1) := by decide +kernel
theorem dX7_feed_49 : decode cX7_feed 49 = .ok (.getfield 12, 3) := by decide +kernel
theorem dX7_feed_52 : decode cX7_feed 52 = .ok (.iload 5, 2) := by decide +kernel
theorem dX7_feed_54 : decode cX7_feed 54 = .ok (.invokevirtual 47, 3) := by decide +kernel
theorem dX7_feed_57 : decode cX7_feed 57 = .ok (.aload_n 0, 1) := by decide +kernel
theorem dX7_feed_58 : decode cX7_feed 58 = .ok (.getfield 12, 3) := by decide +kernel
theorem dX7_feed_61 : decode cX7_feed 61 = .ok (.getfield 44, 3) := by decide +kernel
theorem dX7_feed_64 : decode cX7_feed 64 = .ok (.ireturn, 1) := by decide +kernel
theorem dX7_end_0 : decode cX7_end 0 = .ok (.iload_n 1, 1) := by decide +kernel
theorem dX7_end_1 : decode cX7_end 1 = .ok (.ifCond .lt 14, 3) := by decide +kernel
theorem dX7_end_4 : decode cX7_end 4 = .ok (.iload_n 1, 1) := by decide +kernel
theorem dX7_end_5 : decode cX7_end 5 = .ok (.aload_n 0, 1) := by decide +kernel
theorem dX7_end_6 : decode cX7_end 6 = .ok (.getfield 12, 3) := by decide +kernel
theorem dX7_end_9 : decode cX7_end 9 = .ok (.getfield 44, 3) := by decide +kernel
theorem dX7_end_12 : decode cX7_end 12 = .ok (.if_icmp .le 5, 3) := by decide +kernel
theorem dX7_end_15 : decode cX7_end 15 = .ok (.iconst 0, 1) := by decide +kernel
theorem dX7_end_16 : decode cX7_end 16 = .ok (.ireturn, 1) := by decide +kernel
theorem dX7_end_17 : decode cX7_end 17 = .ok (.aload_n 0, 1) := by decide +kernel
theorem dX7_end_18 : decode cX7_end 18 = .ok (.getfield 12, 3) := by decide +kernel
theorem dX7_end_21 : decode cX7_end 21 = .ok (.iload_n 1, 1) := by decide +kernel
theorem dX7_end_22 : decode cX7_end 22 = .ok (.putfield 44, 3) := by decide +kernel
theorem dX7_end_25 : decode cX7_end 25 = .ok (.iconst 1, 1) := by decide +kernel
theorem dX7_end_26 : decode cX7_end 26 = .ok (.ireturn, 1) := by decide +kernel
theorem dX7_shape_0 : decode cX7_shape 0 = .ok (.new 51, 3) := by decide +kernel
theorem dX7_shape_3 : decode cX7_shape 3 = .ok (.dup, 1) := by decide +kernel
theorem dX7_shape_4 : decode cX7_shape 4 = .ok (.aload_n 0, 1) := by decide +kernel
theorem dX7_shape_5 : decode cX7_shape 5 = .ok (.getfield 12, 3) := by decide +kernel
theorem dX7_shape_8 : decode cX7_shape 8 = .ok (.aload_n 0, 1) := by decide +kernel
theorem dX7_shape_9 : decode cX7_shape 9 = .ok (.getfield 37, 3) := by decide +kernel
theorem dX7_shape_12 : decode cX7_shape 12 = .ok (.invokespecial 53, 3) := by decide +kernel
theorem dX7_shape_15 : decode cX7_shape 15 = .ok (.invokevirtual 56, 3) := by decide +kernel
theorem dX7_shape_18 : decode cX7_shape 18 = .ok (.istore_n 1, 1) := by decide +kernel
theorem dX7_shape_19 : decode cX7_shape 19 = .ok (.aload_n 0, 1) := by decide +kernel
theorem dX7_shape_20 : decode cX7_shape 20 = .ok (.getfield 12, 3) := by decide +kernel
theorem dX7_shape_23 : decode cX7_shape 23 = .ok (.iconst 0, 1) := by decide +kernel
theorem dX7_shape_24 : decode cX7_shape 24 = .ok (.putfield 44, 3) := by decide +kernel
theorem dX7_shape_27 : decode cX7_shape 27 = .ok (.iload_n 1, 1) := by decide +kernel
theorem dX7_shape_28 : decode cX7_shape 28 = .ok (.ifCond .ne 5, 3) := by decide +kernel
theorem dX7_shape_31 : decode cX7_shape 31 = .ok (.iconst (-1), 1) := by decide +kernel
theorem dX7_shape_32 : decode cX7_shape 32 = .ok (.ireturn, 1) := by decide +kernel
theorem dX7_shape_33 : decode cX7_shape 33 = .ok (.aload_n 0, 1) := by decide +kernel
theorem dX7_shape_34 : decode cX7_shape 34 = .ok (.getfield 33, 3) := by decide +kernel
theorem dX7_shape_37 : decode cX7_shape 37 = .ok (.astore_n 2, 1) := by decide +kernel
theorem dX7_shape_38 : decode cX7_shape 38 = .ok (.aload_n 0, 1) := by decide +kernel
theorem dX7_shape_39 : decode cX7_shape 39 = .ok (.aload_n 0, 1) := by decide +kernel
theorem dX7_shape_40 : decode cX7_shape 40 = .ok (.getfield 37, 3) := by decide +kernel
theorem dX7_shape_43 : decode cX7_shape 43 = .ok (.putfield 33, 3) := by decide +kernel
theorem dX7_shape_46 : decode cX7_shape 46 = .ok (.aload_n 0, 1) := by decide +kernel
theorem dX7_shape_47 : decode cX7_shape 47 = .ok (.aload_n 2, 1) := by decide +kernel
theorem dX7_shape_48 : decode cX7_shape 48 = .ok (.putfield 37, 3) := by decide +kernel
theorem dX7_shape_51 : decode cX7_shape 51 = .ok (.aload_n 0, 1) := by decide +kernel
theorem dX7_shape_52 : decode cX7_shape 52 = .ok (.iconst 0, 1) := by decide +kernel
theorem dX7_shape_53 : decode cX7_shape 53 = .ok (.putfield 40, 3) := by decide +kernel
theorem dX7_shape_56 : decode cX7_shape 56 = .ok (.iconst 0, 1) := by decide +kernel
theorem dX7_shape_57 : decode cX7_shape 57 = .ok (.istore_n 3, 1) := by decide +kernel
theorem dX7_shape_58 : decode cX7_shape 58 = .ok (.iload_n 3, 1) := by decide +kernel
theorem dX7_shape_59 : decode cX7_shape 59 = .ok (.aload_n 0, 1) := by decide +kernel
theorem dX7_shape_60 : decode cX7_shape 60 = .ok (.getfield 33, 3) := by decide +kernel
theorem dX7_shape_63 : decode cX7_shape 63 = .ok (.getfield 60, 3) := by decide +kernel
theorem dX7_shape_66 : decode cX7_shape 66 = .ok (.if_icmp .ge 14, 3) := by decide +kernel
theorem dX7_shape_69 : decode cX7_shape 69 = .ok (.aload_n 0, 1) := by decide +kernel
theorem dX7_shape_70 : decode cX7_shape 70 = .ok (.iload_n 3, 1) := by decide +kernel
theorem dX7_shape_71 : decode cX7_shape 71 = .ok (.invokevirtual 63, 3) := by decide +kernel
theorem dX7_shape_74 : decode cX7_shape 74 = .ok (.iinc 3 1, 3) := by decide +kernel
theorem dX7_shape_77 : decode cX7_shape 77 = .ok (.goto (-19), 3) := by decide +kernel
theorem dX7_shape_80 : decode cX7_shape 80 = .ok (.aload_n 0, 1) := by decide +kernel
theorem dX7_shape_81 : decode cX7_shape 81 = .ok (.getfield 33, 3) := by decide +kernel
theorem dX7_shape_84 : decode cX7_shape 84 = .ok (.getfield 60, 3) := by decide +kernel
theorem dX7_shape_87 : decode cX7_shape 87 = .ok (.ireturn, 1) := by decide +kernel
theorem dX7_paper_0 : decode cX7_paper 0 = .ok (.aload_n 0, 1) := by decide +kernel
theorem dX7_paper_1 : decode cX7_paper 1 = .ok (.getfield 33, 3) := by decide +kernel
theorem dX7_paper_4 : decode cX7_paper 4 = .ok (.getfield 60, 3) := by decide +kernel
theorem dX7_paper_7 : decode cX7_paper 7 = .ok (.ifCond .eq 12, 3) := by decide +kernel
theorem dX7_paper_10 : decode cX7_paper 10 = .ok (.aload_n 0, 1) := by decide +kernel
theorem dX7_paper_11 : decode cX7_paper 11 = .ok (.getfield 40, 3) := by decide +kernel
theorem dX7_paper_14 : decode cX7_paper 14 = .ok (.bipush 30, 2) := by decide +kernel
theorem dX7_paper_16 : decode cX7_paper 16 = .ok (.if_icmp .lt 14, 3) := by decide +kernel
theorem dX7_paper_19 : decode cX7_paper 19 = .ok (.aload_n 0, 1) := by decide +kernel
theorem dX7_paper_20 : decode cX7_paper 20 = .ok (.getfield 12, 3) := by decide +kernel
theorem dX7_paper_23 : decode cX7_paper 23 = .ok (.iconst 0, 1) := by decide +kernel
theorem dX7_paper_24 : decode cX7_paper 24 = .ok (.putfield 44, 3) := by decide +kernel
theorem dX7_paper_27 : decode cX7_paper 27 = .ok (.bipush (-2), 2) := by decide +kernel
theorem dX7_paper_29 : decode cX7_paper 29 = .ok (.ireturn, 1) := by decide +kernel
theorem dX7_paper_30 : decode cX7_paper 30 = .ok (.new 66, 3) := by decide +kernel
theorem dX7_paper_33 : decode cX7_paper 33 = .ok (.dup, 1) := by decide +kernel
theorem dX7_paper_34 : decode cX7_paper 34 = .ok (.aload_n 0, 1) := by decide +kernel
theorem dX7_paper_35 : decode cX7_paper 35 = .ok (.getfield 12, 3) := by decide +kernel
theorem dX7_paper_38 : decode cX7_paper 38 = .ok (.aload_n 0, 1) := by decide +kernel
theorem dX7_paper_39 : decode cX7_paper 39 = .ok (.getfield 33, 3) := by decide +kernel
theorem dX7_paper_42 : decode cX7_paper 42 = .ok (.aload_n 0, 1) := by decide +kernel
theorem dX7_paper_43 : decode cX7_paper 43 = .ok (.getfield 18, 3) := by decide +kernel
theorem dX7_paper_46 : decode cX7_paper 46 = .ok (.aload_n 0, 1) := by decide +kernel
theorem dX7_paper_47 : decode cX7_paper 47 = .ok (.getfield 40, 3) := by decide +kernel
theorem dX7_paper_50 : decode cX7_paper 50 = .ok (.invokespecial 68, 3) := by decide +kernel
theorem dX7_paper_53 : decode cX7_paper 53 = .ok (.invokevirtual 71, 3) := by decide +kernel
theorem dX7_paper_56 : decode cX7_paper 56 = .ok (.istore_n 1, 1) := by decide +kernel
theorem dX7_paper_57 : decode cX7_paper 57 = .ok (.aload_n 0, 1) := by decide +kernel
theorem dX7_paper_58 : decode cX7_paper 58 = .ok (.getfield 12, 3) := by decide +kernel
theorem dX7_paper_61 : decode cX7_paper 61 = .ok (.iconst 0, 1) := by decide +kernel
theorem dX7_paper_62 : decode cX7_paper 62 = .ok (.putfield 44, 3) := by decide +kernel
theorem dX7_paper_65 : decode cX7_paper 65 = .ok (.iload_n 1, 1) := by decide +kernel
theorem dX7_paper_66 : decode cX7_paper 66 = .ok (.ifCond .ne 13, 3) := by decide +kernel
theorem dX7_paper_69 : decode cX7_paper 69 = .ok (.aload_n 0, 1) := by decide +kernel
theorem dX7_paper_70 : decode cX7_paper 70 = .ok (.aload_n 0, 1) := by decide +kernel
theorem dX7_paper_71 : decode cX7_paper 71 = .ok (.getfield 40, 3) := by decide +kernel
theorem dX7_paper_74 : decode cX7_paper 74 = .ok (.invokevirtual 72, 3) := by decide +kernel
theorem dX7_paper_77 : decode cX7_paper 77 = .ok (.iconst (-1), 1) := by decide +kernel
theorem dX7_paper_78 : decode cX7_paper 78 = .ok (.ireturn, 1) := by decide +kernel
theorem dX7_paper_79 : decode cX7_paper 79 = .ok (.aload_n 0, 1) := by decide +kernel
theorem dX7_paper_80 : decode cX7_paper 80 = .ok (.dup, 1) := by decide +kernel
theorem dX7_paper_81 : decode cX7_paper 81 = .ok (.getfield 40, 3) := by decide +kernel
theorem dX7_paper_84 : decode cX7_paper 84 = .ok (.iconst 1, 1) := by decide +kernel
theorem dX7_paper_85 : decode cX7_paper 85 = .ok (.iadd, 1) := by decide +kernel
theorem dX7_paper_86 : decode cX7_paper 86 = .ok (.putfield 40, 3) := by decide +kernel
theorem dX7_paper_89 : decode cX7_paper 89 = .ok (.aload_n 0, 1) := by decide +kernel
theorem dX7_paper_90 : decode cX7_paper 90 = .ok (.getfield 40, 3) := by decide +kernel
theorem dX7_paper_93 : decode cX7_paper 93 = .ok (.ireturn, 1) := by decide +kernel
theorem dX7_fault_0 : decode cX7_fault 0 = .ok (.iload_n 1, 1) := by decide +kernel
theorem dX7_fault_1 : decode cX7_fault 1 = .ok (.ifCond .ne 11, 3) := by decide +kernel
theorem dX7_fault_4 : decode cX7_fault 4 = .ok (.aload_n 0, 1) := by decide +kernel
theorem dX7_fault_5 : decode cX7_fault 5 = .ok (.getfield 12, 3) := by decide +kernel
theorem dX7_fault_8 : decode cX7_fault 8 = .ok (.getfield 75, 3) := by decide +kernel
theorem dX7_fault_11 : decode cX7_fault 11 = .ok (.ireturn, 1) := by decide +kernel
theorem dX7_fault_12 : decode cX7_fault 12 = .ok (.iload_n 1, 1) := by decide +kernel
theorem dX7_fault_13 : decode cX7_fault 13 = .ok (.iconst 1, 1) := by decide +kernel
theorem dX7_fault_14 : decode cX7_fault 14 = .ok (.if_icmp .ne 13, 3) := by decide +kernel
theorem dX7_fault_17 : decode cX7_fault 17 = .ok (.aload_n 0, 1) := by decide +kernel
theorem dX7_fault_18 : decode cX7_fault 18 = .ok (.getfield 12, 3) := by decide +kernel
theorem dX7_fault_21 : decode cX7_fault 21 = .ok (.getfield 78, 3) := by decide +kernel
theorem dX7_fault_24 : decode cX7_fault 24 = .ok (.goto 4, 3) := by decide +kernel
theorem dX7_fault_27 : decode cX7_fault 27 = .ok (.iconst (-1), 1) := by decide +kernel
theorem dX7_fault_28 : decode cX7_fault 28 = .ok (.ireturn, 1) := by decide +kernel
theorem dX7_drop_0 : decode cX7_drop 0 = .ok (.aload_n 0, 1) := by decide +kernel
theorem dX7_drop_1 : decode cX7_drop 1 = .ok (.iload_n 1, 1) := by decide +kernel
theorem dX7_drop_2 : decode cX7_drop 2 = .ok (.invokevirtual 81, 3) := by decide +kernel
theorem dX7_drop_5 : decode cX7_drop 5 = .ok (.ifCond .ne 5, 3) := by decide +kernel
theorem dX7_drop_8 : decode cX7_drop 8 = .ok (.iconst (-1), 1) := by decide +kernel
theorem dX7_drop_9 : decode cX7_drop 9 = .ok (.ireturn, 1) := by decide +kernel
theorem dX7_drop_10 : decode cX7_drop 10 = .ok (.aload_n 0, 1) := by decide +kernel
theorem dX7_drop_11 : decode cX7_drop 11 = .ok (.iload_n 1, 1) := by decide +kernel
theorem dX7_drop_12 : decode cX7_drop 12 = .ok (.invokevirtual 72, 3) := by decide +kernel
theorem dX7_drop_15 : decode cX7_drop 15 = .ok (.aload_n 0, 1) := by decide +kernel
theorem dX7_drop_16 : decode cX7_drop 16 = .ok (.dup, 1) := by decide +kernel
theorem dX7_drop_17 : decode cX7_drop 17 = .ok (.getfield 40, 3) := by decide +kernel
theorem dX7_drop_20 : decode cX7_drop 20 = .ok (.iconst 1, 1) := by decide +kernel
theorem dX7_drop_21 : decode cX7_drop 21 = .ok (.isub, 1) := by decide +kernel
theorem dX7_drop_22 : decode cX7_drop 22 = .ok (.putfield 40, 3) := by decide +kernel
theorem dX7_drop_25 : decode cX7_drop 25 = .ok (.aload_n 0, 1) := by decide +kernel
theorem dX7_drop_26 : decode cX7_drop 26 = .ok (.getfield 40, 3) := by decide +kernel
theorem dX7_drop_29 : decode cX7_drop 29 = .ok (.ireturn, 1) := by decide +kernel
theorem dX7_leaf_0 : decode cX7_leaf 0 = .ok (.aload_n 0, 1) := by decide +kernel
theorem dX7_leaf_1 : decode cX7_leaf 1 = .ok (.iload_n 1, 1) := by decide +kernel
theorem dX7_leaf_2 : decode cX7_leaf 2 = .ok (.invokevirtual 85, 3) := by decide +kernel
theorem dX7_leaf_5 : decode cX7_leaf 5 = .ok (.astore_n 3, 1) := by decide +kernel
theorem dX7_leaf_6 : decode cX7_leaf 6 = .ok (.aload_n 3, 1) := by decide +kernel
theorem dX7_leaf_7 : decode cX7_leaf 7 = .ok (.ifnonnull 5, 3) := by decide +kernel
theorem dX7_leaf_10 : decode cX7_leaf 10 = .ok (.iconst (-1), 1) := by decide +kernel
theorem dX7_leaf_11 : decode cX7_leaf 11 = .ok (.ireturn, 1) := by decide +kernel
theorem dX7_leaf_12 : decode cX7_leaf 12 = .ok (.iload_n 2, 1) := by decide +kernel
theorem dX7_leaf_13 : decode cX7_leaf 13 = .ok (.tableswitch 95 0 7 #[47, 52, 57, 70, 75, 80, 85, 90], 47) := by decide +kernel
theorem dX7_leaf_60 : decode cX7_leaf 60 = .ok (.aload_n 3, 1) := by decide +kernel
theorem dX7_leaf_61 : decode cX7_leaf 61 = .ok (.getfield 89, 3) := by decide +kernel
theorem dX7_leaf_64 : decode cX7_leaf 64 = .ok (.ireturn, 1) := by decide +kernel
theorem dX7_leaf_65 : decode cX7_leaf 65 = .ok (.aload_n 3, 1) := by decide +kernel
theorem dX7_leaf_66 : decode cX7_leaf 66 = .ok (.getfield 92, 3) := by decide +kernel
theorem dX7_leaf_69 : decode cX7_leaf 69 = .ok (.ireturn, 1) := by decide +kernel
theorem dX7_leaf_70 : decode cX7_leaf 70 = .ok (.aload_n 3, 1) := by decide +kernel
theorem dX7_leaf_71 : decode cX7_leaf 71 = .ok (.getfield 95, 3) := by decide +kernel
theorem dX7_leaf_74 : decode cX7_leaf 74 = .ok (.ifCond .eq 7, 3) := by decide +kernel
theorem dX7_leaf_77 : decode cX7_leaf 77 = .ok (.iconst 1, 1) := by decide +kernel
theorem dX7_leaf_78 : decode cX7_leaf 78 = .ok (.goto 4, 3) := by decide +kernel
theorem dX7_leaf_81 : decode cX7_leaf 81 = .ok (.iconst 0, 1) := by decide +kernel
theorem dX7_leaf_82 : decode cX7_leaf 82 = .ok (.ireturn, 1) := by decide +kernel
theorem dX7_leaf_83 : decode cX7_leaf 83 = .ok (.aload_n 3, 1) := by decide +kernel
theorem dX7_leaf_84 : decode cX7_leaf 84 = .ok (.getfield 99, 3) := by decide +kernel
theorem dX7_leaf_87 : decode cX7_leaf 87 = .ok (.ireturn, 1) := by decide +kernel
theorem dX7_leaf_88 : decode cX7_leaf 88 = .ok (.aload_n 3, 1) := by decide +kernel
theorem dX7_leaf_89 : decode cX7_leaf 89 = .ok (.getfield 102, 3) := by decide +kernel
theorem dX7_leaf_92 : decode cX7_leaf 92 = .ok (.ireturn, 1) := by decide +kernel
theorem dX7_leaf_93 : decode cX7_leaf 93 = .ok (.aload_n 3, 1) := by decide +kernel
theorem dX7_leaf_94 : decode cX7_leaf 94 = .ok (.invokevirtual 105, 3) := by decide +kernel
theorem dX7_leaf_97 : decode cX7_leaf 97 = .ok (.ireturn, 1) := by decide +kernel
theorem dX7_leaf_98 : decode cX7_leaf 98 = .ok (.aload_n 3, 1) := by decide +kernel
theorem dX7_leaf_99 : decode cX7_leaf 99 = .ok (.invokevirtual 109, 3) := by decide +kernel
theorem dX7_leaf_102 : decode cX7_leaf 102 = .ok (.ireturn, 1) := by decide +kernel
theorem dX7_leaf_103 : decode cX7_leaf 103 = .ok (.aload_n 3, 1) := by decide +kernel
theorem dX7_leaf_104 : decode cX7_leaf 104 = .ok (.invokevirtual 112, 3) := by decide +kernel
theorem dX7_leaf_107 : decode cX7_leaf 107 = .ok (.ireturn, 1) := by decide +kernel
theorem dX7_leaf_108 : decode cX7_leaf 108 = .ok (.iconst (-1), 1) := by decide +kernel
theorem dX7_leaf_109 : decode cX7_leaf 109 = .ok (.ireturn, 1) := by decide +kernel
theorem dX7_row_0 : decode cX7_row 0 = .ok (.aload_n 0, 1) := by decide +kernel
theorem dX7_row_1 : decode cX7_row 1 = .ok (.iload_n 1, 1) := by decide +kernel
theorem dX7_row_2 : decode cX7_row 2 = .ok (.invokevirtual 85, 3) := by decide +kernel
theorem dX7_row_5 : decode cX7_row 5 = .ok (.astore 4, 2) := by decide +kernel
theorem dX7_row_7 : decode cX7_row 7 = .ok (.aload 4, 2) := by decide +kernel
theorem dX7_row_9 : decode cX7_row 9 = .ok (.ifnull 12, 3) := by decide +kernel
theorem dX7_row_12 : decode cX7_row 12 = .ok (.aload 4, 2) := by decide +kernel
theorem dX7_row_14 : decode cX7_row 14 = .ok (.iload_n 2, 1) := by decide +kernel
theorem dX7_row_15 : decode cX7_row 15 = .ok (.invokevirtual 115, 3) := by decide +kernel
theorem dX7_row_18 : decode cX7_row 18 = .ok (.ifCond .ne 5, 3) := by decide +kernel
theorem dX7_row_21 : decode cX7_row 21 = .ok (.iconst (-1), 1) := by decide +kernel
theorem dX7_row_22 : decode cX7_row 22 = .ok (.ireturn, 1) := by decide +kernel
theorem dX7_row_23 : decode cX7_row 23 = .ok (.iload_n 3, 1) := by decide +kernel
theorem dX7_row_24 : decode cX7_row 24 = .ok (.tableswitch 71 0 3 #[32, 40, 48, 63], 32) := by decide +kernel
theorem dX7_row_56 : decode cX7_row 56 = .ok (.aload 4, 2) := by decide +kernel
theorem dX7_row_58 : decode cX7_row 58 = .ok (.getfield 118, 3) := by decide +kernel
theorem dX7_row_61 : decode cX7_row 61 = .ok (.iload_n 2, 1) := by decide +kernel
theorem dX7_row_62 : decode cX7_row 62 = .ok (.iaload, 1) := by decide +kernel
theorem dX7_row_63 : decode cX7_row 63 = .ok (.ireturn, 1) := by decide +kernel
theorem dX7_row_64 : decode cX7_row 64 = .ok (.aload 4, 2) := by decide +kernel
theorem dX7_row_66 : decode cX7_row 66 = .ok (.getfield 122, 3) := by decide +kernel
theorem dX7_row_69 : decode cX7_row 69 = .ok (.iload_n 2, 1) := by decide +kernel
theorem dX7_row_70 : decode cX7_row 70 = .ok (.iaload, 1) := by decide +kernel
theorem dX7_row_71 : decode cX7_row 71 = .ok (.ireturn, 1) := by decide +kernel
theorem dX7_row_72 : decode cX7_row 72 = .ok (.aload 4, 2) := by decide +kernel
theorem dX7_row_74 : decode cX7_row 74 = .ok (.iload_n 2, 1) := by decide +kernel
theorem dX7_row_75 : decode cX7_row 75 = .ok (.invokevirtual 125, 3) := by decide +kernel
theorem dX7_row_78 : decode cX7_row 78 = .ok (.ifCond .eq 7, 3) := by decide +kernel
theorem dX7_row_81 : decode cX7_row 81 = .ok (.iconst 1, 1) := by decide +kernel
theorem dX7_row_82 : decode cX7_row 82 = .ok (.goto 4, 3) := by decide +kernel
theorem dX7_row_85 : decode cX7_row 85 = .ok (.iconst 0, 1) := by decide +kernel
theorem dX7_row_86 : decode cX7_row 86 = .ok (.ireturn, 1) := by decide +kernel
theorem dX7_row_87 : decode cX7_row 87 = .ok (.aload 4, 2) := by decide +kernel
theorem dX7_row_89 : decode cX7_row 89 = .ok (.getfield 128, 3) := by decide +kernel
theorem dX7_row_92 : decode cX7_row 92 = .ok (.iload_n 2, 1) := by decide +kernel
theorem dX7_row_93 : decode cX7_row 93 = .ok (.iaload, 1) := by decide +kernel
theorem dX7_row_94 : decode cX7_row 94 = .ok (.ireturn, 1) := by decide +kernel
theorem dX7_row_95 : decode cX7_row 95 = .ok (.iconst (-1), 1) := by decide +kernel
theorem dX7_row_96 : decode cX7_row 96 = .ok (.ireturn, 1) := by decide +kernel
theorem dX7_value_0 : decode cX7_value 0 = .ok (.aload_n 0, 1) := by decide +kernel
theorem dX7_value_1 : decode cX7_value 1 = .ok (.iload_n 1, 1) := by decide +kernel
theorem dX7_value_2 : decode cX7_value 2 = .ok (.invokevirtual 85, 3) := by decide +kernel
theorem dX7_value_5 : decode cX7_value 5 = .ok (.astore_n 3, 1) := by decide +kernel
theorem dX7_value_6 : decode cX7_value 6 = .ok (.aload_n 3, 1) := by decide +kernel
theorem dX7_value_7 : decode cX7_value 7 = .ok (.ifnull 11, 3) := by decide +kernel
theorem dX7_value_10 : decode cX7_value 10 = .ok (.aload_n 3, 1) := by decide +kernel
theorem dX7_value_11 : decode cX7_value 11 = .ok (.iload_n 2, 1) := by decide +kernel
theorem dX7_value_12 : decode cX7_value 12 = .ok (.invokevirtual 125, 3) := by decide +kernel
theorem dX7_value_15 : decode cX7_value 15 = .ok (.ifCond .ne 5, 3) := by decide +kernel
theorem dX7_value_18 : decode cX7_value 18 = .ok (.lconst 0, 1) := by decide +kernel
theorem dX7_value_19 : decode cX7_value 19 = .ok (.lreturn, 1) := by decide +kernel
theorem dX7_value_20 : decode cX7_value 20 = .ok (.aload_n 3, 1) := by decide +kernel
theorem dX7_value_21 : decode cX7_value 21 = .ok (.getfield 131, 3) := by decide +kernel
theorem dX7_value_24 : decode cX7_value 24 = .ok (.iload_n 2, 1) := by decide +kernel
theorem dX7_value_25 : decode cX7_value 25 = .ok (.laload, 1) := by decide +kernel
theorem dX7_value_26 : decode cX7_value 26 = .ok (.lreturn, 1) := by decide +kernel
theorem dX7_text_0 : decode cX7_text 0 = .ok (.aload_n 0, 1) := by decide +kernel
theorem dX7_text_1 : decode cX7_text 1 = .ok (.iload_n 1, 1) := by decide +kernel
theorem dX7_text_2 : decode cX7_text 2 = .ok (.invokevirtual 81, 3) := by decide +kernel
theorem dX7_text_5 : decode cX7_text 5 = .ok (.ifCond .ne 5, 3) := by decide +kernel
theorem dX7_text_8 : decode cX7_text 8 = .ok (.iconst (-1), 1) := by decide +kernel
theorem dX7_text_9 : decode cX7_text 9 = .ok (.ireturn, 1) := by decide +kernel
theorem dX7_text_10 : decode cX7_text 10 = .ok (.new 135, 3) := by decide +kernel
theorem dX7_text_13 : decode cX7_text 13 = .ok (.dup, 1) := by decide +kernel
theorem dX7_text_14 : decode cX7_text 14 = .ok (.aload_n 0, 1) := by decide +kernel
theorem dX7_text_15 : decode cX7_text 15 = .ok (.getfield 33, 3) := by decide +kernel
theorem dX7_text_18 : decode cX7_text 18 = .ok (.aload_n 0, 1) := by decide +kernel
theorem dX7_text_19 : decode cX7_text 19 = .ok (.getfield 18, 3) := by decide +kernel
theorem dX7_text_22 : decode cX7_text 22 = .ok (.iload_n 2, 1) := by decide +kernel
theorem dX7_text_23 : decode cX7_text 23 = .ok (.aload_n 0, 1) := by decide +kernel
theorem dX7_text_24 : decode cX7_text 24 = .ok (.getfield 26, 3) := by decide +kernel
theorem dX7_text_27 : decode cX7_text 27 = .ok (.invokespecial 137, 3) := by decide +kernel
theorem dX7_text_30 : decode cX7_text 30 = .ok (.iload_n 1, 1) := by decide +kernel
theorem dX7_text_31 : decode cX7_text 31 = .ok (.invokevirtual 140, 3) := by decide +kernel
theorem dX7_text_34 : decode cX7_text 34 = .ok (.aload_n 0, 1) := by decide +kernel
theorem dX7_text_35 : decode cX7_text 35 = .ok (.getfield 26, 3) := by decide +kernel
theorem dX7_text_38 : decode cX7_text 38 = .ok (.getfield 143, 3) := by decide +kernel
theorem dX7_text_41 : decode cX7_text 41 = .ok (.ireturn, 1) := by decide +kernel
theorem dX7_at_0 : decode cX7_at 0 = .ok (.aload_n 0, 1) := by decide +kernel
theorem dX7_at_1 : decode cX7_at 1 = .ok (.getfield 26, 3) := by decide +kernel
theorem dX7_at_4 : decode cX7_at 4 = .ok (.iload_n 1, 1) := by decide +kernel
theorem dX7_at_5 : decode cX7_at 5 = .ok (.invokevirtual 144, 3) := by decide +kernel
theorem dX7_at_8 : decode cX7_at 8 = .ok (.ireturn, 1) := by decide +kernel
theorem dX7_among_0 : decode cX7_among 0 = .ok (.aload_n 0, 1) := by decide +kernel
theorem dX7_among_1 : decode cX7_among 1 = .ok (.iload_n 1, 1) := by decide +kernel
theorem dX7_among_2 : decode cX7_among 2 = .ok (.invokevirtual 85, 3) := by decide +kernel
theorem dX7_among_5 : decode cX7_among 5 = .ok (.astore 6, 2) := by decide +kernel
theorem dX7_among_7 : decode cX7_among 7 = .ok (.aload 6, 2) := by decide +kernel
theorem dX7_among_9 : decode cX7_among 9 = .ok (.ifnonnull 5, 3) := by decide +kernel
theorem dX7_among_12 : decode cX7_among 12 = .ok (.iconst (-1), 1) := by decide +kernel
theorem dX7_among_13 : decode cX7_among 13 = .ok (.ireturn, 1) := by decide +kernel
theorem dX7_among_14 : decode cX7_among 14 = .ok (.iconst 0, 1) := by decide +kernel
theorem dX7_among_15 : decode cX7_among 15 = .ok (.istore 7, 2) := by decide +kernel
theorem dX7_among_17 : decode cX7_among 17 = .ok (.iconst 0, 1) := by decide +kernel
theorem dX7_among_18 : decode cX7_among 18 = .ok (.istore 8, 2) := by decide +kernel
theorem dX7_among_20 : decode cX7_among 20 = .ok (.iload 8, 2) := by decide +kernel
theorem dX7_among_22 : decode cX7_among 22 = .ok (.aload 6, 2) := by decide +kernel
theorem dX7_among_24 : decode cX7_among 24 = .ok (.getfield 102, 3) := by decide +kernel
theorem dX7_among_27 : decode cX7_among 27 = .ok (.if_icmp .ge 25, 3) := by decide +kernel
theorem dX7_among_30 : decode cX7_among 30 = .ok (.aload 6, 2) := by decide +kernel
theorem dX7_among_32 : decode cX7_among 32 = .ok (.iload 8, 2) := by decide +kernel
theorem dX7_among_34 : decode cX7_among 34 = .ok (.lload_n 2, 1) := by decide +kernel
theorem dX7_among_35 : decode cX7_among 35 = .ok (.lload 4, 2) := by decide +kernel
theorem dX7_among_37 : decode cX7_among 37 = .ok (.invokevirtual 148, 3) := by decide +kernel
theorem dX7_among_40 : decode cX7_among 40 = .ok (.ifCond .eq 6, 3) := by decide +kernel
theorem dX7_among_43 : decode cX7_among 43 = .ok (.iinc 7 1, 3) := by decide +kernel
theorem dX7_among_46 : decode cX7_among 46 = .ok (.iinc 8 1, 3) := by decide +kernel
theorem dX7_among_49 : decode cX7_among 49 = .ok (.goto (-29), 3) := by decide +kernel
theorem dX7_among_52 : decode cX7_among 52 = .ok (.iload 7, 2) := by decide +kernel
theorem dX7_among_54 : decode cX7_among 54 = .ok (.ireturn, 1) := by decide +kernel
theorem dX7_papers_0 : decode cX7_papers 0 = .ok (.aload_n 0, 1) := by decide +kernel
theorem dX7_papers_1 : decode cX7_papers 1 = .ok (.iload_n 1, 1) := by decide +kernel
theorem dX7_papers_2 : decode cX7_papers 2 = .ok (.invokevirtual 85, 3) := by decide +kernel
theorem dX7_papers_5 : decode cX7_papers 5 = .ok (.astore 6, 2) := by decide +kernel
theorem dX7_papers_7 : decode cX7_papers 7 = .ok (.aload 6, 2) := by decide +kernel
theorem dX7_papers_9 : decode cX7_papers 9 = .ok (.ifnonnull 5, 3) := by decide +kernel
theorem dX7_papers_12 : decode cX7_papers 12 = .ok (.iconst (-1), 1) := by decide +kernel
theorem dX7_papers_13 : decode cX7_papers 13 = .ok (.ireturn, 1) := by decide +kernel
theorem dX7_papers_14 : decode cX7_papers 14 = .ok (.iconst 0, 1) := by decide +kernel
theorem dX7_papers_15 : decode cX7_papers 15 = .ok (.istore 7, 2) := by decide +kernel
theorem dX7_papers_17 : decode cX7_papers 17 = .ok (.iconst (-1), 1) := by decide +kernel
theorem dX7_papers_18 : decode cX7_papers 18 = .ok (.istore 8, 2) := by decide +kernel
theorem dX7_papers_20 : decode cX7_papers 20 = .ok (.iconst 0, 1) := by decide +kernel
theorem dX7_papers_21 : decode cX7_papers 21 = .ok (.istore 9, 2) := by decide +kernel
theorem dX7_papers_23 : decode cX7_papers 23 = .ok (.iload 9, 2) := by decide +kernel
theorem dX7_papers_25 : decode cX7_papers 25 = .ok (.aload 6, 2) := by decide +kernel
theorem dX7_papers_27 : decode cX7_papers 27 = .ok (.getfield 102, 3) := by decide +kernel
theorem dX7_papers_30 : decode cX7_papers 30 = .ok (.if_icmp .ge 48, 3) := by decide +kernel
theorem dX7_papers_33 : decode cX7_papers 33 = .ok (.aload 6, 2) := by decide +kernel
theorem dX7_papers_35 : decode cX7_papers 35 = .ok (.getfield 128, 3) := by decide +kernel
theorem dX7_papers_38 : decode cX7_papers 38 = .ok (.iload 9, 2) := by decide +kernel
theorem dX7_papers_40 : decode cX7_papers 40 = .ok (.iaload, 1) := by decide +kernel
theorem dX7_papers_41 : decode cX7_papers 41 = .ok (.iload 8, 2) := by decide +kernel
theorem dX7_papers_43 : decode cX7_papers 43 = .ok (.if_icmp .eq 29, 3) := by decide +kernel
theorem dX7_papers_46 : decode cX7_papers 46 = .ok (.aload 6, 2) := by decide +kernel
theorem dX7_papers_48 : decode cX7_papers 48 = .ok (.iload 9, 2) := by decide +kernel
theorem dX7_papers_50 : decode cX7_papers 50 = .ok (.lload_n 2, 1) := by decide +kernel
theorem dX7_papers_51 : decode cX7_papers 51 = .ok (.lload 4, 2) := by decide +kernel
theorem dX7_papers_53 : decode cX7_papers 53 = .ok (.invokevirtual 148, 3) := by decide +kernel
theorem dX7_papers_56 : decode cX7_papers 56 = .ok (.ifCond .eq 16, 3) := by decide +kernel
theorem dX7_papers_59 : decode cX7_papers 59 = .ok (.iinc 7 1, 3) := by decide +kernel
theorem dX7_papers_62 : decode cX7_papers 62 = .ok (.aload 6, 2) := by decide +kernel
theorem dX7_papers_64 : decode cX7_papers 64 = .ok (.getfield 128, 3) := by decide +kernel
theorem dX7_papers_67 : decode cX7_papers 67 = .ok (.iload 9, 2) := by decide +kernel
theorem dX7_papers_69 : decode cX7_papers 69 = .ok (.iaload, 1) := by decide +kernel
theorem dX7_papers_70 : decode cX7_papers 70 = .ok (.istore 8, 2) := by decide +kernel
theorem dX7_papers_72 : decode cX7_papers 72 = .ok (.iinc 9 1, 3) := by decide +kernel
theorem dX7_papers_75 : decode cX7_papers 75 = .ok (.goto (-52), 3) := by decide +kernel
theorem dX7_papers_78 : decode cX7_papers 78 = .ok (.iload 7, 2) := by decide +kernel
theorem dX7_papers_80 : decode cX7_papers 80 = .ok (.ireturn, 1) := by decide +kernel
theorem dX7_sum_0 : decode cX7_sum 0 = .ok (.aload_n 0, 1) := by decide +kernel
theorem dX7_sum_1 : decode cX7_sum 1 = .ok (.iload_n 1, 1) := by decide +kernel
theorem dX7_sum_2 : decode cX7_sum 2 = .ok (.invokevirtual 85, 3) := by decide +kernel
theorem dX7_sum_5 : decode cX7_sum 5 = .ok (.astore_n 3, 1) := by decide +kernel
theorem dX7_sum_6 : decode cX7_sum 6 = .ok (.aload_n 3, 1) := by decide +kernel
theorem dX7_sum_7 : decode cX7_sum 7 = .ok (.ifnull 10, 3) := by decide +kernel
theorem dX7_sum_10 : decode cX7_sum 10 = .ok (.aload_n 3, 1) := by decide +kernel
theorem dX7_sum_11 : decode cX7_sum 11 = .ok (.getfield 95, 3) := by decide +kernel
theorem dX7_sum_14 : decode cX7_sum 14 = .ok (.ifCond .ne 5, 3) := by decide +kernel
theorem dX7_sum_17 : decode cX7_sum 17 = .ok (.lconst 0, 1) := by decide +kernel
theorem dX7_sum_18 : decode cX7_sum 18 = .ok (.lreturn, 1) := by decide +kernel
theorem dX7_sum_19 : decode cX7_sum 19 = .ok (.lconst 0, 1) := by decide +kernel
theorem dX7_sum_20 : decode cX7_sum 20 = .ok (.lstore 4, 2) := by decide +kernel
theorem dX7_sum_22 : decode cX7_sum 22 = .ok (.iconst 0, 1) := by decide +kernel
theorem dX7_sum_23 : decode cX7_sum 23 = .ok (.istore 6, 2) := by decide +kernel
theorem dX7_sum_25 : decode cX7_sum 25 = .ok (.iload 6, 2) := by decide +kernel
theorem dX7_sum_27 : decode cX7_sum 27 = .ok (.aload_n 3, 1) := by decide +kernel
theorem dX7_sum_28 : decode cX7_sum 28 = .ok (.getfield 102, 3) := by decide +kernel
theorem dX7_sum_31 : decode cX7_sum 31 = .ok (.if_icmp .ge 46, 3) := by decide +kernel
theorem dX7_sum_34 : decode cX7_sum 34 = .ok (.aload_n 3, 1) := by decide +kernel
theorem dX7_sum_35 : decode cX7_sum 35 = .ok (.iload 6, 2) := by decide +kernel
theorem dX7_sum_37 : decode cX7_sum 37 = .ok (.invokevirtual 125, 3) := by decide +kernel
theorem dX7_sum_40 : decode cX7_sum 40 = .ok (.ifCond .eq 31, 3) := by decide +kernel
theorem dX7_sum_43 : decode cX7_sum 43 = .ok (.iload_n 2, 1) := by decide +kernel
theorem dX7_sum_44 : decode cX7_sum 44 = .ok (.iconst (-1), 1) := by decide +kernel
theorem dX7_sum_45 : decode cX7_sum 45 = .ok (.if_icmp .eq 14, 3) := by decide +kernel
theorem dX7_sum_48 : decode cX7_sum 48 = .ok (.aload_n 3, 1) := by decide +kernel
theorem dX7_sum_49 : decode cX7_sum 49 = .ok (.getfield 128, 3) := by decide +kernel
theorem dX7_sum_52 : decode cX7_sum 52 = .ok (.iload 6, 2) := by decide +kernel
theorem dX7_sum_54 : decode cX7_sum 54 = .ok (.iaload, 1) := by decide +kernel
theorem dX7_sum_55 : decode cX7_sum 55 = .ok (.iload_n 2, 1) := by decide +kernel
theorem dX7_sum_56 : decode cX7_sum 56 = .ok (.if_icmp .ne 15, 3) := by decide +kernel
theorem dX7_sum_59 : decode cX7_sum 59 = .ok (.lload 4, 2) := by decide +kernel
theorem dX7_sum_61 : decode cX7_sum 61 = .ok (.aload_n 3, 1) := by decide +kernel
theorem dX7_sum_62 : decode cX7_sum 62 = .ok (.getfield 131, 3) := by decide +kernel
theorem dX7_sum_65 : decode cX7_sum 65 = .ok (.iload 6, 2) := by decide +kernel
theorem dX7_sum_67 : decode cX7_sum 67 = .ok (.laload, 1) := by decide +kernel
theorem dX7_sum_68 : decode cX7_sum 68 = .ok (.ladd, 1) := by decide +kernel
theorem dX7_sum_69 : decode cX7_sum 69 = .ok (.lstore 4, 2) := by decide +kernel
theorem dX7_sum_71 : decode cX7_sum 71 = .ok (.iinc 6 1, 3) := by decide +kernel
theorem dX7_sum_74 : decode cX7_sum 74 = .ok (.goto (-49), 3) := by decide +kernel
theorem dX7_sum_77 : decode cX7_sum 77 = .ok (.lload 4, 2) := by decide +kernel
theorem dX7_sum_79 : decode cX7_sum 79 = .ok (.lreturn, 1) := by decide +kernel
theorem dX7_both_0 : decode cX7_both 0 = .ok (.aload_n 0, 1) := by decide +kernel
theorem dX7_both_1 : decode cX7_both 1 = .ok (.iload_n 1, 1) := by decide +kernel
theorem dX7_both_2 : decode cX7_both 2 = .ok (.invokevirtual 85, 3) := by decide +kernel
theorem dX7_both_5 : decode cX7_both 5 = .ok (.astore 7, 2) := by decide +kernel
theorem dX7_both_7 : decode cX7_both 7 = .ok (.aload_n 0, 1) := by decide +kernel
theorem dX7_both_8 : decode cX7_both 8 = .ok (.iload 4, 2) := by decide +kernel
theorem dX7_both_10 : decode cX7_both 10 = .ok (.invokevirtual 85, 3) := by decide +kernel
theorem dX7_both_13 : decode cX7_both 13 = .ok (.astore 8, 2) := by decide +kernel
theorem dX7_both_15 : decode cX7_both 15 = .ok (.aload 7, 2) := by decide +kernel
theorem dX7_both_17 : decode cX7_both 17 = .ok (.ifnull 8, 3) := by decide +kernel
theorem dX7_both_20 : decode cX7_both 20 = .ok (.aload 8, 2) := by decide +kernel
theorem dX7_both_22 : decode cX7_both 22 = .ok (.ifnonnull 5, 3) := by decide +kernel
theorem dX7_both_25 : decode cX7_both 25 = .ok (.iconst (-1), 1) := by decide +kernel
theorem dX7_both_26 : decode cX7_both 26 = .ok (.ireturn, 1) := by decide +kernel
theorem dX7_both_27 : decode cX7_both 27 = .ok (.aload_n 0, 1) := by decide +kernel
theorem dX7_both_28 : decode cX7_both 28 = .ok (.getfield 33, 3) := by decide +kernel
theorem dX7_both_31 : decode cX7_both 31 = .ok (.iload_n 1, 1) := by decide +kernel
theorem dX7_both_32 : decode cX7_both 32 = .ok (.iload 4, 2) := by decide +kernel
theorem dX7_both_34 : decode cX7_both 34 = .ok (.invokevirtual 152, 3) := by decide +kernel
theorem dX7_both_37 : decode cX7_both 37 = .ok (.istore 9, 2) := by decide +kernel
theorem dX7_both_39 : decode cX7_both 39 = .ok (.iconst 0, 1) := by decide +kernel
theorem dX7_both_40 : decode cX7_both 40 = .ok (.istore 10, 2) := by decide +kernel
theorem dX7_both_42 : decode cX7_both 42 = .ok (.iconst 0, 1) := by decide +kernel
theorem dX7_both_43 : decode cX7_both 43 = .ok (.istore 11, 2) := by decide +kernel
theorem dX7_both_45 : decode cX7_both 45 = .ok (.iconst 0, 1) := by decide +kernel
theorem dX7_both_46 : decode cX7_both 46 = .ok (.istore 12, 2) := by decide +kernel
theorem dX7_both_48 : decode cX7_both 48 = .ok (.iload 12, 2) := by decide +kernel
theorem dX7_both_50 : decode cX7_both 50 = .ok (.aload 7, 2) := by decide +kernel
theorem dX7_both_52 : decode cX7_both 52 = .ok (.getfield 102, 3) := by decide +kernel
theorem dX7_both_55 : decode cX7_both 55 = .ok (.if_icmp .ge 63, 3) := by decide +kernel
theorem dX7_both_58 : decode cX7_both 58 = .ok (.aload 7, 2) := by decide +kernel
theorem dX7_both_60 : decode cX7_both 60 = .ok (.getfield 118, 3) := by decide +kernel
theorem dX7_both_63 : decode cX7_both 63 = .ok (.iload 12, 2) := by decide +kernel
theorem dX7_both_65 : decode cX7_both 65 = .ok (.iaload, 1) := by decide +kernel
theorem dX7_both_66 : decode cX7_both 66 = .ok (.iload 9, 2) := by decide +kernel
theorem dX7_both_68 : decode cX7_both 68 = .ok (.if_icmp .gt 44, 3) := by decide +kernel
theorem dX7_both_71 : decode cX7_both 71 = .ok (.aload 7, 2) := by decide +kernel
theorem dX7_both_73 : decode cX7_both 73 = .ok (.iload 12, 2) := by decide +kernel
theorem dX7_both_75 : decode cX7_both 75 = .ok (.iload 9, 2) := by decide +kernel
theorem dX7_both_77 : decode cX7_both 77 = .ok (.lload_n 2, 1) := by decide +kernel
theorem dX7_both_78 : decode cX7_both 78 = .ok (.invokevirtual 156, 3) := by decide +kernel
theorem dX7_both_81 : decode cX7_both 81 = .ok (.ifCond .eq 20, 3) := by decide +kernel
theorem dX7_both_84 : decode cX7_both 84 = .ok (.aload 8, 2) := by decide +kernel
theorem dX7_both_86 : decode cX7_both 86 = .ok (.iload 11, 2) := by decide +kernel
theorem dX7_both_88 : decode cX7_both 88 = .ok (.iload 9, 2) := by decide +kernel
theorem dX7_both_90 : decode cX7_both 90 = .ok (.lload 5, 2) := by decide +kernel
theorem dX7_both_92 : decode cX7_both 92 = .ok (.invokevirtual 156, 3) := by decide +kernel
theorem dX7_both_95 : decode cX7_both 95 = .ok (.ifCond .eq 6, 3) := by decide +kernel
theorem dX7_both_98 : decode cX7_both 98 = .ok (.iinc 10 1, 3) := by decide +kernel
theorem dX7_both_101 : decode cX7_both 101 = .ok (.aload 8, 2) := by decide +kernel
theorem dX7_both_103 : decode cX7_both 103 = .ok (.iload 11, 2) := by decide +kernel
theorem dX7_both_105 : decode cX7_both 105 = .ok (.iload 9, 2) := by decide +kernel
theorem dX7_both_107 : decode cX7_both 107 = .ok (.invokevirtual 160, 3) := by decide +kernel
theorem dX7_both_110 : decode cX7_both 110 = .ok (.istore 11, 2) := by decide +kernel
theorem dX7_both_112 : decode cX7_both 112 = .ok (.iinc 12 1, 3) := by decide +kernel
theorem dX7_both_115 : decode cX7_both 115 = .ok (.goto (-67), 3) := by decide +kernel
theorem dX7_both_118 : decode cX7_both 118 = .ok (.iload 10, 2) := by decide +kernel
theorem dX7_both_120 : decode cX7_both 120 = .ok (.ireturn, 1) := by decide +kernel
theorem dX7_rows_0 : decode cX7_rows 0 = .ok (.aload_n 0, 1) := by decide +kernel
theorem dX7_rows_1 : decode cX7_rows 1 = .ok (.iload_n 1, 1) := by decide +kernel
theorem dX7_rows_2 : decode cX7_rows 2 = .ok (.invokevirtual 85, 3) := by decide +kernel
theorem dX7_rows_5 : decode cX7_rows 5 = .ok (.astore 4, 2) := by decide +kernel
theorem dX7_rows_7 : decode cX7_rows 7 = .ok (.aload 4, 2) := by decide +kernel
theorem dX7_rows_9 : decode cX7_rows 9 = .ok (.ifnonnull 5, 3) := by decide +kernel
theorem dX7_rows_12 : decode cX7_rows 12 = .ok (.iconst (-1), 1) := by decide +kernel
theorem dX7_rows_13 : decode cX7_rows 13 = .ok (.ireturn, 1) := by decide +kernel
theorem dX7_rows_14 : decode cX7_rows 14 = .ok (.iconst 0, 1) := by decide +kernel
theorem dX7_rows_15 : decode cX7_rows 15 = .ok (.istore 5, 2) := by decide +kernel
theorem dX7_rows_17 : decode cX7_rows 17 = .ok (.iconst 0, 1) := by decide +kernel
theorem dX7_rows_18 : decode cX7_rows 18 = .ok (.istore 6, 2) := by decide +kernel
theorem dX7_rows_20 : decode cX7_rows 20 = .ok (.iload 6, 2) := by decide +kernel
theorem dX7_rows_22 : decode cX7_rows 22 = .ok (.aload 4, 2) := by decide +kernel
theorem dX7_rows_24 : decode cX7_rows 24 = .ok (.getfield 102, 3) := by decide +kernel
theorem dX7_rows_27 : decode cX7_rows 27 = .ok (.if_icmp .ge 70, 3) := by decide +kernel
theorem dX7_rows_30 : decode cX7_rows 30 = .ok (.iload_n 2, 1) := by decide +kernel
theorem dX7_rows_31 : decode cX7_rows 31 = .ok (.iconst (-1), 1) := by decide +kernel
theorem dX7_rows_32 : decode cX7_rows 32 = .ok (.if_icmp .eq 15, 3) := by decide +kernel
theorem dX7_rows_35 : decode cX7_rows 35 = .ok (.aload 4, 2) := by decide +kernel
theorem dX7_rows_37 : decode cX7_rows 37 = .ok (.getfield 118, 3) := by decide +kernel
theorem dX7_rows_40 : decode cX7_rows 40 = .ok (.iload 6, 2) := by decide +kernel
theorem dX7_rows_42 : decode cX7_rows 42 = .ok (.iaload, 1) := by decide +kernel
theorem dX7_rows_43 : decode cX7_rows 43 = .ok (.iload_n 2, 1) := by decide +kernel
theorem dX7_rows_44 : decode cX7_rows 44 = .ok (.if_icmp .ne 7, 3) := by decide +kernel
theorem dX7_rows_47 : decode cX7_rows 47 = .ok (.iconst 1, 1) := by decide +kernel
theorem dX7_rows_48 : decode cX7_rows 48 = .ok (.goto 4, 3) := by decide +kernel
theorem dX7_rows_51 : decode cX7_rows 51 = .ok (.iconst 0, 1) := by decide +kernel
theorem dX7_rows_52 : decode cX7_rows 52 = .ok (.istore 7, 2) := by decide +kernel
theorem dX7_rows_54 : decode cX7_rows 54 = .ok (.iload_n 3, 1) := by decide +kernel
theorem dX7_rows_55 : decode cX7_rows 55 = .ok (.iconst (-1), 1) := by decide +kernel
theorem dX7_rows_56 : decode cX7_rows 56 = .ok (.if_icmp .eq 15, 3) := by decide +kernel
theorem dX7_rows_59 : decode cX7_rows 59 = .ok (.aload 4, 2) := by decide +kernel
theorem dX7_rows_61 : decode cX7_rows 61 = .ok (.getfield 122, 3) := by decide +kernel
theorem dX7_rows_64 : decode cX7_rows 64 = .ok (.iload 6, 2) := by decide +kernel
theorem dX7_rows_66 : decode cX7_rows 66 = .ok (.iaload, 1) := by decide +kernel
theorem dX7_rows_67 : decode cX7_rows 67 = .ok (.iload_n 3, 1) := by decide +kernel
theorem dX7_rows_68 : decode cX7_rows 68 = .ok (.if_icmp .ne 7, 3) := by decide +kernel
theorem dX7_rows_71 : decode cX7_rows 71 = .ok (.iconst 1, 1) := by decide +kernel
theorem dX7_rows_72 : decode cX7_rows 72 = .ok (.goto 4, 3) := by decide +kernel
theorem dX7_rows_75 : decode cX7_rows 75 = .ok (.iconst 0, 1) := by decide +kernel
theorem dX7_rows_76 : decode cX7_rows 76 = .ok (.istore 8, 2) := by decide +kernel
theorem dX7_rows_78 : decode cX7_rows 78 = .ok (.iload 7, 2) := by decide +kernel
theorem dX7_rows_80 : decode cX7_rows 80 = .ok (.ifCond .eq 11, 3) := by decide +kernel
theorem dX7_rows_83 : decode cX7_rows 83 = .ok (.iload 8, 2) := by decide +kernel
theorem dX7_rows_85 : decode cX7_rows 85 = .ok (.ifCond .eq 6, 3) := by decide +kernel
theorem dX7_rows_88 : decode cX7_rows 88 = .ok (.iinc 5 1, 3) := by decide +kernel
theorem dX7_rows_91 : decode cX7_rows 91 = .ok (.iinc 6 1, 3) := by decide +kernel
theorem dX7_rows_94 : decode cX7_rows 94 = .ok (.goto (-74), 3) := by decide +kernel
theorem dX7_rows_97 : decode cX7_rows 97 = .ok (.iload 5, 2) := by decide +kernel
theorem dX7_rows_99 : decode cX7_rows 99 = .ok (.ireturn, 1) := by decide +kernel
theorem dX7_isPaper_0 : decode cX7_isPaper 0 = .ok (.iload_n 1, 1) := by decide +kernel
theorem dX7_isPaper_1 : decode cX7_isPaper 1 = .ok (.ifCond .lt 15, 3) := by decide +kernel
theorem dX7_isPaper_4 : decode cX7_isPaper 4 = .ok (.iload_n 1, 1) := by decide +kernel
theorem dX7_isPaper_5 : decode cX7_isPaper 5 = .ok (.aload_n 0, 1) := by decide +kernel
theorem dX7_isPaper_6 : decode cX7_isPaper 6 = .ok (.getfield 40, 3) := by decide +kernel
theorem dX7_isPaper_9 : decode cX7_isPaper 9 = .ok (.if_icmp .ge 7, 3) := by decide +kernel
theorem dX7_isPaper_12 : decode cX7_isPaper 12 = .ok (.iconst 1, 1) := by decide +kernel
theorem dX7_isPaper_13 : decode cX7_isPaper 13 = .ok (.goto 4, 3) := by decide +kernel
theorem dX7_isPaper_16 : decode cX7_isPaper 16 = .ok (.iconst 0, 1) := by decide +kernel
theorem dX7_isPaper_17 : decode cX7_isPaper 17 = .ok (.ireturn, 1) := by decide +kernel
theorem dX7_tableOf_0 : decode cX7_tableOf 0 = .ok (.iload_n 1, 1) := by decide +kernel
theorem dX7_tableOf_1 : decode cX7_tableOf 1 = .ok (.ifCond .lt 29, 3) := by decide +kernel
theorem dX7_tableOf_4 : decode cX7_tableOf 4 = .ok (.iload_n 1, 1) := by decide +kernel
theorem dX7_tableOf_5 : decode cX7_tableOf 5 = .ok (.aload_n 0, 1) := by decide +kernel
theorem dX7_tableOf_6 : decode cX7_tableOf 6 = .ok (.getfield 33, 3) := by decide +kernel
theorem dX7_tableOf_9 : decode cX7_tableOf 9 = .ok (.getfield 60, 3) := by decide +kernel
theorem dX7_tableOf_12 : decode cX7_tableOf 12 = .ok (.if_icmp .ge 18, 3) := by decide +kernel
theorem dX7_tableOf_15 : decode cX7_tableOf 15 = .ok (.iload_n 1, 1) := by decide +kernel
theorem dX7_tableOf_16 : decode cX7_tableOf 16 = .ok (.bipush 12, 2) := by decide +kernel
theorem dX7_tableOf_18 : decode cX7_tableOf 18 = .ok (.if_icmp .ge 12, 3) := by decide +kernel
theorem dX7_tableOf_21 : decode cX7_tableOf 21 = .ok (.aload_n 0, 1) := by decide +kernel
theorem dX7_tableOf_22 : decode cX7_tableOf 22 = .ok (.getfield 18, 3) := by decide +kernel
theorem dX7_tableOf_25 : decode cX7_tableOf 25 = .ok (.iload_n 1, 1) := by decide +kernel
theorem dX7_tableOf_26 : decode cX7_tableOf 26 = .ok (.aaload, 1) := by decide +kernel
theorem dX7_tableOf_27 : decode cX7_tableOf 27 = .ok (.goto 4, 3) := by decide +kernel
theorem dX7_tableOf_30 : decode cX7_tableOf 30 = .ok (.aconst_null, 1) := by decide +kernel
theorem dX7_tableOf_31 : decode cX7_tableOf 31 = .ok (.areturn, 1) := by decide +kernel
theorem dX7_beginTable_0 : decode cX7_beginTable 0 = .ok (.aload_n 0, 1) := by decide +kernel
theorem dX7_beginTable_1 : decode cX7_beginTable 1 = .ok (.iload_n 1, 1) := by decide +kernel
theorem dX7_beginTable_2 : decode cX7_beginTable 2 = .ok (.invokevirtual 85, 3) := by decide +kernel
theorem dX7_beginTable_5 : decode cX7_beginTable 5 = .ok (.astore_n 2, 1) := by decide +kernel
theorem dX7_beginTable_6 : decode cX7_beginTable 6 = .ok (.aload_n 0, 1) := by decide +kernel
theorem dX7_beginTable_7 : decode cX7_beginTable 7 = .ok (.getfield 33, 3) := by decide +kernel
theorem dX7_beginTable_10 : decode cX7_beginTable 10 = .ok (.iload_n 1, 1) := by decide +kernel
theorem dX7_beginTable_11 : decode cX7_beginTable 11 = .ok (.invokevirtual 163, 3) := by decide +kernel
theorem dX7_beginTable_14 : decode cX7_beginTable 14 = .ok (.istore_n 3, 1) := by decide +kernel
theorem dX7_beginTable_15 : decode cX7_beginTable 15 = .ok (.aload_n 2, 1) := by decide +kernel
theorem dX7_beginTable_16 : decode cX7_beginTable 16 = .ok (.ifnull 63, 3) := by decide +kernel
theorem dX7_beginTable_19 : decode cX7_beginTable 19 = .ok (.aload_n 0, 1) := by decide +kernel
theorem dX7_beginTable_20 : decode cX7_beginTable 20 = .ok (.getfield 33, 3) := by decide +kernel
theorem dX7_beginTable_23 : decode cX7_beginTable 23 = .ok (.iload_n 3, 1) := by decide +kernel
theorem dX7_beginTable_24 : decode cX7_beginTable 24 = .ok (.invokevirtual 166, 3) := by decide +kernel
theorem dX7_beginTable_27 : decode cX7_beginTable 27 = .ok (.ifCond .eq 52, 3) := by decide +kernel
theorem dX7_beginTable_30 : decode cX7_beginTable 30 = .ok (.aload_n 2, 1) := by decide +kernel
theorem dX7_beginTable_31 : decode cX7_beginTable 31 = .ok (.aload_n 0, 1) := by decide +kernel
theorem dX7_beginTable_32 : decode cX7_beginTable 32 = .ok (.getfield 33, 3) := by decide +kernel
theorem dX7_beginTable_35 : decode cX7_beginTable 35 = .ok (.getfield 169, 3) := by decide +kernel
theorem dX7_beginTable_38 : decode cX7_beginTable 38 = .ok (.iload_n 3, 1) := by decide +kernel
theorem dX7_beginTable_39 : decode cX7_beginTable 39 = .ok (.iaload, 1) := by decide +kernel
theorem dX7_beginTable_40 : decode cX7_beginTable 40 = .ok (.aload_n 0, 1) := by decide +kernel
theorem dX7_beginTable_41 : decode cX7_beginTable 41 = .ok (.getfield 33, 3) := by decide +kernel
theorem dX7_beginTable_44 : decode cX7_beginTable 44 = .ok (.getfield 171, 3) := by decide +kernel
theorem dX7_beginTable_47 : decode cX7_beginTable 47 = .ok (.iload_n 3, 1) := by decide +kernel
theorem dX7_beginTable_48 : decode cX7_beginTable 48 = .ok (.iaload, 1) := by decide +kernel
theorem dX7_beginTable_49 : decode cX7_beginTable 49 = .ok (.aload_n 0, 1) := by decide +kernel
theorem dX7_beginTable_50 : decode cX7_beginTable 50 = .ok (.getfield 33, 3) := by decide +kernel
theorem dX7_beginTable_53 : decode cX7_beginTable 53 = .ok (.getfield 173, 3) := by decide +kernel
theorem dX7_beginTable_56 : decode cX7_beginTable 56 = .ok (.iload_n 3, 1) := by decide +kernel
theorem dX7_beginTable_57 : decode cX7_beginTable 57 = .ok (.iaload, 1) := by decide +kernel
theorem dX7_beginTable_58 : decode cX7_beginTable 58 = .ok (.iconst 1, 1) := by decide +kernel
theorem dX7_beginTable_59 : decode cX7_beginTable 59 = .ok (.if_icmp .ne 7, 3) := by decide +kernel
theorem dX7_beginTable_62 : decode cX7_beginTable 62 = .ok (.iconst 1, 1) := by decide +kernel
theorem dX7_beginTable_63 : decode cX7_beginTable 63 = .ok (.goto 4, 3) := by decide +kernel
theorem dX7_beginTable_66 : decode cX7_beginTable 66 = .ok (.iconst 0, 1) := by decide +kernel
theorem dX7_beginTable_67 : decode cX7_beginTable 67 = .ok (.aload_n 0, 1) := by decide +kernel
theorem dX7_beginTable_68 : decode cX7_beginTable 68 = .ok (.getfield 33, 3) := by decide +kernel
theorem dX7_beginTable_71 : decode cX7_beginTable 71 = .ok (.getfield 176, 3) := by decide +kernel
theorem dX7_beginTable_74 : decode cX7_beginTable 74 = .ok (.iload_n 3, 1) := by decide +kernel
theorem dX7_beginTable_75 : decode cX7_beginTable 75 = .ok (.iaload, 1) := by decide +kernel
theorem dX7_beginTable_76 : decode cX7_beginTable 76 = .ok (.invokevirtual 179, 3) := by decide +kernel
theorem dX7_beginTable_79 : decode cX7_beginTable 79 = .ok (.return_, 1) := by decide +kernel
theorem dX7_forgetRows_0 : decode cX7_forgetRows 0 = .ok (.iconst 0, 1) := by decide +kernel
theorem dX7_forgetRows_1 : decode cX7_forgetRows 1 = .ok (.istore_n 2, 1) := by decide +kernel
theorem dX7_forgetRows_2 : decode cX7_forgetRows 2 = .ok (.iload_n 2, 1) := by decide +kernel
theorem dX7_forgetRows_3 : decode cX7_forgetRows 3 = .ok (.aload_n 0, 1) := by decide +kernel
theorem dX7_forgetRows_4 : decode cX7_forgetRows 4 = .ok (.getfield 33, 3) := by decide +kernel
theorem dX7_forgetRows_7 : decode cX7_forgetRows 7 = .ok (.getfield 60, 3) := by decide +kernel
theorem dX7_forgetRows_10 : decode cX7_forgetRows 10 = .ok (.if_icmp .ge 24, 3) := by decide +kernel
theorem dX7_forgetRows_13 : decode cX7_forgetRows 13 = .ok (.aload_n 0, 1) := by decide +kernel
theorem dX7_forgetRows_14 : decode cX7_forgetRows 14 = .ok (.iload_n 2, 1) := by decide +kernel
theorem dX7_forgetRows_15 : decode cX7_forgetRows 15 = .ok (.invokevirtual 85, 3) := by decide +kernel
theorem dX7_forgetRows_18 : decode cX7_forgetRows 18 = .ok (.astore_n 3, 1) := by decide +kernel
theorem dX7_forgetRows_19 : decode cX7_forgetRows 19 = .ok (.aload_n 3, 1) := by decide +kernel
theorem dX7_forgetRows_20 : decode cX7_forgetRows 20 = .ok (.ifnull 8, 3) := by decide +kernel
theorem dX7_forgetRows_23 : decode cX7_forgetRows 23 = .ok (.aload_n 3, 1) := by decide +kernel
theorem dX7_forgetRows_24 : decode cX7_forgetRows 24 = .ok (.iload_n 1, 1) := by decide +kernel
theorem dX7_forgetRows_25 : decode cX7_forgetRows 25 = .ok (.invokevirtual 183, 3) := by decide +kernel
theorem dX7_forgetRows_28 : decode cX7_forgetRows 28 = .ok (.iinc 2 1, 3) := by decide +kernel
theorem dX7_forgetRows_31 : decode cX7_forgetRows 31 = .ok (.goto (-29), 3) := by decide +kernel
theorem dX7_forgetRows_34 : decode cX7_forgetRows 34 = .ok (.return_, 1) := by decide +kernel
theorem dX7_isLetter_0 : decode cX7_isLetter 0 = .ok (.iload_n 0, 1) := by decide +kernel
theorem dX7_isLetter_1 : decode cX7_isLetter 1 = .ok (.bipush 97, 2) := by decide +kernel
theorem dX7_isLetter_3 : decode cX7_isLetter 3 = .ok (.if_icmp .lt 13, 3) := by decide +kernel
theorem dX7_isLetter_6 : decode cX7_isLetter 6 = .ok (.iload_n 0, 1) := by decide +kernel
theorem dX7_isLetter_7 : decode cX7_isLetter 7 = .ok (.bipush 122, 2) := by decide +kernel
theorem dX7_isLetter_9 : decode cX7_isLetter 9 = .ok (.if_icmp .gt 7, 3) := by decide +kernel
theorem dX7_isLetter_12 : decode cX7_isLetter 12 = .ok (.iconst 1, 1) := by decide +kernel
theorem dX7_isLetter_13 : decode cX7_isLetter 13 = .ok (.goto 4, 3) := by decide +kernel
theorem dX7_isLetter_16 : decode cX7_isLetter 16 = .ok (.iconst 0, 1) := by decide +kernel
theorem dX7_isLetter_17 : decode cX7_isLetter 17 = .ok (.ireturn, 1) := by decide +kernel
theorem dX7_isDigit_0 : decode cX7_isDigit 0 = .ok (.iload_n 0, 1) := by decide +kernel
theorem dX7_isDigit_1 : decode cX7_isDigit 1 = .ok (.bipush 48, 2) := by decide +kernel
theorem dX7_isDigit_3 : decode cX7_isDigit 3 = .ok (.if_icmp .lt 13, 3) := by decide +kernel
theorem dX7_isDigit_6 : decode cX7_isDigit 6 = .ok (.iload_n 0, 1) := by decide +kernel
theorem dX7_isDigit_7 : decode cX7_isDigit 7 = .ok (.bipush 57, 2) := by decide +kernel
theorem dX7_isDigit_9 : decode cX7_isDigit 9 = .ok (.if_icmp .gt 7, 3) := by decide +kernel
theorem dX7_isDigit_12 : decode cX7_isDigit 12 = .ok (.iconst 1, 1) := by decide +kernel
theorem dX7_isDigit_13 : decode cX7_isDigit 13 = .ok (.goto 4, 3) := by decide +kernel
theorem dX7_isDigit_16 : decode cX7_isDigit 16 = .ok (.iconst 0, 1) := by decide +kernel
theorem dX7_isDigit_17 : decode cX7_isDigit 17 = .ok (.ireturn, 1) := by decide +kernel
theorem dX8_init_0 : decode cX8_init 0 = .ok (.aload_n 0, 1) := by decide +kernel
theorem dX8_init_1 : decode cX8_init 1 = .ok (.invokespecial 1, 3) := by decide +kernel
theorem dX8_init_4 : decode cX8_init 4 = .ok (.aload_n 0, 1) := by decide +kernel
theorem dX8_init_5 : decode cX8_init 5 = .ok (.sipush 400, 3) := by decide +kernel
theorem dX8_init_8 : decode cX8_init 8 = .ok (.newarray .int, 2) := by decide +kernel
theorem dX8_init_10 : decode cX8_init 10 = .ok (.putfield 7, 3) := by decide +kernel
theorem dX8_init_13 : decode cX8_init 13 = .ok (.aload_n 0, 1) := by decide +kernel
theorem dX8_init_14 : decode cX8_init 14 = .ok (.iconst (-1), 1) := by decide +kernel
theorem dX8_init_15 : decode cX8_init 15 = .ok (.putfield 13, 3) := by decide +kernel
theorem dX8_init_18 : decode cX8_init 18 = .ok (.aload_n 0, 1) := by decide +kernel
theorem dX8_init_19 : decode cX8_init 19 = .ok (.bipush 110, 2) := by decide +kernel
theorem dX8_init_21 : decode cX8_init 21 = .ok (.bipush 117, 2) := by decide +kernel
theorem dX8_init_23 : decode cX8_init 23 = .ok (.bipush 109, 2) := by decide +kernel
theorem dX8_init_25 : decode cX8_init 25 = .ok (.bipush 32, 2) := by decide +kernel
theorem dX8_init_27 : decode cX8_init 27 = .ok (.invokestatic 17, 3) := by decide +kernel
theorem dX8_init_30 : decode cX8_init 30 = .ok (.putfield 21, 3) := by decide +kernel
theorem dX8_init_33 : decode cX8_init 33 = .ok (.aload_n 0, 1) := by decide +kernel
theorem dX8_init_34 : decode cX8_init 34 = .ok (.bipush 119, 2) := by decide +kernel
theorem dX8_init_36 : decode cX8_init 36 = .ok (.bipush 111, 2) := by decide +kernel
theorem dX8_init_38 : decode cX8_init 38 = .ok (.bipush 114, 2) := by decide +kernel
theorem dX8_init_40 : decode cX8_init 40 = .ok (.bipush 100, 2) := by decide +kernel
theorem dX8_init_42 : decode cX8_init 42 = .ok (.invokestatic 17, 3) := by decide +kernel
theorem dX8_init_45 : decode cX8_init 45 = .ok (.putfield 25, 3) := by decide +kernel
theorem dX8_init_48 : decode cX8_init 48 = .ok (.aload_n 0, 1) := by decide +kernel
theorem dX8_init_49 : decode cX8_init 49 = .ok (.bipush 111, 2) := by decide +kernel
theorem dX8_init_51 : decode cX8_init 51 = .ok (.bipush 110, 2) := by decide +kernel
theorem dX8_init_53 : decode cX8_init 53 = .ok (.bipush 101, 2) := by decide +kernel
theorem dX8_init_55 : decode cX8_init 55 = .ok (.bipush 32, 2) := by decide +kernel
theorem dX8_init_57 : decode cX8_init 57 = .ok (.invokestatic 17, 3) := by decide +kernel
theorem dX8_init_60 : decode cX8_init 60 = .ok (.putfield 28, 3) := by decide +kernel
theorem dX8_init_63 : decode cX8_init 63 = .ok (.aload_n 0, 1) := by decide +kernel
theorem dX8_init_64 : decode cX8_init 64 = .ok (.bipush 111, 2) := by decide +kernel
theorem dX8_init_66 : decode cX8_init 66 = .ok (.bipush 112, 2) := by decide +kernel
theorem dX8_init_68 : decode cX8_init 68 = .ok (.bipush 116, 2) := by decide +kernel
theorem dX8_init_70 : decode cX8_init 70 = .ok (.bipush 32, 2) := by decide +kernel
theorem dX8_init_72 : decode cX8_init 72 = .ok (.invokestatic 17, 3) := by decide +kernel
theorem dX8_init_75 : decode cX8_init 75 = .ok (.putfield 31, 3) := by decide +kernel
theorem dX8_init_78 : decode cX8_init 78 = .ok (.aload_n 0, 1) := by decide +kernel
theorem dX8_init_79 : decode cX8_init 79 = .ok (.bipush 109, 2) := by decide +kernel
theorem dX8_init_81 : decode cX8_init 81 = .ok (.bipush 97, 2) := by decide +kernel
theorem dX8_init_83 : decode cX8_init 83 = .ok (.bipush 110, 2) := by decide +kernel
theorem dX8_init_85 : decode cX8_init 85 = .ok (.bipush 121, 2) := by decide +kernel
theorem dX8_init_87 : decode cX8_init 87 = .ok (.invokestatic 17, 3) := by decide +kernel
theorem dX8_init_90 : decode cX8_init 90 = .ok (.putfield 34, 3) := by decide +kernel
theorem dX8_init_93 : decode cX8_init 93 = .ok (.aload_n 0, 1) := by decide +kernel
theorem dX8_init_94 : decode cX8_init 94 = .ok (.bipush 80, 2) := by decide +kernel
theorem dX8_init_96 : decode cX8_init 96 = .ok (.newarray .int, 2) := by decide +kernel
theorem dX8_init_98 : decode cX8_init 98 = .ok (.putfield 37, 3) := by decide +kernel
theorem dX8_init_101 : decode cX8_init 101 = .ok (.aload_n 0, 1) := by decide +kernel
theorem dX8_init_102 : decode cX8_init 102 = .ok (.bipush 80, 2) := by decide +kernel
theorem dX8_init_104 : decode cX8_init 104 = .ok (.newarray .long, 2) := by decide +kernel
theorem dX8_init_106 : decode cX8_init 106 = .ok (.putfield 40, 3) := by decide +kernel
theorem dX8_init_109 : decode cX8_init 109 = .ok (.aload_n 0, 1) := by decide +kernel
theorem dX8_init_110 : decode cX8_init 110 = .ok (.bipush 80, 2) := by decide +kernel
theorem dX8_init_112 : decode cX8_init 112 = .ok (.newarray .int, 2) := by decide +kernel
theorem dX8_init_114 : decode cX8_init 114 = .ok (.putfield 44, 3) := by decide +kernel
theorem dX8_init_117 : decode cX8_init 117 = .ok (.aload_n 0, 1) := by decide +kernel
theorem dX8_init_118 : decode cX8_init 118 = .ok (.bipush 80, 2) := by decide +kernel
theorem dX8_init_120 : decode cX8_init 120 = .ok (.newarray .int, 2) := by decide +kernel
theorem dX8_init_122 : decode cX8_init 122 = .ok (.putfield 47, 3) := by decide +kernel
theorem dX8_init_125 : decode cX8_init 125 = .ok (.aload_n 0, 1) := by decide +kernel
theorem dX8_init_126 : decode cX8_init 126 = .ok (.bipush 12, 2) := by decide +kernel
theorem dX8_init_128 : decode cX8_init 128 = .ok (.newarray .int, 2) := by decide +kernel
theorem dX8_init_130 : decode cX8_init 130 = .ok (.putfield 50, 3) := by decide +kernel
theorem dX8_init_133 : decode cX8_init 133 = .ok (.aload_n 0, 1) := by decide +kernel
theorem dX8_init_134 : decode cX8_init 134 = .ok (.bipush 80, 2) := by decide +kernel
theorem dX8_init_136 : decode cX8_init 136 = .ok (.newarray .int, 2) := by decide +kernel
theorem dX8_init_138 : decode cX8_init 138 = .ok (.putfield 53, 3) := by decide +kernel
theorem dX8_init_141 : decode cX8_init 141 = .ok (.aload_n 0, 1) := by decide +kernel
theorem dX8_init_142 : decode cX8_init 142 = .ok (.bipush 80, 2) := by decide +kernel
theorem dX8_init_144 : decode cX8_init 144 = .ok (.newarray .long, 2) := by decide +kernel
theorem dX8_init_146 : decode cX8_init 146 = .ok (.putfield 56, 3) := by decide +kernel
theorem dX8_init_149 : decode cX8_init 149 = .ok (.aload_n 0, 1) := by decide +kernel
theorem dX8_init_150 : decode cX8_init 150 = .ok (.bipush 80, 2) := by decide +kernel
theorem dX8_init_152 : decode cX8_init 152 = .ok (.newarray .int, 2) := by decide +kernel
theorem dX8_init_154 : decode cX8_init 154 = .ok (.putfield 59, 3) := by decide +kernel
theorem dX8_init_157 : decode cX8_init 157 = .ok (.aload_n 0, 1) := by decide +kernel
theorem dX8_init_158 : decode cX8_init 158 = .ok (.bipush 80, 2) := by decide +kernel
theorem dX8_init_160 : decode cX8_init 160 = .ok (.newarray .int, 2) := by decide +kernel
theorem dX8_init_162 : decode cX8_init 162 = .ok (.putfield 62, 3) := by decide +kernel
theorem dX8_init_165 : decode cX8_init 165 = .ok (.aload_n 0, 1) := by decide +kernel
theorem dX8_init_166 : decode cX8_init 166 = .ok (.bipush 12, 2) := by decide +kernel
theorem dX8_init_168 : decode cX8_init 168 = .ok (.newarray .int, 2) := by decide +kernel
theorem dX8_init_170 : decode cX8_init 170 = .ok (.putfield 65, 3) := by decide +kernel
theorem dX8_init_173 : decode cX8_init 173 = .ok (.aload_n 0, 1) := by decide +kernel
theorem dX8_init_174 : decode cX8_init 174 = .ok (.bipush 8, 2) := by decide +kernel
theorem dX8_init_176 : decode cX8_init 176 = .ok (.newarray .int, 2) := by decide +kernel
theorem dX8_init_178 : decode cX8_init 178 = .ok (.putfield 68, 3) := by decide +kernel
theorem dX8_init_181 : decode cX8_init 181 = .ok (.aload_n 0, 1) := by decide +kernel
theorem dX8_init_182 : decode cX8_init 182 = .ok (.bipush 8, 2) := by decide +kernel
theorem dX8_init_184 : decode cX8_init 184 = .ok (.newarray .int, 2) := by decide +kernel
theorem dX8_init_186 : decode cX8_init 186 = .ok (.putfield 71, 3) := by decide +kernel
theorem dX8_init_189 : decode cX8_init 189 = .ok (.aload_n 0, 1) := by decide +kernel
theorem dX8_init_190 : decode cX8_init 190 = .ok (.bipush 31, 2) := by decide +kernel
theorem dX8_init_192 : decode cX8_init 192 = .ok (.newarray .int, 2) := by decide +kernel
theorem dX8_init_194 : decode cX8_init 194 = .ok (.putfield 74, 3) := by decide +kernel
theorem dX8_init_197 : decode cX8_init 197 = .ok (.aload_n 0, 1) := by decide +kernel
theorem dX8_init_198 : decode cX8_init 198 = .ok (.sipush 6200, 3) := by decide +kernel
theorem dX8_init_201 : decode cX8_init 201 = .ok (.newarray .int, 2) := by decide +kernel
theorem dX8_init_203 : decode cX8_init 203 = .ok (.putfield 77, 3) := by decide +kernel
theorem dX8_init_206 : decode cX8_init 206 = .ok (.aload_n 0, 1) := by decide +kernel
theorem dX8_init_207 : decode cX8_init 207 = .ok (.sipush 6200, 3) := by decide +kernel
theorem dX8_init_210 : decode cX8_init 210 = .ok (.newarray .int, 2) := by decide +kernel
theorem dX8_init_212 : decode cX8_init 212 = .ok (.putfield 80, 3) := by decide +kernel
theorem dX8_init_215 : decode cX8_init 215 = .ok (.aload_n 0, 1) := by decide +kernel
theorem dX8_init_216 : decode cX8_init 216 = .ok (.sipush 6200, 3) := by decide +kernel
theorem dX8_init_219 : decode cX8_init 219 = .ok (.newarray .long, 2) := by decide +kernel
theorem dX8_init_221 : decode cX8_init 221 = .ok (.putfield 83, 3) := by decide +kernel
theorem dX8_init_224 : decode cX8_init 224 = .ok (.aload_n 0, 1) := by decide +kernel
theorem dX8_init_225 : decode cX8_init 225 = .ok (.bipush 8, 2) := by decide +kernel
theorem dX8_init_227 : decode cX8_init 227 = .ok (.newarray .int, 2) := by decide +kernel
theorem dX8_init_229 : decode cX8_init 229 = .ok (.putfield 86, 3) := by decide +kernel
theorem dX8_init_232 : decode cX8_init 232 = .ok (.aload_n 0, 1) := by decide +kernel
theorem dX8_init_233 : decode cX8_init 233 = .ok (.sipush 6300, 3) := by decide +kernel
theorem dX8_init_236 : decode cX8_init 236 = .ok (.newarray .int, 2) := by decide +kernel
theorem dX8_init_238 : decode cX8_init 238 = .ok (.putfield 89, 3) := by decide +kernel
theorem dX8_init_241 : decode cX8_init 241 = .ok (.aload_n 0, 1) := by decide +kernel
theorem dX8_init_242 : decode cX8_init 242 = .ok (.sipush 6300, 3) := by decide +kernel
theorem dX8_init_245 : decode cX8_init 245 = .ok (.newarray .int, 2) := by decide +kernel
theorem dX8_init_247 : decode cX8_init 247 = .ok (.putfield 92, 3) := by decide +kernel
theorem dX8_init_250 : decode cX8_init 250 = .ok (.aload_n 0, 1) := by decide +kernel
theorem dX8_init_251 : decode cX8_init 251 = .ok (.sipush 6300, 3) := by decide +kernel
theorem dX8_init_254 : decode cX8_init 254 = .ok (.newarray .boolean, 2) := by decide +kernel
theorem dX8_init_256 : decode cX8_init 256 = .ok (.putfield 95, 3) := by decide +kernel
theorem dX8_init_259 : decode cX8_init 259 = .ok (.aload_n 0, 1) := by decide +kernel
theorem dX8_init_260 : decode cX8_init 260 = .ok (.sipush 6300, 3) := by decide +kernel
theorem dX8_init_263 : decode cX8_init 263 = .ok (.newarray .long, 2) := by decide +kernel
theorem dX8_init_265 : decode cX8_init 265 = .ok (.putfield 99, 3) := by decide +kernel
theorem dX8_init_268 : decode cX8_init 268 = .ok (.aload_n 0, 1) := by decide +kernel
theorem dX8_init_269 : decode cX8_init 269 = .ok (.sipush 6300, 3) := by decide +kernel
theorem dX8_init_272 : decode cX8_init 272 = .ok (.newarray .int, 2) := by decide +kernel
theorem dX8_init_274 : decode cX8_init 274 = .ok (.putfield 102, 3) := by decide +kernel
theorem dX8_init_277 : decode cX8_init 277 = .ok (.aload_n 0, 1) := by decide +kernel
theorem dX8_init_278 : decode cX8_init 278 = .ok (.bipush 8, 2) := by decide +kernel
theorem dX8_init_280 : decode cX8_init 280 = .ok (.newarray .int, 2) := by decide +kernel
theorem dX8_init_282 : decode cX8_init 282 = .ok (.putfield 105, 3) := by decide +kernel
theorem dX8_init_285 : decode cX8_init 285 = .ok (.aload_n 0, 1) := by decide +kernel
theorem dX8_init_286 : decode cX8_init 286 = .ok (.bipush 8, 2) := by decide +kernel
theorem dX8_init_288 : decode cX8_init 288 = .ok (.newarray .int, 2) := by decide +kernel
theorem dX8_init_290 : decode cX8_init 290 = .ok (.putfield 108, 3) := by decide +kernel
theorem dX8_init_293 : decode cX8_init 293 = .ok (.aload_n 0, 1) := by decide +kernel
theorem dX8_init_294 : decode cX8_init 294 = .ok (.bipush 8, 2) := by decide +kernel
theorem dX8_init_296 : decode cX8_init 296 = .ok (.newarray .int, 2) := by decide +kernel
theorem dX8_init_298 : decode cX8_init 298 = .ok (.putfield 111, 3) := by decide +kernel
theorem dX8_init_301 : decode cX8_init 301 = .ok (.aload_n 0, 1) := by decide +kernel
theorem dX8_init_302 : decode cX8_init 302 = .ok (.bipush 8, 2) := by decide +kernel
theorem dX8_init_304 : decode cX8_init 304 = .ok (.newarray .int, 2) := by decide +kernel
theorem dX8_init_306 : decode cX8_init 306 = .ok (.putfield 114, 3) := by decide +kernel
theorem dX8_init_309 : decode cX8_init 309 = .ok (.aload_n 0, 1) := by decide +kernel
theorem dX8_init_310 : decode cX8_init 310 = .ok (.bipush 8, 2) := by decide +kernel
theorem dX8_init_312 : decode cX8_init 312 = .ok (.newarray .int, 2) := by decide +kernel
theorem dX8_init_314 : decode cX8_init 314 = .ok (.putfield 117, 3) := by decide +kernel
theorem dX8_init_317 : decode cX8_init 317 = .ok (.aload_n 0, 1) := by decide +kernel
theorem dX8_init_318 : decode cX8_init 318 = .ok (.sipush 1000, 3) := by decide +kernel
theorem dX8_init_321 : decode cX8_init 321 = .ok (.newarray .int, 2) := by decide +kernel
theorem dX8_init_323 : decode cX8_init 323 = .ok (.putfield 120, 3) := by decide +kernel
theorem dX8_init_326 : decode cX8_init 326 = .ok (.aload_n 0, 1) := by decide +kernel
theorem dX8_init_327 : decode cX8_init 327 = .ok (.bipush 80, 2) := by decide +kernel
theorem dX8_init_329 : decode cX8_init 329 = .ok (.newarray .boolean, 2) := by decide +kernel
theorem dX8_init_331 : decode cX8_init 331 = .ok (.putfield 123, 3) := by decide +kernel
theorem dX8_init_334 : decode cX8_init 334 = .ok (.aload_n 0, 1) := by decide +kernel
theorem dX8_init_335 : decode cX8_init 335 = .ok (.bipush 8, 2) := by decide +kernel
theorem dX8_init_337 : decode cX8_init 337 = .ok (.newarray .int, 2) := by decide +kernel
theorem dX8_init_339 : decode cX8_init 339 = .ok (.putfield 126, 3) := by decide +kernel
theorem dX8_init_342 : decode cX8_init 342 = .ok (.return_, 1) := by decide +kernel
theorem dX8_feed_0 : decode cX8_feed 0 = .ok (.aload_n 0, 1) := by decide +kernel
theorem dX8_feed_1 : decode cX8_feed 1 = .ok (.getfield 129, 3) := by decide +kernel
theorem dX8_feed_4 : decode cX8_feed 4 = .ok (.bipush 20, 2) := by decide +kernel
theorem dX8_feed_6 : decode cX8_feed 6 = .ok (.iadd, 1) := by decide +kernel
theorem dX8_feed_7 : decode cX8_feed 7 = .ok (.sipush 400, 3) := by decide +kernel
theorem dX8_feed_10 : decode cX8_feed 10 = .ok (.if_icmp .le 5, 3) := by decide +kernel
theorem dX8_feed_13 : decode cX8_feed 13 = .ok (.iconst (-1), 1) := by decide +kernel
theorem dX8_feed_14 : decode cX8_feed 14 = .ok (.ireturn, 1) := by decide +kernel
theorem dX8_feed_15 : decode cX8_feed 15 = .ok (.iconst 0, 1) := by decide +kernel
theorem dX8_feed_16 : decode cX8_feed 16 = .ok (.istore 6, 2) := by decide +kernel
theorem dX8_feed_18 : decode cX8_feed 18 = .ok (.iload 6, 2) := by decide +kernel
theorem dX8_feed_20 : decode cX8_feed 20 = .ok (.bipush 20, 2) := by decide +kernel
theorem dX8_feed_22 : decode cX8_feed 22 = .ok (.if_icmp .ge 92, 3) := by decide +kernel
theorem dX8_feed_25 : decode cX8_feed 25 = .ok (.iload 6, 2) := by decide +kernel
theorem dX8_feed_27 : decode cX8_feed 27 = .ok (.iconst 4, 1) := by decide +kernel
theorem dX8_feed_28 : decode cX8_feed 28 = .ok (.if_icmp .ge 7, 3) := by decide +kernel
theorem dX8_feed_31 : decode cX8_feed 31 = .ok (.iload_n 1, 1) := by decide +kernel
theorem dX8_feed_32 : decode cX8_feed 32 = .ok (.goto 39, 3) := by decide +kernel
theorem dX8_feed_35 : decode cX8_feed 35 = .ok (.iload 6, 2) := by decide +kernel
theorem dX8_feed_37 : decode cX8_feed 37 = .ok (.bipush 8, 2) := by decide +kernel
theorem dX8_feed_39 : decode cX8_feed 39 = .ok (.if_icmp .ge 7, 3) := by decide +kernel
theorem dX8_feed_42 : decode cX8_feed 42 = .ok (.iload_n 2, 1) := by decide +kernel
theorem dX8_feed_43 : decode cX8_feed 43 = .ok (.goto 28, 3) := by decide +kernel
theorem dX8_feed_46 : decode cX8_feed 46 = .ok (.iload 6, 2) := by decide +kernel
theorem dX8_feed_48 : decode cX8_feed 48 = .ok (.bipush 12, 2) := by decide +kernel
theorem dX8_feed_50 : decode cX8_feed 50 = .ok (.if_icmp .ge 7, 3) := by decide +kernel
theorem dX8_feed_53 : decode cX8_feed 53 = .ok (.iload_n 3, 1) := by decide +kernel
theorem dX8_feed_54 : decode cX8_feed 54 = .ok (.goto 17, 3) := by decide +kernel
theorem dX8_feed_57 : decode cX8_feed 57 = .ok (.iload 6, 2) := by decide +kernel
theorem dX8_feed_59 : decode cX8_feed 59 = .ok (.bipush 16, 2) := by decide +kernel
theorem dX8_feed_61 : decode cX8_feed 61 = .ok (.if_icmp .ge 8, 3) := by decide +kernel
theorem dX8_feed_64 : decode cX8_feed 64 = .ok (.iload 4, 2) := by decide +kernel
theorem dX8_feed_66 : decode cX8_feed 66 = .ok (.goto 5, 3) := by decide +kernel
theorem dX8_feed_69 : decode cX8_feed 69 = .ok (.iload 5, 2) := by decide +kernel
theorem dX8_feed_71 : decode cX8_feed 71 = .ok (.istore 7, 2) := by decide +kernel
theorem dX8_feed_73 : decode cX8_feed 73 = .ok (.aload_n 0, 1) := by decide +kernel
theorem dX8_feed_74 : decode cX8_feed 74 = .ok (.getfield 7, 3) := by decide +kernel
theorem dX8_feed_77 : decode cX8_feed 77 = .ok (.aload_n 0, 1) := by decide +kernel
theorem dX8_feed_78 : decode cX8_feed 78 = .ok (.getfield 129, 3) := by decide +kernel
theorem dX8_feed_81 : decode cX8_feed 81 = .ok (.iload 7, 2) := by decide +kernel
theorem dX8_feed_83 : decode cX8_feed 83 = .ok (.bipush 8, 2) := by decide +kernel
theorem dX8_feed_85 : decode cX8_feed 85 = .ok (.iconst 3, 1) := by decide +kernel
theorem dX8_feed_86 : decode cX8_feed 86 = .ok (.iload 6, 2) := by decide +kernel
theorem dX8_feed_88 : decode cX8_feed 88 = .ok (.iconst 4, 1) := by decide +kernel
theorem dX8_feed_89 : decode cX8_feed 89 = .ok (.irem, 1) := by decide +kernel
theorem dX8_feed_90 : decode cX8_feed 90 = .ok (.isub, 1) := by decide +kernel
theorem dX8_feed_91 : decode cX8_feed 91 = .ok (.imul, 1) := by decide +kernel
theorem dX8_feed_92 : decode cX8_feed 92 = .ok (.ishr, 1) := by decide +kernel
theorem dX8_feed_93 : decode cX8_feed 93 = .ok (.sipush 255, 3) := by decide +kernel
theorem dX8_feed_96 : decode cX8_feed 96 = .ok (.iand, 1) := by decide +kernel
theorem dX8_feed_97 : decode cX8_feed 97 = .ok (.iastore, 1) := by decide +kernel
theorem dX8_feed_98 : decode cX8_feed 98 = .ok (.aload_n 0, 1) := by decide +kernel
theorem dX8_feed_99 : decode cX8_feed 99 = .ok (.dup, 1) := by decide +kernel
theorem dX8_feed_100 : decode cX8_feed 100 = .ok (.getfield 129, 3) := by decide +kernel
theorem dX8_feed_103 : decode cX8_feed 103 = .ok (.iconst 1, 1) := by decide +kernel
theorem dX8_feed_104 : decode cX8_feed 104 = .ok (.iadd, 1) := by decide +kernel
theorem dX8_feed_105 : decode cX8_feed 105 = .ok (.putfield 129, 3) := by decide +kernel
theorem dX8_feed_108 : decode cX8_feed 108 = .ok (.iinc 6 1, 3) := by decide +kernel
theorem dX8_feed_111 : decode cX8_feed 111 = .ok (.goto (-93), 3) := by decide +kernel
theorem dX8_feed_114 : decode cX8_feed 114 = .ok (.aload_n 0, 1) := by decide +kernel
theorem dX8_feed_115 : decode cX8_feed 115 = .ok (.getfield 129, 3) := by decide +kernel
theorem dX8_feed_118 : decode cX8_feed 118 = .ok (.ireturn, 1) := by decide +kernel
theorem dX8_end_0 : decode cX8_end 0 = .ok (.iload_n 1, 1) := by decide +kernel
theorem dX8_end_1 : decode cX8_end 1 = .ok (.ifCond .lt 11, 3) := by decide +kernel
theorem dX8_end_4 : decode cX8_end 4 = .ok (.iload_n 1, 1) := by decide +kernel
theorem dX8_end_5 : decode cX8_end 5 = .ok (.aload_n 0, 1) := by decide +kernel
theorem dX8_end_6 : decode cX8_end 6 = .ok (.getfield 129, 3) := by decide +kernel
theorem dX8_end_9 : decode cX8_end 9 = .ok (.if_icmp .le 5, 3) := by decide +kernel
theorem dX8_end_12 : decode cX8_end 12 = .ok (.iconst 0, 1) := by decide +kernel
theorem dX8_end_13 : decode cX8_end 13 = .ok (.ireturn, 1) := by decide +kernel
theorem dX8_end_14 : decode cX8_end 14 = .ok (.aload_n 0, 1) := by decide +kernel
theorem dX8_end_15 : decode cX8_end 15 = .ok (.iload_n 1, 1) := by decide +kernel
theorem dX8_end_16 : decode cX8_end 16 = .ok (.putfield 129, 3) := by decide +kernel
theorem dX8_end_19 : decode cX8_end 19 = .ok (.iconst 1, 1) := by decide +kernel
theorem dX8_end_20 : decode cX8_end 20 = .ok (.ireturn, 1) := by decide +kernel
theorem dX8_fail_0 : decode cX8_fail 0 = .ok (.aload_n 0, 1) := by decide +kernel
theorem dX8_fail_1 : decode cX8_fail 1 = .ok (.getfield 132, 3) := by decide +kernel
theorem dX8_fail_4 : decode cX8_fail 4 = .ok (.ifCond .eq 4, 3) := by decide +kernel
theorem dX8_fail_7 : decode cX8_fail 7 = .ok (.return_, 1) := by decide +kernel
theorem dX8_fail_8 : decode cX8_fail 8 = .ok (.aload_n 0, 1) := by decide +kernel
theorem dX8_fail_9 : decode cX8_fail 9 = .ok (.iload_n 1, 1) := by decide +kernel
theorem dX8_fail_10 : decode cX8_fail 10 = .ok (.putfield 132, 3) := by decide +kernel
theorem dX8_fail_13 : decode cX8_fail 13 = .ok (.aload_n 0, 1) := by decide +kernel
theorem dX8_fail_14 : decode cX8_fail 14 = .ok (.iload_n 2, 1) := by decide +kernel
theorem dX8_fail_15 : decode cX8_fail 15 = .ok (.putfield 135, 3) := by decide +kernel
theorem dX8_fail_18 : decode cX8_fail 18 = .ok (.return_, 1) := by decide +kernel
theorem dX8_isLetter_0 : decode cX8_isLetter 0 = .ok (.iload_n 0, 1) := by decide +kernel
theorem dX8_isLetter_1 : decode cX8_isLetter 1 = .ok (.bipush 97, 2) := by decide +kernel
theorem dX8_isLetter_3 : decode cX8_isLetter 3 = .ok (.if_icmp .lt 13, 3) := by decide +kernel
theorem dX8_isLetter_6 : decode cX8_isLetter 6 = .ok (.iload_n 0, 1) := by decide +kernel
theorem dX8_isLetter_7 : decode cX8_isLetter 7 = .ok (.bipush 122, 2) := by decide +kernel
theorem dX8_isLetter_9 : decode cX8_isLetter 9 = .ok (.if_icmp .gt 7, 3) := by decide +kernel
theorem dX8_isLetter_12 : decode cX8_isLetter 12 = .ok (.iconst 1, 1) := by decide +kernel
theorem dX8_isLetter_13 : decode cX8_isLetter 13 = .ok (.goto 4, 3) := by decide +kernel
theorem dX8_isLetter_16 : decode cX8_isLetter 16 = .ok (.iconst 0, 1) := by decide +kernel
theorem dX8_isLetter_17 : decode cX8_isLetter 17 = .ok (.ireturn, 1) := by decide +kernel
theorem dX8_isDigit_0 : decode cX8_isDigit 0 = .ok (.iload_n 0, 1) := by decide +kernel
theorem dX8_isDigit_1 : decode cX8_isDigit 1 = .ok (.bipush 48, 2) := by decide +kernel
theorem dX8_isDigit_3 : decode cX8_isDigit 3 = .ok (.if_icmp .lt 13, 3) := by decide +kernel
theorem dX8_isDigit_6 : decode cX8_isDigit 6 = .ok (.iload_n 0, 1) := by decide +kernel
theorem dX8_isDigit_7 : decode cX8_isDigit 7 = .ok (.bipush 57, 2) := by decide +kernel
theorem dX8_isDigit_9 : decode cX8_isDigit 9 = .ok (.if_icmp .gt 7, 3) := by decide +kernel
theorem dX8_isDigit_12 : decode cX8_isDigit 12 = .ok (.iconst 1, 1) := by decide +kernel
theorem dX8_isDigit_13 : decode cX8_isDigit 13 = .ok (.goto 4, 3) := by decide +kernel
theorem dX8_isDigit_16 : decode cX8_isDigit 16 = .ok (.iconst 0, 1) := by decide +kernel
theorem dX8_isDigit_17 : decode cX8_isDigit 17 = .ok (.ireturn, 1) := by decide +kernel
theorem dX8_next_0 : decode cX8_next 0 = .ok (.aload_n 0, 1) := by decide +kernel
theorem dX8_next_1 : decode cX8_next 1 = .ok (.getfield 138, 3) := by decide +kernel
theorem dX8_next_4 : decode cX8_next 4 = .ok (.aload_n 0, 1) := by decide +kernel
theorem dX8_next_5 : decode cX8_next 5 = .ok (.getfield 141, 3) := by decide +kernel
theorem dX8_next_8 : decode cX8_next 8 = .ok (.if_icmp .ge 44, 3) := by decide +kernel
theorem dX8_next_11 : decode cX8_next 11 = .ok (.aload_n 0, 1) := by decide +kernel
theorem dX8_next_12 : decode cX8_next 12 = .ok (.getfield 7, 3) := by decide +kernel
theorem dX8_next_15 : decode cX8_next 15 = .ok (.aload_n 0, 1) := by decide +kernel
theorem dX8_next_16 : decode cX8_next 16 = .ok (.getfield 138, 3) := by decide +kernel
theorem dX8_next_19 : decode cX8_next 19 = .ok (.iaload, 1) := by decide +kernel
theorem dX8_next_20 : decode cX8_next 20 = .ok (.bipush 10, 2) := by decide +kernel
theorem dX8_next_22 : decode cX8_next 22 = .ok (.if_icmp .eq 17, 3) := by decide +kernel
theorem dX8_next_25 : decode cX8_next 25 = .ok (.aload_n 0, 1) := by decide +kernel
theorem dX8_next_26 : decode cX8_next 26 = .ok (.getfield 7, 3) := by decide +kernel
theorem dX8_next_29 : decode cX8_next 29 = .ok (.aload_n 0, 1) := by decide +kernel
theorem dX8_next_30 : decode cX8_next 30 = .ok (.getfield 138, 3) := by decide +kernel
theorem dX8_next_33 : decode cX8_next 33 = .ok (.iaload, 1) := by decide +kernel
theorem dX8_next_34 : decode cX8_next 34 = .ok (.bipush 32, 2) := by decide +kernel
theorem dX8_next_36 : decode cX8_next 36 = .ok (.if_icmp .ne 16, 3) := by decide +kernel
theorem dX8_next_39 : decode cX8_next 39 = .ok (.aload_n 0, 1) := by decide +kernel
theorem dX8_next_40 : decode cX8_next 40 = .ok (.dup, 1) := by decide +kernel
theorem dX8_next_41 : decode cX8_next 41 = .ok (.getfield 138, 3) := by decide +kernel
theorem dX8_next_44 : decode cX8_next 44 = .ok (.iconst 1, 1) := by decide +kernel
theorem dX8_next_45 : decode cX8_next 45 = .ok (.iadd, 1) := by decide +kernel
theorem dX8_next_46 : decode cX8_next 46 = .ok (.putfield 138, 3) := by decide +kernel
theorem dX8_next_49 : decode cX8_next 49 = .ok (.goto (-49), 3) := by decide +kernel
theorem dX8_next_52 : decode cX8_next 52 = .ok (.aload_n 0, 1) := by decide +kernel
theorem dX8_next_53 : decode cX8_next 53 = .ok (.getfield 138, 3) := by decide +kernel
theorem dX8_next_56 : decode cX8_next 56 = .ok (.aload_n 0, 1) := by decide +kernel
theorem dX8_next_57 : decode cX8_next 57 = .ok (.getfield 141, 3) := by decide +kernel
theorem dX8_next_60 : decode cX8_next 60 = .ok (.if_icmp .ge 15, 3) := by decide +kernel
theorem dX8_next_63 : decode cX8_next 63 = .ok (.aload_n 0, 1) := by decide +kernel
theorem dX8_next_64 : decode cX8_next 64 = .ok (.getfield 7, 3) := by decide +kernel
theorem dX8_next_67 : decode cX8_next 67 = .ok (.aload_n 0, 1) := by decide +kernel
theorem dX8_next_68 : decode cX8_next 68 = .ok (.getfield 138, 3) := by decide +kernel
theorem dX8_next_71 : decode cX8_next 71 = .ok (.iaload, 1) := by decide +kernel
theorem dX8_next_72 : decode cX8_next 72 = .ok (.goto 4, 3) := by decide +kernel
theorem dX8_next_75 : decode cX8_next 75 = .ok (.iconst (-1), 1) := by decide +kernel
theorem dX8_next_76 : decode cX8_next 76 = .ok (.ireturn, 1) := by decide +kernel
theorem dX8_sign_0 : decode cX8_sign 0 = .ok (.aload_n 0, 1) := by decide +kernel
theorem dX8_sign_1 : decode cX8_sign 1 = .ok (.invokevirtual 144, 3) := by decide +kernel
theorem dX8_sign_4 : decode cX8_sign 4 = .ok (.iload_n 1, 1) := by decide +kernel
theorem dX8_sign_5 : decode cX8_sign 5 = .ok (.if_icmp .ne 16, 3) := by decide +kernel
theorem dX8_sign_8 : decode cX8_sign 8 = .ok (.aload_n 0, 1) := by decide +kernel
theorem dX8_sign_9 : decode cX8_sign 9 = .ok (.dup, 1) := by decide +kernel
theorem dX8_sign_10 : decode cX8_sign 10 = .ok (.getfield 138, 3) := by decide +kernel
theorem dX8_sign_13 : decode cX8_sign 13 = .ok (.iconst 1, 1) := by decide +kernel
theorem dX8_sign_14 : decode cX8_sign 14 = .ok (.iadd, 1) := by decide +kernel
theorem dX8_sign_15 : decode cX8_sign 15 = .ok (.putfield 138, 3) := by decide +kernel
theorem dX8_sign_18 : decode cX8_sign 18 = .ok (.goto 12, 3) := by decide +kernel
theorem dX8_sign_21 : decode cX8_sign 21 = .ok (.aload_n 0, 1) := by decide +kernel
theorem dX8_sign_22 : decode cX8_sign 22 = .ok (.iconst 1, 1) := by decide +kernel
theorem dX8_sign_23 : decode cX8_sign 23 = .ok (.aload_n 0, 1) := by decide +kernel
theorem dX8_sign_24 : decode cX8_sign 24 = .ok (.getfield 138, 3) := by decide +kernel
theorem dX8_sign_27 : decode cX8_sign 27 = .ok (.invokevirtual 148, 3) := by decide +kernel
theorem dX8_sign_30 : decode cX8_sign 30 = .ok (.return_, 1) := by decide +kernel
theorem dX8_word_0 : decode cX8_word 0 = .ok (.aload_n 0, 1) := by decide +kernel
theorem dX8_word_1 : decode cX8_word 1 = .ok (.invokevirtual 144, 3) := by decide +kernel
theorem dX8_word_4 : decode cX8_word 4 = .ok (.invokestatic 152, 3) := by decide +kernel
theorem dX8_word_7 : decode cX8_word 7 = .ok (.ifCond .ne 14, 3) := by decide +kernel
theorem dX8_word_10 : decode cX8_word 10 = .ok (.aload_n 0, 1) := by decide +kernel
theorem dX8_word_11 : decode cX8_word 11 = .ok (.iconst 1, 1) := by decide +kernel
theorem dX8_word_12 : decode cX8_word 12 = .ok (.aload_n 0, 1) := by decide +kernel
theorem dX8_word_13 : decode cX8_word 13 = .ok (.getfield 138, 3) := by decide +kernel
theorem dX8_word_16 : decode cX8_word 16 = .ok (.invokevirtual 148, 3) := by decide +kernel
theorem dX8_word_19 : decode cX8_word 19 = .ok (.lconst 0, 1) := by decide +kernel
theorem dX8_word_20 : decode cX8_word 20 = .ok (.lreturn, 1) := by decide +kernel
theorem dX8_word_21 : decode cX8_word 21 = .ok (.lconst 0, 1) := by decide +kernel
theorem dX8_word_22 : decode cX8_word 22 = .ok (.lstore_n 1, 1) := by decide +kernel
theorem dX8_word_23 : decode cX8_word 23 = .ok (.iconst 0, 1) := by decide +kernel
theorem dX8_word_24 : decode cX8_word 24 = .ok (.istore_n 3, 1) := by decide +kernel
theorem dX8_word_25 : decode cX8_word 25 = .ok (.aload_n 0, 1) := by decide +kernel
theorem dX8_word_26 : decode cX8_word 26 = .ok (.getfield 138, 3) := by decide +kernel
theorem dX8_word_29 : decode cX8_word 29 = .ok (.aload_n 0, 1) := by decide +kernel
theorem dX8_word_30 : decode cX8_word 30 = .ok (.getfield 141, 3) := by decide +kernel
theorem dX8_word_33 : decode cX8_word 33 = .ok (.if_icmp .ge 81, 3) := by decide +kernel
theorem dX8_word_36 : decode cX8_word 36 = .ok (.aload_n 0, 1) := by decide +kernel
theorem dX8_word_37 : decode cX8_word 37 = .ok (.getfield 7, 3) := by decide +kernel
theorem dX8_word_40 : decode cX8_word 40 = .ok (.aload_n 0, 1) := by decide +kernel
theorem dX8_word_41 : decode cX8_word 41 = .ok (.getfield 138, 3) := by decide +kernel
theorem dX8_word_44 : decode cX8_word 44 = .ok (.iaload, 1) := by decide +kernel
theorem dX8_word_45 : decode cX8_word 45 = .ok (.invokestatic 152, 3) := by decide +kernel
theorem dX8_word_48 : decode cX8_word 48 = .ok (.ifCond .eq 66, 3) := by decide +kernel
end
section
theorem dX8_word_51 : decode cX8_word 51 = .ok (.aload_n 0, 1) := by decide +kernel
theorem dX8_word_52 : decode cX8_word 52 = .ok (.getfield 132, 3) := by decide +kernel
theorem dX8_word_55 : decode cX8_word 55 = .ok (.ifCond .ne 59, 3) := by decide +kernel
theorem dX8_word_58 : decode cX8_word 58 = .ok (.iload_n 3, 1) := by decide +kernel
theorem dX8_word_59 : decode cX8_word 59 = .ok (.bipush 8, 2) := by decide +kernel
theorem dX8_word_61 : decode cX8_word 61 = .ok (.if_icmp .ne 14, 3) := by decide +kernel
theorem dX8_word_64 : decode cX8_word 64 = .ok (.aload_n 0, 1) := by decide +kernel
theorem dX8_word_65 : decode cX8_word 65 = .ok (.iconst 1, 1) := by decide +kernel
theorem dX8_word_66 : decode cX8_word 66 = .ok (.aload_n 0, 1) := by decide +kernel
theorem dX8_word_67 : decode cX8_word 67 = .ok (.getfield 138, 3) := by decide +kernel
theorem dX8_word_70 : decode cX8_word 70 = .ok (.invokevirtual 148, 3) := by decide +kernel
theorem dX8_word_73 : decode cX8_word 73 = .ok (.lconst 0, 1) := by decide +kernel
theorem dX8_word_74 : decode cX8_word 74 = .ok (.lreturn, 1) := by decide +kernel
theorem dX8_word_75 : decode cX8_word 75 = .ok (.ldc2_w 156, 3) := by decide +kernel
theorem dX8_word_78 : decode cX8_word 78 = .ok (.lload_n 1, 1) := by decide +kernel
theorem dX8_word_79 : decode cX8_word 79 = .ok (.lmul, 1) := by decide +kernel
theorem dX8_word_80 : decode cX8_word 80 = .ok (.aload_n 0, 1) := by decide +kernel
theorem dX8_word_81 : decode cX8_word 81 = .ok (.getfield 7, 3) := by decide +kernel
theorem dX8_word_84 : decode cX8_word 84 = .ok (.aload_n 0, 1) := by decide +kernel
theorem dX8_word_85 : decode cX8_word 85 = .ok (.getfield 138, 3) := by decide +kernel
theorem dX8_word_88 : decode cX8_word 88 = .ok (.iaload, 1) := by decide +kernel
theorem dX8_word_89 : decode cX8_word 89 = .ok (.i2l, 1) := by decide +kernel
theorem dX8_word_90 : decode cX8_word 90 = .ok (.ladd, 1) := by decide +kernel
theorem dX8_word_91 : decode cX8_word 91 = .ok (.ldc2_w 158, 3) := by decide +kernel
theorem dX8_word_94 : decode cX8_word 94 = .ok (.lsub, 1) := by decide +kernel
theorem dX8_word_95 : decode cX8_word 95 = .ok (.lconst 1, 1) := by decide +kernel
theorem dX8_word_96 : decode cX8_word 96 = .ok (.ladd, 1) := by decide +kernel
theorem dX8_word_97 : decode cX8_word 97 = .ok (.lstore_n 1, 1) := by decide +kernel
theorem dX8_word_98 : decode cX8_word 98 = .ok (.iinc 3 1, 3) := by decide +kernel
theorem dX8_word_101 : decode cX8_word 101 = .ok (.aload_n 0, 1) := by decide +kernel
theorem dX8_word_102 : decode cX8_word 102 = .ok (.dup, 1) := by decide +kernel
theorem dX8_word_103 : decode cX8_word 103 = .ok (.getfield 138, 3) := by decide +kernel
theorem dX8_word_106 : decode cX8_word 106 = .ok (.iconst 1, 1) := by decide +kernel
theorem dX8_word_107 : decode cX8_word 107 = .ok (.iadd, 1) := by decide +kernel
theorem dX8_word_108 : decode cX8_word 108 = .ok (.putfield 138, 3) := by decide +kernel
theorem dX8_word_111 : decode cX8_word 111 = .ok (.goto (-86), 3) := by decide +kernel
theorem dX8_word_114 : decode cX8_word 114 = .ok (.lload_n 1, 1) := by decide +kernel
theorem dX8_word_115 : decode cX8_word 115 = .ok (.lreturn, 1) := by decide +kernel
theorem dX8_whole_0 : decode cX8_whole 0 = .ok (.aload_n 0, 1) := by decide +kernel
theorem dX8_whole_1 : decode cX8_whole 1 = .ok (.invokevirtual 144, 3) := by decide +kernel
theorem dX8_whole_4 : decode cX8_whole 4 = .ok (.invokestatic 152, 3) := by decide +kernel
theorem dX8_whole_7 : decode cX8_whole 7 = .ok (.ifCond .ne 14, 3) := by decide +kernel
theorem dX8_whole_10 : decode cX8_whole 10 = .ok (.aload_n 0, 1) := by decide +kernel
theorem dX8_whole_11 : decode cX8_whole 11 = .ok (.iconst 1, 1) := by decide +kernel
theorem dX8_whole_12 : decode cX8_whole 12 = .ok (.aload_n 0, 1) := by decide +kernel
theorem dX8_whole_13 : decode cX8_whole 13 = .ok (.getfield 138, 3) := by decide +kernel
theorem dX8_whole_16 : decode cX8_whole 16 = .ok (.invokevirtual 148, 3) := by decide +kernel
theorem dX8_whole_19 : decode cX8_whole 19 = .ok (.lconst 0, 1) := by decide +kernel
theorem dX8_whole_20 : decode cX8_whole 20 = .ok (.lreturn, 1) := by decide +kernel
theorem dX8_whole_21 : decode cX8_whole 21 = .ok (.lconst 0, 1) := by decide +kernel
theorem dX8_whole_22 : decode cX8_whole 22 = .ok (.lstore_n 1, 1) := by decide +kernel
theorem dX8_whole_23 : decode cX8_whole 23 = .ok (.iconst 0, 1) := by decide +kernel
theorem dX8_whole_24 : decode cX8_whole 24 = .ok (.istore_n 3, 1) := by decide +kernel
theorem dX8_whole_25 : decode cX8_whole 25 = .ok (.aload_n 0, 1) := by decide +kernel
theorem dX8_whole_26 : decode cX8_whole 26 = .ok (.getfield 138, 3) := by decide +kernel
theorem dX8_whole_29 : decode cX8_whole 29 = .ok (.aload_n 0, 1) := by decide +kernel
theorem dX8_whole_30 : decode cX8_whole 30 = .ok (.getfield 141, 3) := by decide +kernel
theorem dX8_whole_33 : decode cX8_whole 33 = .ok (.if_icmp .ge 63, 3) := by decide +kernel
theorem dX8_whole_36 : decode cX8_whole 36 = .ok (.aload_n 0, 1) := by decide +kernel
theorem dX8_whole_37 : decode cX8_whole 37 = .ok (.getfield 7, 3) := by decide +kernel
theorem dX8_whole_40 : decode cX8_whole 40 = .ok (.aload_n 0, 1) := by decide +kernel
theorem dX8_whole_41 : decode cX8_whole 41 = .ok (.getfield 138, 3) := by decide +kernel
theorem dX8_whole_44 : decode cX8_whole 44 = .ok (.iaload, 1) := by decide +kernel
theorem dX8_whole_45 : decode cX8_whole 45 = .ok (.invokestatic 152, 3) := by decide +kernel
theorem dX8_whole_48 : decode cX8_whole 48 = .ok (.ifCond .eq 48, 3) := by decide +kernel
theorem dX8_whole_51 : decode cX8_whole 51 = .ok (.iload_n 3, 1) := by decide +kernel
theorem dX8_whole_52 : decode cX8_whole 52 = .ok (.bipush 8, 2) := by decide +kernel
theorem dX8_whole_54 : decode cX8_whole 54 = .ok (.if_icmp .ge 26, 3) := by decide +kernel
theorem dX8_whole_57 : decode cX8_whole 57 = .ok (.ldc2_w 156, 3) := by decide +kernel
theorem dX8_whole_60 : decode cX8_whole 60 = .ok (.lload_n 1, 1) := by decide +kernel
theorem dX8_whole_61 : decode cX8_whole 61 = .ok (.lmul, 1) := by decide +kernel
theorem dX8_whole_62 : decode cX8_whole 62 = .ok (.aload_n 0, 1) := by decide +kernel
theorem dX8_whole_63 : decode cX8_whole 63 = .ok (.getfield 7, 3) := by decide +kernel
theorem dX8_whole_66 : decode cX8_whole 66 = .ok (.aload_n 0, 1) := by decide +kernel
theorem dX8_whole_67 : decode cX8_whole 67 = .ok (.getfield 138, 3) := by decide +kernel
theorem dX8_whole_70 : decode cX8_whole 70 = .ok (.iaload, 1) := by decide +kernel
theorem dX8_whole_71 : decode cX8_whole 71 = .ok (.i2l, 1) := by decide +kernel
theorem dX8_whole_72 : decode cX8_whole 72 = .ok (.ladd, 1) := by decide +kernel
theorem dX8_whole_73 : decode cX8_whole 73 = .ok (.ldc2_w 158, 3) := by decide +kernel
theorem dX8_whole_76 : decode cX8_whole 76 = .ok (.lsub, 1) := by decide +kernel
theorem dX8_whole_77 : decode cX8_whole 77 = .ok (.lconst 1, 1) := by decide +kernel
theorem dX8_whole_78 : decode cX8_whole 78 = .ok (.ladd, 1) := by decide +kernel
theorem dX8_whole_79 : decode cX8_whole 79 = .ok (.lstore_n 1, 1) := by decide +kernel
theorem dX8_whole_80 : decode cX8_whole 80 = .ok (.iinc 3 1, 3) := by decide +kernel
theorem dX8_whole_83 : decode cX8_whole 83 = .ok (.aload_n 0, 1) := by decide +kernel
theorem dX8_whole_84 : decode cX8_whole 84 = .ok (.dup, 1) := by decide +kernel
theorem dX8_whole_85 : decode cX8_whole 85 = .ok (.getfield 138, 3) := by decide +kernel
theorem dX8_whole_88 : decode cX8_whole 88 = .ok (.iconst 1, 1) := by decide +kernel
theorem dX8_whole_89 : decode cX8_whole 89 = .ok (.iadd, 1) := by decide +kernel
theorem dX8_whole_90 : decode cX8_whole 90 = .ok (.putfield 138, 3) := by decide +kernel
theorem dX8_whole_93 : decode cX8_whole 93 = .ok (.goto (-68), 3) := by decide +kernel
theorem dX8_whole_96 : decode cX8_whole 96 = .ok (.iload_n 3, 1) := by decide +kernel
theorem dX8_whole_97 : decode cX8_whole 97 = .ok (.bipush 8, 2) := by decide +kernel
theorem dX8_whole_99 : decode cX8_whole 99 = .ok (.if_icmp .le 9, 3) := by decide +kernel
theorem dX8_whole_102 : decode cX8_whole 102 = .ok (.ldc2_w 160, 3) := by decide +kernel
theorem dX8_whole_105 : decode cX8_whole 105 = .ok (.goto 4, 3) := by decide +kernel
theorem dX8_whole_108 : decode cX8_whole 108 = .ok (.lload_n 1, 1) := by decide +kernel
theorem dX8_whole_109 : decode cX8_whole 109 = .ok (.lreturn, 1) := by decide +kernel
theorem dX8_packed_0 : decode cX8_packed 0 = .ok (.ldc2_w 156, 3) := by decide +kernel
theorem dX8_packed_3 : decode cX8_packed 3 = .ok (.ldc2_w 156, 3) := by decide +kernel
theorem dX8_packed_6 : decode cX8_packed 6 = .ok (.iload_n 0, 1) := by decide +kernel
theorem dX8_packed_7 : decode cX8_packed 7 = .ok (.bipush 97, 2) := by decide +kernel
theorem dX8_packed_9 : decode cX8_packed 9 = .ok (.isub, 1) := by decide +kernel
theorem dX8_packed_10 : decode cX8_packed 10 = .ok (.i2l, 1) := by decide +kernel
theorem dX8_packed_11 : decode cX8_packed 11 = .ok (.lconst 1, 1) := by decide +kernel
theorem dX8_packed_12 : decode cX8_packed 12 = .ok (.ladd, 1) := by decide +kernel
theorem dX8_packed_13 : decode cX8_packed 13 = .ok (.lmul, 1) := by decide +kernel
theorem dX8_packed_14 : decode cX8_packed 14 = .ok (.iload_n 1, 1) := by decide +kernel
theorem dX8_packed_15 : decode cX8_packed 15 = .ok (.i2l, 1) := by decide +kernel
theorem dX8_packed_16 : decode cX8_packed 16 = .ok (.ladd, 1) := by decide +kernel
theorem dX8_packed_17 : decode cX8_packed 17 = .ok (.ldc2_w 158, 3) := by decide +kernel
theorem dX8_packed_20 : decode cX8_packed 20 = .ok (.lsub, 1) := by decide +kernel
theorem dX8_packed_21 : decode cX8_packed 21 = .ok (.lconst 1, 1) := by decide +kernel
theorem dX8_packed_22 : decode cX8_packed 22 = .ok (.ladd, 1) := by decide +kernel
theorem dX8_packed_23 : decode cX8_packed 23 = .ok (.lmul, 1) := by decide +kernel
theorem dX8_packed_24 : decode cX8_packed 24 = .ok (.iload_n 2, 1) := by decide +kernel
theorem dX8_packed_25 : decode cX8_packed 25 = .ok (.i2l, 1) := by decide +kernel
theorem dX8_packed_26 : decode cX8_packed 26 = .ok (.ladd, 1) := by decide +kernel
theorem dX8_packed_27 : decode cX8_packed 27 = .ok (.ldc2_w 158, 3) := by decide +kernel
theorem dX8_packed_30 : decode cX8_packed 30 = .ok (.lsub, 1) := by decide +kernel
theorem dX8_packed_31 : decode cX8_packed 31 = .ok (.lconst 1, 1) := by decide +kernel
theorem dX8_packed_32 : decode cX8_packed 32 = .ok (.ladd, 1) := by decide +kernel
theorem dX8_packed_33 : decode cX8_packed 33 = .ok (.lstore 4, 2) := by decide +kernel
theorem dX8_packed_35 : decode cX8_packed 35 = .ok (.iload_n 3, 1) := by decide +kernel
theorem dX8_packed_36 : decode cX8_packed 36 = .ok (.bipush 32, 2) := by decide +kernel
theorem dX8_packed_38 : decode cX8_packed 38 = .ok (.if_icmp .ne 8, 3) := by decide +kernel
theorem dX8_packed_41 : decode cX8_packed 41 = .ok (.lload 4, 2) := by decide +kernel
theorem dX8_packed_43 : decode cX8_packed 43 = .ok (.goto 18, 3) := by decide +kernel
theorem dX8_packed_46 : decode cX8_packed 46 = .ok (.ldc2_w 156, 3) := by decide +kernel
theorem dX8_packed_49 : decode cX8_packed 49 = .ok (.lload 4, 2) := by decide +kernel
theorem dX8_packed_51 : decode cX8_packed 51 = .ok (.lmul, 1) := by decide +kernel
theorem dX8_packed_52 : decode cX8_packed 52 = .ok (.iload_n 3, 1) := by decide +kernel
theorem dX8_packed_53 : decode cX8_packed 53 = .ok (.i2l, 1) := by decide +kernel
theorem dX8_packed_54 : decode cX8_packed 54 = .ok (.ladd, 1) := by decide +kernel
theorem dX8_packed_55 : decode cX8_packed 55 = .ok (.ldc2_w 158, 3) := by decide +kernel
theorem dX8_packed_58 : decode cX8_packed 58 = .ok (.lsub, 1) := by decide +kernel
theorem dX8_packed_59 : decode cX8_packed 59 = .ok (.lconst 1, 1) := by decide +kernel
theorem dX8_packed_60 : decode cX8_packed 60 = .ok (.ladd, 1) := by decide +kernel
theorem dX8_packed_61 : decode cX8_packed 61 = .ok (.lreturn, 1) := by decide +kernel
theorem dX8_isOwn_0 : decode cX8_isOwn 0 = .ok (.lload_n 1, 1) := by decide +kernel
theorem dX8_isOwn_1 : decode cX8_isOwn 1 = .ok (.aload_n 0, 1) := by decide +kernel
theorem dX8_isOwn_2 : decode cX8_isOwn 2 = .ok (.getfield 21, 3) := by decide +kernel
theorem dX8_isOwn_5 : decode cX8_isOwn 5 = .ok (.lcmp, 1) := by decide +kernel
theorem dX8_isOwn_6 : decode cX8_isOwn 6 = .ok (.ifCond .eq 39, 3) := by decide +kernel
theorem dX8_isOwn_9 : decode cX8_isOwn 9 = .ok (.lload_n 1, 1) := by decide +kernel
theorem dX8_isOwn_10 : decode cX8_isOwn 10 = .ok (.aload_n 0, 1) := by decide +kernel
theorem dX8_isOwn_11 : decode cX8_isOwn 11 = .ok (.getfield 25, 3) := by decide +kernel
theorem dX8_isOwn_14 : decode cX8_isOwn 14 = .ok (.lcmp, 1) := by decide +kernel
theorem dX8_isOwn_15 : decode cX8_isOwn 15 = .ok (.ifCond .eq 30, 3) := by decide +kernel
theorem dX8_isOwn_18 : decode cX8_isOwn 18 = .ok (.lload_n 1, 1) := by decide +kernel
theorem dX8_isOwn_19 : decode cX8_isOwn 19 = .ok (.aload_n 0, 1) := by decide +kernel
theorem dX8_isOwn_20 : decode cX8_isOwn 20 = .ok (.getfield 28, 3) := by decide +kernel
theorem dX8_isOwn_23 : decode cX8_isOwn 23 = .ok (.lcmp, 1) := by decide +kernel
theorem dX8_isOwn_24 : decode cX8_isOwn 24 = .ok (.ifCond .eq 21, 3) := by decide +kernel
theorem dX8_isOwn_27 : decode cX8_isOwn 27 = .ok (.lload_n 1, 1) := by decide +kernel
theorem dX8_isOwn_28 : decode cX8_isOwn 28 = .ok (.aload_n 0, 1) := by decide +kernel
theorem dX8_isOwn_29 : decode cX8_isOwn 29 = .ok (.getfield 31, 3) := by decide +kernel
theorem dX8_isOwn_32 : decode cX8_isOwn 32 = .ok (.lcmp, 1) := by decide +kernel
theorem dX8_isOwn_33 : decode cX8_isOwn 33 = .ok (.ifCond .eq 12, 3) := by decide +kernel
theorem dX8_isOwn_36 : decode cX8_isOwn 36 = .ok (.lload_n 1, 1) := by decide +kernel
theorem dX8_isOwn_37 : decode cX8_isOwn 37 = .ok (.aload_n 0, 1) := by decide +kernel
theorem dX8_isOwn_38 : decode cX8_isOwn 38 = .ok (.getfield 34, 3) := by decide +kernel
theorem dX8_isOwn_41 : decode cX8_isOwn 41 = .ok (.lcmp, 1) := by decide +kernel
theorem dX8_isOwn_42 : decode cX8_isOwn 42 = .ok (.ifCond .ne 7, 3) := by decide +kernel
theorem dX8_isOwn_45 : decode cX8_isOwn 45 = .ok (.iconst 1, 1) := by decide +kernel
theorem dX8_isOwn_46 : decode cX8_isOwn 46 = .ok (.goto 4, 3) := by decide +kernel
theorem dX8_isOwn_49 : decode cX8_isOwn 49 = .ok (.iconst 0, 1) := by decide +kernel
theorem dX8_isOwn_50 : decode cX8_isOwn 50 = .ok (.ireturn, 1) := by decide +kernel
theorem dX8_begins_0 : decode cX8_begins 0 = .ok (.aload_n 0, 1) := by decide +kernel
theorem dX8_begins_1 : decode cX8_begins 1 = .ok (.iconst 0, 1) := by decide +kernel
theorem dX8_begins_2 : decode cX8_begins 2 = .ok (.putfield 138, 3) := by decide +kernel
theorem dX8_begins_5 : decode cX8_begins 5 = .ok (.aload_n 0, 1) := by decide +kernel
theorem dX8_begins_6 : decode cX8_begins 6 = .ok (.aload_n 0, 1) := by decide +kernel
theorem dX8_begins_7 : decode cX8_begins 7 = .ok (.getfield 129, 3) := by decide +kernel
theorem dX8_begins_10 : decode cX8_begins 10 = .ok (.putfield 141, 3) := by decide +kernel
theorem dX8_begins_13 : decode cX8_begins 13 = .ok (.aload_n 0, 1) := by decide +kernel
theorem dX8_begins_14 : decode cX8_begins 14 = .ok (.iconst 0, 1) := by decide +kernel
theorem dX8_begins_15 : decode cX8_begins 15 = .ok (.putfield 129, 3) := by decide +kernel
theorem dX8_begins_18 : decode cX8_begins 18 = .ok (.aload_n 0, 1) := by decide +kernel
theorem dX8_begins_19 : decode cX8_begins 19 = .ok (.iconst 0, 1) := by decide +kernel
theorem dX8_begins_20 : decode cX8_begins 20 = .ok (.putfield 132, 3) := by decide +kernel
theorem dX8_begins_23 : decode cX8_begins 23 = .ok (.aload_n 0, 1) := by decide +kernel
theorem dX8_begins_24 : decode cX8_begins 24 = .ok (.iconst (-1), 1) := by decide +kernel
theorem dX8_begins_25 : decode cX8_begins 25 = .ok (.putfield 135, 3) := by decide +kernel
theorem dX8_begins_28 : decode cX8_begins 28 = .ok (.return_, 1) := by decide +kernel
theorem dX8_told_0 : decode cX8_told 0 = .ok (.aload_n 0, 1) := by decide +kernel
theorem dX8_told_1 : decode cX8_told 1 = .ok (.aload_n 0, 1) := by decide +kernel
theorem dX8_told_2 : decode cX8_told 2 = .ok (.getfield 132, 3) := by decide +kernel
theorem dX8_told_5 : decode cX8_told 5 = .ok (.putfield 162, 3) := by decide +kernel
theorem dX8_told_8 : decode cX8_told 8 = .ok (.aload_n 0, 1) := by decide +kernel
theorem dX8_told_9 : decode cX8_told 9 = .ok (.aload_n 0, 1) := by decide +kernel
theorem dX8_told_10 : decode cX8_told 10 = .ok (.getfield 135, 3) := by decide +kernel
theorem dX8_told_13 : decode cX8_told 13 = .ok (.putfield 13, 3) := by decide +kernel
theorem dX8_told_16 : decode cX8_told 16 = .ok (.return_, 1) := by decide +kernel
theorem dX8_marks_0 : decode cX8_marks 0 = .ok (.aload_n 0, 1) := by decide +kernel
theorem dX8_marks_1 : decode cX8_marks 1 = .ok (.invokevirtual 144, 3) := by decide +kernel
theorem dX8_marks_4 : decode cX8_marks 4 = .ok (.pop, 1) := by decide +kernel
theorem dX8_marks_5 : decode cX8_marks 5 = .ok (.aload_n 0, 1) := by decide +kernel
theorem dX8_marks_6 : decode cX8_marks 6 = .ok (.getfield 138, 3) := by decide +kernel
theorem dX8_marks_9 : decode cX8_marks 9 = .ok (.istore_n 2, 1) := by decide +kernel
theorem dX8_marks_10 : decode cX8_marks 10 = .ok (.aload_n 0, 1) := by decide +kernel
theorem dX8_marks_11 : decode cX8_marks 11 = .ok (.invokevirtual 165, 3) := by decide +kernel
theorem dX8_marks_14 : decode cX8_marks 14 = .ok (.lstore_n 3, 1) := by decide +kernel
theorem dX8_marks_15 : decode cX8_marks 15 = .ok (.aload_n 0, 1) := by decide +kernel
theorem dX8_marks_16 : decode cX8_marks 16 = .ok (.getfield 132, 3) := by decide +kernel
theorem dX8_marks_19 : decode cX8_marks 19 = .ok (.ifCond .ne 36, 3) := by decide +kernel
theorem dX8_marks_22 : decode cX8_marks 22 = .ok (.lload_n 3, 1) := by decide +kernel
theorem dX8_marks_23 : decode cX8_marks 23 = .ok (.aload_n 0, 1) := by decide +kernel
theorem dX8_marks_24 : decode cX8_marks 24 = .ok (.getfield 28, 3) := by decide +kernel
theorem dX8_marks_27 : decode cX8_marks 27 = .ok (.lcmp, 1) := by decide +kernel
theorem dX8_marks_28 : decode cX8_marks 28 = .ok (.ifCond .eq 27, 3) := by decide +kernel
theorem dX8_marks_31 : decode cX8_marks 31 = .ok (.lload_n 3, 1) := by decide +kernel
theorem dX8_marks_32 : decode cX8_marks 32 = .ok (.aload_n 0, 1) := by decide +kernel
theorem dX8_marks_33 : decode cX8_marks 33 = .ok (.getfield 31, 3) := by decide +kernel
theorem dX8_marks_36 : decode cX8_marks 36 = .ok (.lcmp, 1) := by decide +kernel
theorem dX8_marks_37 : decode cX8_marks 37 = .ok (.ifCond .eq 18, 3) := by decide +kernel
theorem dX8_marks_40 : decode cX8_marks 40 = .ok (.lload_n 3, 1) := by decide +kernel
theorem dX8_marks_41 : decode cX8_marks 41 = .ok (.aload_n 0, 1) := by decide +kernel
theorem dX8_marks_42 : decode cX8_marks 42 = .ok (.getfield 34, 3) := by decide +kernel
theorem dX8_marks_45 : decode cX8_marks 45 = .ok (.lcmp, 1) := by decide +kernel
theorem dX8_marks_46 : decode cX8_marks 46 = .ok (.ifCond .eq 9, 3) := by decide +kernel
theorem dX8_marks_49 : decode cX8_marks 49 = .ok (.aload_n 0, 1) := by decide +kernel
theorem dX8_marks_50 : decode cX8_marks 50 = .ok (.iconst 1, 1) := by decide +kernel
theorem dX8_marks_51 : decode cX8_marks 51 = .ok (.iload_n 2, 1) := by decide +kernel
theorem dX8_marks_52 : decode cX8_marks 52 = .ok (.invokevirtual 148, 3) := by decide +kernel
theorem dX8_marks_55 : decode cX8_marks 55 = .ok (.aload_n 0, 1) := by decide +kernel
theorem dX8_marks_56 : decode cX8_marks 56 = .ok (.getfield 62, 3) := by decide +kernel
theorem dX8_marks_59 : decode cX8_marks 59 = .ok (.iload_n 1, 1) := by decide +kernel
theorem dX8_marks_60 : decode cX8_marks 60 = .ok (.lload_n 3, 1) := by decide +kernel
theorem dX8_marks_61 : decode cX8_marks 61 = .ok (.aload_n 0, 1) := by decide +kernel
theorem dX8_marks_62 : decode cX8_marks 62 = .ok (.getfield 28, 3) := by decide +kernel
theorem dX8_marks_65 : decode cX8_marks 65 = .ok (.lcmp, 1) := by decide +kernel
theorem dX8_marks_66 : decode cX8_marks 66 = .ok (.ifCond .ne 7, 3) := by decide +kernel
theorem dX8_marks_69 : decode cX8_marks 69 = .ok (.iconst 0, 1) := by decide +kernel
theorem dX8_marks_70 : decode cX8_marks 70 = .ok (.goto 17, 3) := by decide +kernel
theorem dX8_marks_73 : decode cX8_marks 73 = .ok (.lload_n 3, 1) := by decide +kernel
theorem dX8_marks_74 : decode cX8_marks 74 = .ok (.aload_n 0, 1) := by decide +kernel
theorem dX8_marks_75 : decode cX8_marks 75 = .ok (.getfield 31, 3) := by decide +kernel
theorem dX8_marks_78 : decode cX8_marks 78 = .ok (.lcmp, 1) := by decide +kernel
theorem dX8_marks_79 : decode cX8_marks 79 = .ok (.ifCond .ne 7, 3) := by decide +kernel
theorem dX8_marks_82 : decode cX8_marks 82 = .ok (.iconst 1, 1) := by decide +kernel
theorem dX8_marks_83 : decode cX8_marks 83 = .ok (.goto 4, 3) := by decide +kernel
theorem dX8_marks_86 : decode cX8_marks 86 = .ok (.iconst 2, 1) := by decide +kernel
theorem dX8_marks_87 : decode cX8_marks 87 = .ok (.iastore, 1) := by decide +kernel
theorem dX8_marks_88 : decode cX8_marks 88 = .ok (.aload_n 0, 1) := by decide +kernel
theorem dX8_marks_89 : decode cX8_marks 89 = .ok (.getfield 132, 3) := by decide +kernel
theorem dX8_marks_92 : decode cX8_marks 92 = .ok (.ifCond .ne 9, 3) := by decide +kernel
theorem dX8_marks_95 : decode cX8_marks 95 = .ok (.aload_n 0, 1) := by decide +kernel
theorem dX8_marks_96 : decode cX8_marks 96 = .ok (.bipush 59, 2) := by decide +kernel
theorem dX8_marks_98 : decode cX8_marks 98 = .ok (.invokevirtual 169, 3) := by decide +kernel
theorem dX8_marks_101 : decode cX8_marks 101 = .ok (.return_, 1) := by decide +kernel
theorem dX8_field_0 : decode cX8_field 0 = .ok (.aload_n 0, 1) := by decide +kernel
theorem dX8_field_1 : decode cX8_field 1 = .ok (.invokevirtual 144, 3) := by decide +kernel
theorem dX8_field_4 : decode cX8_field 4 = .ok (.pop, 1) := by decide +kernel
theorem dX8_field_5 : decode cX8_field 5 = .ok (.aload_n 0, 1) := by decide +kernel
theorem dX8_field_6 : decode cX8_field 6 = .ok (.getfield 138, 3) := by decide +kernel
theorem dX8_field_9 : decode cX8_field 9 = .ok (.istore_n 1, 1) := by decide +kernel
theorem dX8_field_10 : decode cX8_field 10 = .ok (.aload_n 0, 1) := by decide +kernel
theorem dX8_field_11 : decode cX8_field 11 = .ok (.invokevirtual 173, 3) := by decide +kernel
theorem dX8_field_14 : decode cX8_field 14 = .ok (.lstore_n 2, 1) := by decide +kernel
theorem dX8_field_15 : decode cX8_field 15 = .ok (.aload_n 0, 1) := by decide +kernel
theorem dX8_field_16 : decode cX8_field 16 = .ok (.getfield 132, 3) := by decide +kernel
theorem dX8_field_19 : decode cX8_field 19 = .ok (.ifCond .ne 17, 3) := by decide +kernel
theorem dX8_field_22 : decode cX8_field 22 = .ok (.aload_n 0, 1) := by decide +kernel
theorem dX8_field_23 : decode cX8_field 23 = .ok (.lload_n 2, 1) := by decide +kernel
theorem dX8_field_24 : decode cX8_field 24 = .ok (.invokevirtual 176, 3) := by decide +kernel
theorem dX8_field_27 : decode cX8_field 27 = .ok (.ifCond .eq 9, 3) := by decide +kernel
theorem dX8_field_30 : decode cX8_field 30 = .ok (.aload_n 0, 1) := by decide +kernel
theorem dX8_field_31 : decode cX8_field 31 = .ok (.iconst 1, 1) := by decide +kernel
theorem dX8_field_32 : decode cX8_field 32 = .ok (.iload_n 1, 1) := by decide +kernel
theorem dX8_field_33 : decode cX8_field 33 = .ok (.invokevirtual 148, 3) := by decide +kernel
theorem dX8_field_36 : decode cX8_field 36 = .ok (.aload_n 0, 1) := by decide +kernel
theorem dX8_field_37 : decode cX8_field 37 = .ok (.getfield 68, 3) := by decide +kernel
theorem dX8_field_40 : decode cX8_field 40 = .ok (.aload_n 0, 1) := by decide +kernel
theorem dX8_field_41 : decode cX8_field 41 = .ok (.getfield 180, 3) := by decide +kernel
theorem dX8_field_44 : decode cX8_field 44 = .ok (.iaload, 1) := by decide +kernel
theorem dX8_field_45 : decode cX8_field 45 = .ok (.istore 4, 2) := by decide +kernel
theorem dX8_field_47 : decode cX8_field 47 = .ok (.iconst 0, 1) := by decide +kernel
theorem dX8_field_48 : decode cX8_field 48 = .ok (.istore 5, 2) := by decide +kernel
theorem dX8_field_50 : decode cX8_field 50 = .ok (.iload 5, 2) := by decide +kernel
theorem dX8_field_52 : decode cX8_field 52 = .ok (.aload_n 0, 1) := by decide +kernel
theorem dX8_field_53 : decode cX8_field 53 = .ok (.getfield 183, 3) := by decide +kernel
theorem dX8_field_56 : decode cX8_field 56 = .ok (.if_icmp .ge 46, 3) := by decide +kernel
theorem dX8_field_59 : decode cX8_field 59 = .ok (.aload_n 0, 1) := by decide +kernel
theorem dX8_field_60 : decode cX8_field 60 = .ok (.getfield 132, 3) := by decide +kernel
theorem dX8_field_63 : decode cX8_field 63 = .ok (.ifCond .ne 39, 3) := by decide +kernel
theorem dX8_field_66 : decode cX8_field 66 = .ok (.aload_n 0, 1) := by decide +kernel
theorem dX8_field_67 : decode cX8_field 67 = .ok (.getfield 53, 3) := by decide +kernel
theorem dX8_field_70 : decode cX8_field 70 = .ok (.iload 5, 2) := by decide +kernel
theorem dX8_field_72 : decode cX8_field 72 = .ok (.iaload, 1) := by decide +kernel
theorem dX8_field_73 : decode cX8_field 73 = .ok (.iload 4, 2) := by decide +kernel
theorem dX8_field_75 : decode cX8_field 75 = .ok (.if_icmp .ne 21, 3) := by decide +kernel
theorem dX8_field_78 : decode cX8_field 78 = .ok (.aload_n 0, 1) := by decide +kernel
theorem dX8_field_79 : decode cX8_field 79 = .ok (.getfield 56, 3) := by decide +kernel
theorem dX8_field_82 : decode cX8_field 82 = .ok (.iload 5, 2) := by decide +kernel
theorem dX8_field_84 : decode cX8_field 84 = .ok (.laload, 1) := by decide +kernel
theorem dX8_field_85 : decode cX8_field 85 = .ok (.lload_n 2, 1) := by decide +kernel
theorem dX8_field_86 : decode cX8_field 86 = .ok (.lcmp, 1) := by decide +kernel
theorem dX8_field_87 : decode cX8_field 87 = .ok (.ifCond .ne 9, 3) := by decide +kernel
theorem dX8_field_90 : decode cX8_field 90 = .ok (.aload_n 0, 1) := by decide +kernel
theorem dX8_field_91 : decode cX8_field 91 = .ok (.iconst 2, 1) := by decide +kernel
theorem dX8_field_92 : decode cX8_field 92 = .ok (.iload_n 1, 1) := by decide +kernel
theorem dX8_field_93 : decode cX8_field 93 = .ok (.invokevirtual 148, 3) := by decide +kernel
theorem dX8_field_96 : decode cX8_field 96 = .ok (.iinc 5 1, 3) := by decide +kernel
theorem dX8_field_99 : decode cX8_field 99 = .ok (.goto (-49), 3) := by decide +kernel
theorem dX8_field_102 : decode cX8_field 102 = .ok (.aload_n 0, 1) := by decide +kernel
theorem dX8_field_103 : decode cX8_field 103 = .ok (.getfield 132, 3) := by decide +kernel
theorem dX8_field_106 : decode cX8_field 106 = .ok (.ifCond .eq 4, 3) := by decide +kernel
theorem dX8_field_109 : decode cX8_field 109 = .ok (.return_, 1) := by decide +kernel
theorem dX8_field_110 : decode cX8_field 110 = .ok (.aload_n 0, 1) := by decide +kernel
theorem dX8_field_111 : decode cX8_field 111 = .ok (.getfield 183, 3) := by decide +kernel
theorem dX8_field_114 : decode cX8_field 114 = .ok (.istore 5, 2) := by decide +kernel
theorem dX8_field_116 : decode cX8_field 116 = .ok (.aload_n 0, 1) := by decide +kernel
theorem dX8_field_117 : decode cX8_field 117 = .ok (.dup, 1) := by decide +kernel
theorem dX8_field_118 : decode cX8_field 118 = .ok (.getfield 183, 3) := by decide +kernel
theorem dX8_field_121 : decode cX8_field 121 = .ok (.iconst 1, 1) := by decide +kernel
theorem dX8_field_122 : decode cX8_field 122 = .ok (.iadd, 1) := by decide +kernel
theorem dX8_field_123 : decode cX8_field 123 = .ok (.putfield 183, 3) := by decide +kernel
theorem dX8_field_126 : decode cX8_field 126 = .ok (.aload_n 0, 1) := by decide +kernel
theorem dX8_field_127 : decode cX8_field 127 = .ok (.getfield 71, 3) := by decide +kernel
theorem dX8_field_130 : decode cX8_field 130 = .ok (.aload_n 0, 1) := by decide +kernel
theorem dX8_field_131 : decode cX8_field 131 = .ok (.getfield 180, 3) := by decide +kernel
theorem dX8_field_134 : decode cX8_field 134 = .ok (.dup2, 1) := by decide +kernel
theorem dX8_field_135 : decode cX8_field 135 = .ok (.iaload, 1) := by decide +kernel
theorem dX8_field_136 : decode cX8_field 136 = .ok (.iconst 1, 1) := by decide +kernel
theorem dX8_field_137 : decode cX8_field 137 = .ok (.iadd, 1) := by decide +kernel
theorem dX8_field_138 : decode cX8_field 138 = .ok (.iastore, 1) := by decide +kernel
theorem dX8_field_139 : decode cX8_field 139 = .ok (.aload_n 0, 1) := by decide +kernel
theorem dX8_field_140 : decode cX8_field 140 = .ok (.getfield 53, 3) := by decide +kernel
theorem dX8_field_143 : decode cX8_field 143 = .ok (.iload 5, 2) := by decide +kernel
theorem dX8_field_145 : decode cX8_field 145 = .ok (.iload 4, 2) := by decide +kernel
theorem dX8_field_147 : decode cX8_field 147 = .ok (.iastore, 1) := by decide +kernel
theorem dX8_field_148 : decode cX8_field 148 = .ok (.aload_n 0, 1) := by decide +kernel
theorem dX8_field_149 : decode cX8_field 149 = .ok (.getfield 56, 3) := by decide +kernel
theorem dX8_field_152 : decode cX8_field 152 = .ok (.iload 5, 2) := by decide +kernel
theorem dX8_field_154 : decode cX8_field 154 = .ok (.lload_n 2, 1) := by decide +kernel
theorem dX8_field_155 : decode cX8_field 155 = .ok (.lastore, 1) := by decide +kernel
theorem dX8_field_156 : decode cX8_field 156 = .ok (.aload_n 0, 1) := by decide +kernel
theorem dX8_field_157 : decode cX8_field 157 = .ok (.invokevirtual 144, 3) := by decide +kernel
theorem dX8_field_160 : decode cX8_field 160 = .ok (.istore 6, 2) := by decide +kernel
theorem dX8_field_162 : decode cX8_field 162 = .ok (.aload_n 0, 1) := by decide +kernel
theorem dX8_field_163 : decode cX8_field 163 = .ok (.getfield 138, 3) := by decide +kernel
theorem dX8_field_166 : decode cX8_field 166 = .ok (.istore_n 1, 1) := by decide +kernel
theorem dX8_field_167 : decode cX8_field 167 = .ok (.iload 6, 2) := by decide +kernel
theorem dX8_field_169 : decode cX8_field 169 = .ok (.bipush 91, 2) := by decide +kernel
theorem dX8_field_171 : decode cX8_field 171 = .ok (.if_icmp .ne 78, 3) := by decide +kernel
theorem dX8_field_174 : decode cX8_field 174 = .ok (.aload_n 0, 1) := by decide +kernel
theorem dX8_field_175 : decode cX8_field 175 = .ok (.getfield 180, 3) := by decide +kernel
theorem dX8_field_178 : decode cX8_field 178 = .ok (.iconst 4, 1) := by decide +kernel
theorem dX8_field_179 : decode cX8_field 179 = .ok (.if_icmp .ne 12, 3) := by decide +kernel
theorem dX8_field_182 : decode cX8_field 182 = .ok (.aload_n 0, 1) := by decide +kernel
theorem dX8_field_183 : decode cX8_field 183 = .ok (.iconst 3, 1) := by decide +kernel
theorem dX8_field_184 : decode cX8_field 184 = .ok (.aload_n 0, 1) := by decide +kernel
theorem dX8_field_185 : decode cX8_field 185 = .ok (.getfield 138, 3) := by decide +kernel
theorem dX8_field_188 : decode cX8_field 188 = .ok (.invokevirtual 148, 3) := by decide +kernel
theorem dX8_field_191 : decode cX8_field 191 = .ok (.aload_n 0, 1) := by decide +kernel
theorem dX8_field_192 : decode cX8_field 192 = .ok (.getfield 132, 3) := by decide +kernel
theorem dX8_field_195 : decode cX8_field 195 = .ok (.ifCond .eq 4, 3) := by decide +kernel
theorem dX8_field_198 : decode cX8_field 198 = .ok (.return_, 1) := by decide +kernel
theorem dX8_field_199 : decode cX8_field 199 = .ok (.aload_n 0, 1) := by decide +kernel
theorem dX8_field_200 : decode cX8_field 200 = .ok (.dup, 1) := by decide +kernel
theorem dX8_field_201 : decode cX8_field 201 = .ok (.getfield 138, 3) := by decide +kernel
theorem dX8_field_204 : decode cX8_field 204 = .ok (.iconst 1, 1) := by decide +kernel
theorem dX8_field_205 : decode cX8_field 205 = .ok (.iadd, 1) := by decide +kernel
theorem dX8_field_206 : decode cX8_field 206 = .ok (.putfield 138, 3) := by decide +kernel
theorem dX8_field_209 : decode cX8_field 209 = .ok (.aload_n 0, 1) := by decide +kernel
theorem dX8_field_210 : decode cX8_field 210 = .ok (.getfield 59, 3) := by decide +kernel
theorem dX8_field_213 : decode cX8_field 213 = .ok (.iload 5, 2) := by decide +kernel
theorem dX8_field_215 : decode cX8_field 215 = .ok (.iconst 2, 1) := by decide +kernel
theorem dX8_field_216 : decode cX8_field 216 = .ok (.iastore, 1) := by decide +kernel
theorem dX8_field_217 : decode cX8_field 217 = .ok (.aload_n 0, 1) := by decide +kernel
theorem dX8_field_218 : decode cX8_field 218 = .ok (.dup, 1) := by decide +kernel
theorem dX8_field_219 : decode cX8_field 219 = .ok (.getfield 180, 3) := by decide +kernel
theorem dX8_field_222 : decode cX8_field 222 = .ok (.iconst 1, 1) := by decide +kernel
theorem dX8_field_223 : decode cX8_field 223 = .ok (.iadd, 1) := by decide +kernel
theorem dX8_field_224 : decode cX8_field 224 = .ok (.putfield 180, 3) := by decide +kernel
theorem dX8_field_227 : decode cX8_field 227 = .ok (.aload_n 0, 1) := by decide +kernel
theorem dX8_field_228 : decode cX8_field 228 = .ok (.getfield 68, 3) := by decide +kernel
theorem dX8_field_231 : decode cX8_field 231 = .ok (.aload_n 0, 1) := by decide +kernel
theorem dX8_field_232 : decode cX8_field 232 = .ok (.getfield 180, 3) := by decide +kernel
theorem dX8_field_235 : decode cX8_field 235 = .ok (.iload 5, 2) := by decide +kernel
theorem dX8_field_237 : decode cX8_field 237 = .ok (.iastore, 1) := by decide +kernel
theorem dX8_field_238 : decode cX8_field 238 = .ok (.aload_n 0, 1) := by decide +kernel
theorem dX8_field_239 : decode cX8_field 239 = .ok (.getfield 71, 3) := by decide +kernel
theorem dX8_field_242 : decode cX8_field 242 = .ok (.aload_n 0, 1) := by decide +kernel
theorem dX8_field_243 : decode cX8_field 243 = .ok (.getfield 180, 3) := by decide +kernel
theorem dX8_field_246 : decode cX8_field 246 = .ok (.iconst 0, 1) := by decide +kernel
theorem dX8_field_247 : decode cX8_field 247 = .ok (.iastore, 1) := by decide +kernel
theorem dX8_field_248 : decode cX8_field 248 = .ok (.return_, 1) := by decide +kernel
theorem dX8_field_249 : decode cX8_field 249 = .ok (.aload_n 0, 1) := by decide +kernel
theorem dX8_field_250 : decode cX8_field 250 = .ok (.invokevirtual 165, 3) := by decide +kernel
theorem dX8_field_253 : decode cX8_field 253 = .ok (.lstore_n 2, 1) := by decide +kernel
theorem dX8_field_254 : decode cX8_field 254 = .ok (.aload_n 0, 1) := by decide +kernel
theorem dX8_field_255 : decode cX8_field 255 = .ok (.getfield 132, 3) := by decide +kernel
theorem dX8_field_258 : decode cX8_field 258 = .ok (.ifCond .ne 27, 3) := by decide +kernel
theorem dX8_field_261 : decode cX8_field 261 = .ok (.lload_n 2, 1) := by decide +kernel
theorem dX8_field_262 : decode cX8_field 262 = .ok (.aload_n 0, 1) := by decide +kernel
theorem dX8_field_263 : decode cX8_field 263 = .ok (.getfield 21, 3) := by decide +kernel
theorem dX8_field_266 : decode cX8_field 266 = .ok (.lcmp, 1) := by decide +kernel
theorem dX8_field_267 : decode cX8_field 267 = .ok (.ifCond .eq 18, 3) := by decide +kernel
theorem dX8_field_270 : decode cX8_field 270 = .ok (.lload_n 2, 1) := by decide +kernel
theorem dX8_field_271 : decode cX8_field 271 = .ok (.aload_n 0, 1) := by decide +kernel
theorem dX8_field_272 : decode cX8_field 272 = .ok (.getfield 25, 3) := by decide +kernel
theorem dX8_field_275 : decode cX8_field 275 = .ok (.lcmp, 1) := by decide +kernel
theorem dX8_field_276 : decode cX8_field 276 = .ok (.ifCond .eq 9, 3) := by decide +kernel
theorem dX8_field_279 : decode cX8_field 279 = .ok (.aload_n 0, 1) := by decide +kernel
theorem dX8_field_280 : decode cX8_field 280 = .ok (.iconst 1, 1) := by decide +kernel
theorem dX8_field_281 : decode cX8_field 281 = .ok (.iload_n 1, 1) := by decide +kernel
theorem dX8_field_282 : decode cX8_field 282 = .ok (.invokevirtual 148, 3) := by decide +kernel
theorem dX8_field_285 : decode cX8_field 285 = .ok (.aload_n 0, 1) := by decide +kernel
theorem dX8_field_286 : decode cX8_field 286 = .ok (.getfield 132, 3) := by decide +kernel
theorem dX8_field_289 : decode cX8_field 289 = .ok (.ifCond .ne 18, 3) := by decide +kernel
theorem dX8_field_292 : decode cX8_field 292 = .ok (.aload_n 0, 1) := by decide +kernel
theorem dX8_field_293 : decode cX8_field 293 = .ok (.getfield 186, 3) := by decide +kernel
theorem dX8_field_296 : decode cX8_field 296 = .ok (.bipush 12, 2) := by decide +kernel
theorem dX8_field_298 : decode cX8_field 298 = .ok (.if_icmp .ne 9, 3) := by decide +kernel
theorem dX8_field_301 : decode cX8_field 301 = .ok (.aload_n 0, 1) := by decide +kernel
theorem dX8_field_302 : decode cX8_field 302 = .ok (.iconst 3, 1) := by decide +kernel
theorem dX8_field_303 : decode cX8_field 303 = .ok (.iload_n 1, 1) := by decide +kernel
theorem dX8_field_304 : decode cX8_field 304 = .ok (.invokevirtual 148, 3) := by decide +kernel
theorem dX8_field_307 : decode cX8_field 307 = .ok (.aload_n 0, 1) := by decide +kernel
theorem dX8_field_308 : decode cX8_field 308 = .ok (.getfield 132, 3) := by decide +kernel
theorem dX8_field_311 : decode cX8_field 311 = .ok (.ifCond .eq 4, 3) := by decide +kernel
theorem dX8_field_314 : decode cX8_field 314 = .ok (.return_, 1) := by decide +kernel
theorem dX8_field_315 : decode cX8_field 315 = .ok (.aload_n 0, 1) := by decide +kernel
theorem dX8_field_316 : decode cX8_field 316 = .ok (.getfield 59, 3) := by decide +kernel
theorem dX8_field_319 : decode cX8_field 319 = .ok (.iload 5, 2) := by decide +kernel
theorem dX8_field_321 : decode cX8_field 321 = .ok (.lload_n 2, 1) := by decide +kernel
theorem dX8_field_322 : decode cX8_field 322 = .ok (.aload_n 0, 1) := by decide +kernel
theorem dX8_field_323 : decode cX8_field 323 = .ok (.getfield 21, 3) := by decide +kernel
theorem dX8_field_326 : decode cX8_field 326 = .ok (.lcmp, 1) := by decide +kernel
theorem dX8_field_327 : decode cX8_field 327 = .ok (.ifCond .ne 7, 3) := by decide +kernel
theorem dX8_field_330 : decode cX8_field 330 = .ok (.iconst 0, 1) := by decide +kernel
theorem dX8_field_331 : decode cX8_field 331 = .ok (.goto 4, 3) := by decide +kernel
theorem dX8_field_334 : decode cX8_field 334 = .ok (.iconst 1, 1) := by decide +kernel
theorem dX8_field_335 : decode cX8_field 335 = .ok (.iastore, 1) := by decide +kernel
theorem dX8_field_336 : decode cX8_field 336 = .ok (.aload_n 0, 1) := by decide +kernel
theorem dX8_field_337 : decode cX8_field 337 = .ok (.getfield 65, 3) := by decide +kernel
theorem dX8_field_340 : decode cX8_field 340 = .ok (.aload_n 0, 1) := by decide +kernel
theorem dX8_field_341 : decode cX8_field 341 = .ok (.getfield 186, 3) := by decide +kernel
theorem dX8_field_344 : decode cX8_field 344 = .ok (.iload 5, 2) := by decide +kernel
theorem dX8_field_346 : decode cX8_field 346 = .ok (.iastore, 1) := by decide +kernel
theorem dX8_field_347 : decode cX8_field 347 = .ok (.aload_n 0, 1) := by decide +kernel
theorem dX8_field_348 : decode cX8_field 348 = .ok (.dup, 1) := by decide +kernel
theorem dX8_field_349 : decode cX8_field 349 = .ok (.getfield 186, 3) := by decide +kernel
theorem dX8_field_352 : decode cX8_field 352 = .ok (.iconst 1, 1) := by decide +kernel
theorem dX8_field_353 : decode cX8_field 353 = .ok (.iadd, 1) := by decide +kernel
theorem dX8_field_354 : decode cX8_field 354 = .ok (.putfield 186, 3) := by decide +kernel
theorem dX8_field_357 : decode cX8_field 357 = .ok (.aload_n 0, 1) := by decide +kernel
theorem dX8_field_358 : decode cX8_field 358 = .ok (.iload 5, 2) := by decide +kernel
theorem dX8_field_360 : decode cX8_field 360 = .ok (.invokevirtual 189, 3) := by decide +kernel
theorem dX8_field_363 : decode cX8_field 363 = .ok (.return_, 1) := by decide +kernel
theorem dX8_readsShape_0 : decode cX8_readsShape 0 = .ok (.aload_n 0, 1) := by decide +kernel
theorem dX8_readsShape_1 : decode cX8_readsShape 1 = .ok (.iconst 0, 1) := by decide +kernel
theorem dX8_readsShape_2 : decode cX8_readsShape 2 = .ok (.putfield 183, 3) := by decide +kernel
theorem dX8_readsShape_5 : decode cX8_readsShape 5 = .ok (.aload_n 0, 1) := by decide +kernel
theorem dX8_readsShape_6 : decode cX8_readsShape 6 = .ok (.iconst 0, 1) := by decide +kernel
theorem dX8_readsShape_7 : decode cX8_readsShape 7 = .ok (.putfield 186, 3) := by decide +kernel
theorem dX8_readsShape_10 : decode cX8_readsShape 10 = .ok (.aload_n 0, 1) := by decide +kernel
theorem dX8_readsShape_11 : decode cX8_readsShape 11 = .ok (.iconst 0, 1) := by decide +kernel
theorem dX8_readsShape_12 : decode cX8_readsShape 12 = .ok (.putfield 180, 3) := by decide +kernel
theorem dX8_readsShape_15 : decode cX8_readsShape 15 = .ok (.aload_n 0, 1) := by decide +kernel
theorem dX8_readsShape_16 : decode cX8_readsShape 16 = .ok (.getfield 68, 3) := by decide +kernel
theorem dX8_readsShape_19 : decode cX8_readsShape 19 = .ok (.iconst 0, 1) := by decide +kernel
theorem dX8_readsShape_20 : decode cX8_readsShape 20 = .ok (.iconst (-1), 1) := by decide +kernel
theorem dX8_readsShape_21 : decode cX8_readsShape 21 = .ok (.iastore, 1) := by decide +kernel
theorem dX8_readsShape_22 : decode cX8_readsShape 22 = .ok (.aload_n 0, 1) := by decide +kernel
theorem dX8_readsShape_23 : decode cX8_readsShape 23 = .ok (.getfield 71, 3) := by decide +kernel
theorem dX8_readsShape_26 : decode cX8_readsShape 26 = .ok (.iconst 0, 1) := by decide +kernel
theorem dX8_readsShape_27 : decode cX8_readsShape 27 = .ok (.iconst 0, 1) := by decide +kernel
theorem dX8_readsShape_28 : decode cX8_readsShape 28 = .ok (.iastore, 1) := by decide +kernel
theorem dX8_readsShape_29 : decode cX8_readsShape 29 = .ok (.iconst 1, 1) := by decide +kernel
theorem dX8_readsShape_30 : decode cX8_readsShape 30 = .ok (.istore_n 1, 1) := by decide +kernel
theorem dX8_readsShape_31 : decode cX8_readsShape 31 = .ok (.iload_n 1, 1) := by decide +kernel
theorem dX8_readsShape_32 : decode cX8_readsShape 32 = .ok (.ifCond .eq 148, 3) := by decide +kernel
theorem dX8_readsShape_35 : decode cX8_readsShape 35 = .ok (.aload_n 0, 1) := by decide +kernel
theorem dX8_readsShape_36 : decode cX8_readsShape 36 = .ok (.getfield 132, 3) := by decide +kernel
theorem dX8_readsShape_39 : decode cX8_readsShape 39 = .ok (.ifCond .ne 141, 3) := by decide +kernel
theorem dX8_readsShape_42 : decode cX8_readsShape 42 = .ok (.aload_n 0, 1) := by decide +kernel
theorem dX8_readsShape_43 : decode cX8_readsShape 43 = .ok (.invokevirtual 144, 3) := by decide +kernel
theorem dX8_readsShape_46 : decode cX8_readsShape 46 = .ok (.istore_n 2, 1) := by decide +kernel
theorem dX8_readsShape_47 : decode cX8_readsShape 47 = .ok (.iload_n 2, 1) := by decide +kernel
theorem dX8_readsShape_48 : decode cX8_readsShape 48 = .ok (.iconst (-1), 1) := by decide +kernel
theorem dX8_readsShape_49 : decode cX8_readsShape 49 = .ok (.if_icmp .ne 45, 3) := by decide +kernel
theorem dX8_readsShape_52 : decode cX8_readsShape 52 = .ok (.iconst 0, 1) := by decide +kernel
theorem dX8_readsShape_53 : decode cX8_readsShape 53 = .ok (.istore_n 1, 1) := by decide +kernel
theorem dX8_readsShape_54 : decode cX8_readsShape 54 = .ok (.aload_n 0, 1) := by decide +kernel
theorem dX8_readsShape_55 : decode cX8_readsShape 55 = .ok (.getfield 180, 3) := by decide +kernel
theorem dX8_readsShape_58 : decode cX8_readsShape 58 = .ok (.ifCond .le 15, 3) := by decide +kernel
theorem dX8_readsShape_61 : decode cX8_readsShape 61 = .ok (.aload_n 0, 1) := by decide +kernel
theorem dX8_readsShape_62 : decode cX8_readsShape 62 = .ok (.iconst 1, 1) := by decide +kernel
theorem dX8_readsShape_63 : decode cX8_readsShape 63 = .ok (.aload_n 0, 1) := by decide +kernel
theorem dX8_readsShape_64 : decode cX8_readsShape 64 = .ok (.getfield 138, 3) := by decide +kernel
theorem dX8_readsShape_67 : decode cX8_readsShape 67 = .ok (.invokevirtual 148, 3) := by decide +kernel
theorem dX8_readsShape_70 : decode cX8_readsShape 70 = .ok (.goto 107, 3) := by decide +kernel
theorem dX8_readsShape_73 : decode cX8_readsShape 73 = .ok (.aload_n 0, 1) := by decide +kernel
theorem dX8_readsShape_74 : decode cX8_readsShape 74 = .ok (.getfield 71, 3) := by decide +kernel
theorem dX8_readsShape_77 : decode cX8_readsShape 77 = .ok (.iconst 0, 1) := by decide +kernel
theorem dX8_readsShape_78 : decode cX8_readsShape 78 = .ok (.iaload, 1) := by decide +kernel
theorem dX8_readsShape_79 : decode cX8_readsShape 79 = .ok (.ifCond .ne 98, 3) := by decide +kernel
theorem dX8_readsShape_82 : decode cX8_readsShape 82 = .ok (.aload_n 0, 1) := by decide +kernel
theorem dX8_readsShape_83 : decode cX8_readsShape 83 = .ok (.iconst 3, 1) := by decide +kernel
theorem dX8_readsShape_84 : decode cX8_readsShape 84 = .ok (.aload_n 0, 1) := by decide +kernel
theorem dX8_readsShape_85 : decode cX8_readsShape 85 = .ok (.getfield 138, 3) := by decide +kernel
theorem dX8_readsShape_88 : decode cX8_readsShape 88 = .ok (.invokevirtual 148, 3) := by decide +kernel
theorem dX8_readsShape_91 : decode cX8_readsShape 91 = .ok (.goto 86, 3) := by decide +kernel
theorem dX8_readsShape_94 : decode cX8_readsShape 94 = .ok (.iload_n 2, 1) := by decide +kernel
theorem dX8_readsShape_95 : decode cX8_readsShape 95 = .ok (.bipush 93, 2) := by decide +kernel
theorem dX8_readsShape_97 : decode cX8_readsShape 97 = .ok (.if_icmp .ne 76, 3) := by decide +kernel
theorem dX8_readsShape_100 : decode cX8_readsShape 100 = .ok (.aload_n 0, 1) := by decide +kernel
theorem dX8_readsShape_101 : decode cX8_readsShape 101 = .ok (.getfield 180, 3) := by decide +kernel
theorem dX8_readsShape_104 : decode cX8_readsShape 104 = .ok (.ifCond .le 69, 3) := by decide +kernel
theorem dX8_readsShape_107 : decode cX8_readsShape 107 = .ok (.aload_n 0, 1) := by decide +kernel
theorem dX8_readsShape_108 : decode cX8_readsShape 108 = .ok (.getfield 71, 3) := by decide +kernel
theorem dX8_readsShape_111 : decode cX8_readsShape 111 = .ok (.aload_n 0, 1) := by decide +kernel
theorem dX8_readsShape_112 : decode cX8_readsShape 112 = .ok (.getfield 180, 3) := by decide +kernel
theorem dX8_readsShape_115 : decode cX8_readsShape 115 = .ok (.iaload, 1) := by decide +kernel
theorem dX8_readsShape_116 : decode cX8_readsShape 116 = .ok (.ifCond .ne 12, 3) := by decide +kernel
theorem dX8_readsShape_119 : decode cX8_readsShape 119 = .ok (.aload_n 0, 1) := by decide +kernel
theorem dX8_readsShape_120 : decode cX8_readsShape 120 = .ok (.iconst 3, 1) := by decide +kernel
theorem dX8_readsShape_121 : decode cX8_readsShape 121 = .ok (.aload_n 0, 1) := by decide +kernel
theorem dX8_readsShape_122 : decode cX8_readsShape 122 = .ok (.getfield 138, 3) := by decide +kernel
theorem dX8_readsShape_125 : decode cX8_readsShape 125 = .ok (.invokevirtual 148, 3) := by decide +kernel
theorem dX8_readsShape_128 : decode cX8_readsShape 128 = .ok (.aload_n 0, 1) := by decide +kernel
theorem dX8_readsShape_129 : decode cX8_readsShape 129 = .ok (.dup, 1) := by decide +kernel
theorem dX8_readsShape_130 : decode cX8_readsShape 130 = .ok (.getfield 138, 3) := by decide +kernel
theorem dX8_readsShape_133 : decode cX8_readsShape 133 = .ok (.iconst 1, 1) := by decide +kernel
theorem dX8_readsShape_134 : decode cX8_readsShape 134 = .ok (.iadd, 1) := by decide +kernel
theorem dX8_readsShape_135 : decode cX8_readsShape 135 = .ok (.putfield 138, 3) := by decide +kernel
theorem dX8_readsShape_138 : decode cX8_readsShape 138 = .ok (.aload_n 0, 1) := by decide +kernel
theorem dX8_readsShape_139 : decode cX8_readsShape 139 = .ok (.getfield 68, 3) := by decide +kernel
theorem dX8_readsShape_142 : decode cX8_readsShape 142 = .ok (.aload_n 0, 1) := by decide +kernel
theorem dX8_readsShape_143 : decode cX8_readsShape 143 = .ok (.getfield 180, 3) := by decide +kernel
theorem dX8_readsShape_146 : decode cX8_readsShape 146 = .ok (.iaload, 1) := by decide +kernel
theorem dX8_readsShape_147 : decode cX8_readsShape 147 = .ok (.istore_n 3, 1) := by decide +kernel
theorem dX8_readsShape_148 : decode cX8_readsShape 148 = .ok (.aload_n 0, 1) := by decide +kernel
theorem dX8_readsShape_149 : decode cX8_readsShape 149 = .ok (.dup, 1) := by decide +kernel
theorem dX8_readsShape_150 : decode cX8_readsShape 150 = .ok (.getfield 180, 3) := by decide +kernel
theorem dX8_readsShape_153 : decode cX8_readsShape 153 = .ok (.iconst 1, 1) := by decide +kernel
theorem dX8_readsShape_154 : decode cX8_readsShape 154 = .ok (.isub, 1) := by decide +kernel
theorem dX8_readsShape_155 : decode cX8_readsShape 155 = .ok (.putfield 180, 3) := by decide +kernel
theorem dX8_readsShape_158 : decode cX8_readsShape 158 = .ok (.aload_n 0, 1) := by decide +kernel
theorem dX8_readsShape_159 : decode cX8_readsShape 159 = .ok (.getfield 132, 3) := by decide +kernel
theorem dX8_readsShape_162 : decode cX8_readsShape 162 = .ok (.ifCond .ne 8, 3) := by decide +kernel
theorem dX8_readsShape_165 : decode cX8_readsShape 165 = .ok (.aload_n 0, 1) := by decide +kernel
theorem dX8_readsShape_166 : decode cX8_readsShape 166 = .ok (.iload_n 3, 1) := by decide +kernel
theorem dX8_readsShape_167 : decode cX8_readsShape 167 = .ok (.invokevirtual 189, 3) := by decide +kernel
theorem dX8_readsShape_170 : decode cX8_readsShape 170 = .ok (.goto 7, 3) := by decide +kernel
theorem dX8_readsShape_173 : decode cX8_readsShape 173 = .ok (.aload_n 0, 1) := by decide +kernel
theorem dX8_readsShape_174 : decode cX8_readsShape 174 = .ok (.invokevirtual 192, 3) := by decide +kernel
theorem dX8_readsShape_177 : decode cX8_readsShape 177 = .ok (.goto (-146), 3) := by decide +kernel
theorem dX8_readsShape_180 : decode cX8_readsShape 180 = .ok (.return_, 1) := by decide +kernel
theorem dX8_shape_0 : decode cX8_shape 0 = .ok (.aload_n 0, 1) := by decide +kernel
theorem dX8_shape_1 : decode cX8_shape 1 = .ok (.invokevirtual 195, 3) := by decide +kernel
theorem dX8_shape_4 : decode cX8_shape 4 = .ok (.aload_n 0, 1) := by decide +kernel
theorem dX8_shape_5 : decode cX8_shape 5 = .ok (.invokevirtual 198, 3) := by decide +kernel
theorem dX8_shape_8 : decode cX8_shape 8 = .ok (.aload_n 0, 1) := by decide +kernel
theorem dX8_shape_9 : decode cX8_shape 9 = .ok (.invokevirtual 201, 3) := by decide +kernel
theorem dX8_shape_12 : decode cX8_shape 12 = .ok (.aload_n 0, 1) := by decide +kernel
theorem dX8_shape_13 : decode cX8_shape 13 = .ok (.getfield 132, 3) := by decide +kernel
theorem dX8_shape_16 : decode cX8_shape 16 = .ok (.ifCond .eq 5, 3) := by decide +kernel
theorem dX8_shape_19 : decode cX8_shape 19 = .ok (.iconst (-1), 1) := by decide +kernel
theorem dX8_shape_20 : decode cX8_shape 20 = .ok (.ireturn, 1) := by decide +kernel
theorem dX8_shape_21 : decode cX8_shape 21 = .ok (.aload_n 0, 1) := by decide +kernel
theorem dX8_shape_22 : decode cX8_shape 22 = .ok (.iconst 1, 1) := by decide +kernel
theorem dX8_shape_23 : decode cX8_shape 23 = .ok (.putfield 204, 3) := by decide +kernel
theorem dX8_shape_26 : decode cX8_shape 26 = .ok (.aload_n 0, 1) := by decide +kernel
theorem dX8_shape_27 : decode cX8_shape 27 = .ok (.aload_n 0, 1) := by decide +kernel
theorem dX8_shape_28 : decode cX8_shape 28 = .ok (.getfield 183, 3) := by decide +kernel
theorem dX8_shape_31 : decode cX8_shape 31 = .ok (.putfield 208, 3) := by decide +kernel
theorem dX8_shape_34 : decode cX8_shape 34 = .ok (.aload_n 0, 1) := by decide +kernel
theorem dX8_shape_35 : decode cX8_shape 35 = .ok (.aload_n 0, 1) := by decide +kernel
theorem dX8_shape_36 : decode cX8_shape 36 = .ok (.getfield 186, 3) := by decide +kernel
theorem dX8_shape_39 : decode cX8_shape 39 = .ok (.putfield 211, 3) := by decide +kernel
theorem dX8_shape_42 : decode cX8_shape 42 = .ok (.iconst 0, 1) := by decide +kernel
theorem dX8_shape_43 : decode cX8_shape 43 = .ok (.istore_n 1, 1) := by decide +kernel
theorem dX8_shape_44 : decode cX8_shape 44 = .ok (.iload_n 1, 1) := by decide +kernel
theorem dX8_shape_45 : decode cX8_shape 45 = .ok (.aload_n 0, 1) := by decide +kernel
theorem dX8_shape_46 : decode cX8_shape 46 = .ok (.getfield 208, 3) := by decide +kernel
theorem dX8_shape_49 : decode cX8_shape 49 = .ok (.if_icmp .ge 57, 3) := by decide +kernel
theorem dX8_shape_52 : decode cX8_shape 52 = .ok (.aload_n 0, 1) := by decide +kernel
theorem dX8_shape_53 : decode cX8_shape 53 = .ok (.getfield 37, 3) := by decide +kernel
theorem dX8_shape_56 : decode cX8_shape 56 = .ok (.iload_n 1, 1) := by decide +kernel
theorem dX8_shape_57 : decode cX8_shape 57 = .ok (.aload_n 0, 1) := by decide +kernel
theorem dX8_shape_58 : decode cX8_shape 58 = .ok (.getfield 53, 3) := by decide +kernel
theorem dX8_shape_61 : decode cX8_shape 61 = .ok (.iload_n 1, 1) := by decide +kernel
theorem dX8_shape_62 : decode cX8_shape 62 = .ok (.iaload, 1) := by decide +kernel
theorem dX8_shape_63 : decode cX8_shape 63 = .ok (.iastore, 1) := by decide +kernel
theorem dX8_shape_64 : decode cX8_shape 64 = .ok (.aload_n 0, 1) := by decide +kernel
theorem dX8_shape_65 : decode cX8_shape 65 = .ok (.getfield 40, 3) := by decide +kernel
theorem dX8_shape_68 : decode cX8_shape 68 = .ok (.iload_n 1, 1) := by decide +kernel
theorem dX8_shape_69 : decode cX8_shape 69 = .ok (.aload_n 0, 1) := by decide +kernel
theorem dX8_shape_70 : decode cX8_shape 70 = .ok (.getfield 56, 3) := by decide +kernel
theorem dX8_shape_73 : decode cX8_shape 73 = .ok (.iload_n 1, 1) := by decide +kernel
theorem dX8_shape_74 : decode cX8_shape 74 = .ok (.laload, 1) := by decide +kernel
theorem dX8_shape_75 : decode cX8_shape 75 = .ok (.lastore, 1) := by decide +kernel
theorem dX8_shape_76 : decode cX8_shape 76 = .ok (.aload_n 0, 1) := by decide +kernel
theorem dX8_shape_77 : decode cX8_shape 77 = .ok (.getfield 44, 3) := by decide +kernel
theorem dX8_shape_80 : decode cX8_shape 80 = .ok (.iload_n 1, 1) := by decide +kernel
theorem dX8_shape_81 : decode cX8_shape 81 = .ok (.aload_n 0, 1) := by decide +kernel
theorem dX8_shape_82 : decode cX8_shape 82 = .ok (.getfield 59, 3) := by decide +kernel
theorem dX8_shape_85 : decode cX8_shape 85 = .ok (.iload_n 1, 1) := by decide +kernel
theorem dX8_shape_86 : decode cX8_shape 86 = .ok (.iaload, 1) := by decide +kernel
theorem dX8_shape_87 : decode cX8_shape 87 = .ok (.iastore, 1) := by decide +kernel
theorem dX8_shape_88 : decode cX8_shape 88 = .ok (.aload_n 0, 1) := by decide +kernel
theorem dX8_shape_89 : decode cX8_shape 89 = .ok (.getfield 47, 3) := by decide +kernel
theorem dX8_shape_92 : decode cX8_shape 92 = .ok (.iload_n 1, 1) := by decide +kernel
theorem dX8_shape_93 : decode cX8_shape 93 = .ok (.aload_n 0, 1) := by decide +kernel
theorem dX8_shape_94 : decode cX8_shape 94 = .ok (.getfield 62, 3) := by decide +kernel
theorem dX8_shape_97 : decode cX8_shape 97 = .ok (.iload_n 1, 1) := by decide +kernel
theorem dX8_shape_98 : decode cX8_shape 98 = .ok (.iaload, 1) := by decide +kernel
theorem dX8_shape_99 : decode cX8_shape 99 = .ok (.iastore, 1) := by decide +kernel
theorem dX8_shape_100 : decode cX8_shape 100 = .ok (.iinc 1 1, 3) := by decide +kernel
theorem dX8_shape_103 : decode cX8_shape 103 = .ok (.goto (-59), 3) := by decide +kernel
theorem dX8_shape_106 : decode cX8_shape 106 = .ok (.iconst 0, 1) := by decide +kernel
theorem dX8_shape_107 : decode cX8_shape 107 = .ok (.istore_n 1, 1) := by decide +kernel
theorem dX8_shape_108 : decode cX8_shape 108 = .ok (.iload_n 1, 1) := by decide +kernel
theorem dX8_shape_109 : decode cX8_shape 109 = .ok (.aload_n 0, 1) := by decide +kernel
theorem dX8_shape_110 : decode cX8_shape 110 = .ok (.getfield 211, 3) := by decide +kernel
theorem dX8_shape_113 : decode cX8_shape 113 = .ok (.if_icmp .ge 21, 3) := by decide +kernel
theorem dX8_shape_116 : decode cX8_shape 116 = .ok (.aload_n 0, 1) := by decide +kernel
theorem dX8_shape_117 : decode cX8_shape 117 = .ok (.getfield 50, 3) := by decide +kernel
theorem dX8_shape_120 : decode cX8_shape 120 = .ok (.iload_n 1, 1) := by decide +kernel
theorem dX8_shape_121 : decode cX8_shape 121 = .ok (.aload_n 0, 1) := by decide +kernel
theorem dX8_shape_122 : decode cX8_shape 122 = .ok (.getfield 65, 3) := by decide +kernel
theorem dX8_shape_125 : decode cX8_shape 125 = .ok (.iload_n 1, 1) := by decide +kernel
theorem dX8_shape_126 : decode cX8_shape 126 = .ok (.iaload, 1) := by decide +kernel
theorem dX8_shape_127 : decode cX8_shape 127 = .ok (.iastore, 1) := by decide +kernel
theorem dX8_shape_128 : decode cX8_shape 128 = .ok (.iinc 1 1, 3) := by decide +kernel
theorem dX8_shape_131 : decode cX8_shape 131 = .ok (.goto (-23), 3) := by decide +kernel
theorem dX8_shape_134 : decode cX8_shape 134 = .ok (.aload_n 0, 1) := by decide +kernel
theorem dX8_shape_135 : decode cX8_shape 135 = .ok (.iconst 0, 1) := by decide +kernel
theorem dX8_shape_136 : decode cX8_shape 136 = .ok (.putfield 214, 3) := by decide +kernel
theorem dX8_shape_139 : decode cX8_shape 139 = .ok (.aload_n 0, 1) := by decide +kernel
theorem dX8_shape_140 : decode cX8_shape 140 = .ok (.getfield 211, 3) := by decide +kernel
theorem dX8_shape_143 : decode cX8_shape 143 = .ok (.ireturn, 1) := by decide +kernel
theorem dX8_fieldOf_0 : decode cX8_fieldOf 0 = .ok (.iconst 0, 1) := by decide +kernel
theorem dX8_fieldOf_1 : decode cX8_fieldOf 1 = .ok (.istore 4, 2) := by decide +kernel
theorem dX8_fieldOf_3 : decode cX8_fieldOf 3 = .ok (.iload 4, 2) := by decide +kernel
theorem dX8_fieldOf_5 : decode cX8_fieldOf 5 = .ok (.aload_n 0, 1) := by decide +kernel
theorem dX8_fieldOf_6 : decode cX8_fieldOf 6 = .ok (.getfield 208, 3) := by decide +kernel
theorem dX8_fieldOf_9 : decode cX8_fieldOf 9 = .ok (.if_icmp .ge 35, 3) := by decide +kernel
theorem dX8_fieldOf_12 : decode cX8_fieldOf 12 = .ok (.aload_n 0, 1) := by decide +kernel
theorem dX8_fieldOf_13 : decode cX8_fieldOf 13 = .ok (.getfield 37, 3) := by decide +kernel
theorem dX8_fieldOf_16 : decode cX8_fieldOf 16 = .ok (.iload 4, 2) := by decide +kernel
theorem dX8_fieldOf_18 : decode cX8_fieldOf 18 = .ok (.iaload, 1) := by decide +kernel
theorem dX8_fieldOf_19 : decode cX8_fieldOf 19 = .ok (.iload_n 1, 1) := by decide +kernel
theorem dX8_fieldOf_20 : decode cX8_fieldOf 20 = .ok (.if_icmp .ne 18, 3) := by decide +kernel
theorem dX8_fieldOf_23 : decode cX8_fieldOf 23 = .ok (.aload_n 0, 1) := by decide +kernel
theorem dX8_fieldOf_24 : decode cX8_fieldOf 24 = .ok (.getfield 40, 3) := by decide +kernel
theorem dX8_fieldOf_27 : decode cX8_fieldOf 27 = .ok (.iload 4, 2) := by decide +kernel
theorem dX8_fieldOf_29 : decode cX8_fieldOf 29 = .ok (.laload, 1) := by decide +kernel
theorem dX8_fieldOf_30 : decode cX8_fieldOf 30 = .ok (.lload_n 2, 1) := by decide +kernel
theorem dX8_fieldOf_31 : decode cX8_fieldOf 31 = .ok (.lcmp, 1) := by decide +kernel
theorem dX8_fieldOf_32 : decode cX8_fieldOf 32 = .ok (.ifCond .ne 6, 3) := by decide +kernel
theorem dX8_fieldOf_35 : decode cX8_fieldOf 35 = .ok (.iload 4, 2) := by decide +kernel
theorem dX8_fieldOf_37 : decode cX8_fieldOf 37 = .ok (.ireturn, 1) := by decide +kernel
theorem dX8_fieldOf_38 : decode cX8_fieldOf 38 = .ok (.iinc 4 1, 3) := by decide +kernel
theorem dX8_fieldOf_41 : decode cX8_fieldOf 41 = .ok (.goto (-38), 3) := by decide +kernel
theorem dX8_fieldOf_44 : decode cX8_fieldOf 44 = .ok (.iconst (-1), 1) := by decide +kernel
theorem dX8_fieldOf_45 : decode cX8_fieldOf 45 = .ok (.ireturn, 1) := by decide +kernel
theorem dX8_hasNode_0 : decode cX8_hasNode 0 = .ok (.iload_n 1, 1) := by decide +kernel
theorem dX8_hasNode_1 : decode cX8_hasNode 1 = .ok (.iconst 1, 1) := by decide +kernel
theorem dX8_hasNode_2 : decode cX8_hasNode 2 = .ok (.iadd, 1) := by decide +kernel
theorem dX8_hasNode_3 : decode cX8_hasNode 3 = .ok (.istore_n 3, 1) := by decide +kernel
theorem dX8_hasNode_4 : decode cX8_hasNode 4 = .ok (.iload_n 3, 1) := by decide +kernel
theorem dX8_hasNode_5 : decode cX8_hasNode 5 = .ok (.aload_n 0, 1) := by decide +kernel
theorem dX8_hasNode_6 : decode cX8_hasNode 6 = .ok (.getfield 217, 3) := by decide +kernel
theorem dX8_hasNode_9 : decode cX8_hasNode 9 = .ok (.if_icmp .ge 31, 3) := by decide +kernel
theorem dX8_hasNode_12 : decode cX8_hasNode 12 = .ok (.aload_n 0, 1) := by decide +kernel
theorem dX8_hasNode_13 : decode cX8_hasNode 13 = .ok (.getfield 80, 3) := by decide +kernel
theorem dX8_hasNode_16 : decode cX8_hasNode 16 = .ok (.iload_n 3, 1) := by decide +kernel
theorem dX8_hasNode_17 : decode cX8_hasNode 17 = .ok (.iaload, 1) := by decide +kernel
theorem dX8_hasNode_18 : decode cX8_hasNode 18 = .ok (.iload_n 1, 1) := by decide +kernel
theorem dX8_hasNode_19 : decode cX8_hasNode 19 = .ok (.if_icmp .ne 15, 3) := by decide +kernel
theorem dX8_hasNode_22 : decode cX8_hasNode 22 = .ok (.aload_n 0, 1) := by decide +kernel
theorem dX8_hasNode_23 : decode cX8_hasNode 23 = .ok (.getfield 77, 3) := by decide +kernel
theorem dX8_hasNode_26 : decode cX8_hasNode 26 = .ok (.iload_n 3, 1) := by decide +kernel
theorem dX8_hasNode_27 : decode cX8_hasNode 27 = .ok (.iaload, 1) := by decide +kernel
theorem dX8_hasNode_28 : decode cX8_hasNode 28 = .ok (.iload_n 2, 1) := by decide +kernel
theorem dX8_hasNode_29 : decode cX8_hasNode 29 = .ok (.if_icmp .ne 5, 3) := by decide +kernel
theorem dX8_hasNode_32 : decode cX8_hasNode 32 = .ok (.iconst 1, 1) := by decide +kernel
theorem dX8_hasNode_33 : decode cX8_hasNode 33 = .ok (.ireturn, 1) := by decide +kernel
theorem dX8_hasNode_34 : decode cX8_hasNode 34 = .ok (.iinc 3 1, 3) := by decide +kernel
theorem dX8_hasNode_37 : decode cX8_hasNode 37 = .ok (.goto (-33), 3) := by decide +kernel
theorem dX8_hasNode_40 : decode cX8_hasNode 40 = .ok (.iconst 0, 1) := by decide +kernel
theorem dX8_hasNode_41 : decode cX8_hasNode 41 = .ok (.ireturn, 1) := by decide +kernel
theorem dX8_node_0 : decode cX8_node 0 = .ok (.aload_n 0, 1) := by decide +kernel
theorem dX8_node_1 : decode cX8_node 1 = .ok (.getfield 77, 3) := by decide +kernel
theorem dX8_node_4 : decode cX8_node 4 = .ok (.aload_n 0, 1) := by decide +kernel
theorem dX8_node_5 : decode cX8_node 5 = .ok (.getfield 217, 3) := by decide +kernel
theorem dX8_node_8 : decode cX8_node 8 = .ok (.iload_n 1, 1) := by decide +kernel
theorem dX8_node_9 : decode cX8_node 9 = .ok (.iastore, 1) := by decide +kernel
theorem dX8_node_10 : decode cX8_node 10 = .ok (.aload_n 0, 1) := by decide +kernel
theorem dX8_node_11 : decode cX8_node 11 = .ok (.getfield 80, 3) := by decide +kernel
theorem dX8_node_14 : decode cX8_node 14 = .ok (.aload_n 0, 1) := by decide +kernel
theorem dX8_node_15 : decode cX8_node 15 = .ok (.getfield 217, 3) := by decide +kernel
theorem dX8_node_18 : decode cX8_node 18 = .ok (.iload_n 2, 1) := by decide +kernel
theorem dX8_node_19 : decode cX8_node 19 = .ok (.iastore, 1) := by decide +kernel
theorem dX8_node_20 : decode cX8_node 20 = .ok (.aload_n 0, 1) := by decide +kernel
theorem dX8_node_21 : decode cX8_node 21 = .ok (.getfield 83, 3) := by decide +kernel
theorem dX8_node_24 : decode cX8_node 24 = .ok (.aload_n 0, 1) := by decide +kernel
theorem dX8_node_25 : decode cX8_node 25 = .ok (.getfield 217, 3) := by decide +kernel
theorem dX8_node_28 : decode cX8_node 28 = .ok (.lload_n 3, 1) := by decide +kernel
theorem dX8_node_29 : decode cX8_node 29 = .ok (.lastore, 1) := by decide +kernel
theorem dX8_node_30 : decode cX8_node 30 = .ok (.aload_n 0, 1) := by decide +kernel
theorem dX8_node_31 : decode cX8_node 31 = .ok (.dup, 1) := by decide +kernel
theorem dX8_node_32 : decode cX8_node 32 = .ok (.getfield 217, 3) := by decide +kernel
theorem dX8_node_35 : decode cX8_node 35 = .ok (.iconst 1, 1) := by decide +kernel
theorem dX8_node_36 : decode cX8_node 36 = .ok (.iadd, 1) := by decide +kernel
theorem dX8_node_37 : decode cX8_node 37 = .ok (.putfield 217, 3) := by decide +kernel
theorem dX8_node_40 : decode cX8_node 40 = .ok (.aload_n 0, 1) := by decide +kernel
theorem dX8_node_41 : decode cX8_node 41 = .ok (.getfield 217, 3) := by decide +kernel
theorem dX8_node_44 : decode cX8_node 44 = .ok (.iconst 1, 1) := by decide +kernel
theorem dX8_node_45 : decode cX8_node 45 = .ok (.isub, 1) := by decide +kernel
theorem dX8_node_46 : decode cX8_node 46 = .ok (.ireturn, 1) := by decide +kernel
theorem dX8_lacks_0 : decode cX8_lacks 0 = .ok (.iconst 0, 1) := by decide +kernel
theorem dX8_lacks_1 : decode cX8_lacks 1 = .ok (.istore_n 2, 1) := by decide +kernel
theorem dX8_lacks_2 : decode cX8_lacks 2 = .ok (.iload_n 2, 1) := by decide +kernel
theorem dX8_lacks_3 : decode cX8_lacks 3 = .ok (.aload_n 0, 1) := by decide +kernel
theorem dX8_lacks_4 : decode cX8_lacks 4 = .ok (.getfield 208, 3) := by decide +kernel
theorem dX8_lacks_7 : decode cX8_lacks 7 = .ok (.if_icmp .ge 44, 3) := by decide +kernel
theorem dX8_lacks_10 : decode cX8_lacks 10 = .ok (.aload_n 0, 1) := by decide +kernel
theorem dX8_lacks_11 : decode cX8_lacks 11 = .ok (.getfield 37, 3) := by decide +kernel
theorem dX8_lacks_14 : decode cX8_lacks 14 = .ok (.iload_n 2, 1) := by decide +kernel
theorem dX8_lacks_15 : decode cX8_lacks 15 = .ok (.iaload, 1) := by decide +kernel
theorem dX8_lacks_16 : decode cX8_lacks 16 = .ok (.aload_n 0, 1) := by decide +kernel
theorem dX8_lacks_17 : decode cX8_lacks 17 = .ok (.getfield 77, 3) := by decide +kernel
theorem dX8_lacks_20 : decode cX8_lacks 20 = .ok (.iload_n 1, 1) := by decide +kernel
theorem dX8_lacks_21 : decode cX8_lacks 21 = .ok (.iaload, 1) := by decide +kernel
theorem dX8_lacks_22 : decode cX8_lacks 22 = .ok (.if_icmp .ne 23, 3) := by decide +kernel
theorem dX8_lacks_25 : decode cX8_lacks 25 = .ok (.aload_n 0, 1) := by decide +kernel
theorem dX8_lacks_26 : decode cX8_lacks 26 = .ok (.getfield 47, 3) := by decide +kernel
theorem dX8_lacks_29 : decode cX8_lacks 29 = .ok (.iload_n 2, 1) := by decide +kernel
theorem dX8_lacks_30 : decode cX8_lacks 30 = .ok (.iaload, 1) := by decide +kernel
theorem dX8_lacks_31 : decode cX8_lacks 31 = .ok (.ifCond .ne 14, 3) := by decide +kernel
theorem dX8_lacks_34 : decode cX8_lacks 34 = .ok (.aload_n 0, 1) := by decide +kernel
theorem dX8_lacks_35 : decode cX8_lacks 35 = .ok (.iload_n 1, 1) := by decide +kernel
theorem dX8_lacks_36 : decode cX8_lacks 36 = .ok (.iload_n 2, 1) := by decide +kernel
theorem dX8_lacks_37 : decode cX8_lacks 37 = .ok (.invokevirtual 220, 3) := by decide +kernel
theorem dX8_lacks_40 : decode cX8_lacks 40 = .ok (.ifCond .ne 5, 3) := by decide +kernel
theorem dX8_lacks_43 : decode cX8_lacks 43 = .ok (.iconst 1, 1) := by decide +kernel
theorem dX8_lacks_44 : decode cX8_lacks 44 = .ok (.ireturn, 1) := by decide +kernel
theorem dX8_lacks_45 : decode cX8_lacks 45 = .ok (.iinc 2 1, 3) := by decide +kernel
theorem dX8_lacks_48 : decode cX8_lacks 48 = .ok (.goto (-46), 3) := by decide +kernel
theorem dX8_lacks_51 : decode cX8_lacks 51 = .ok (.iconst 0, 1) := by decide +kernel
theorem dX8_lacks_52 : decode cX8_lacks 52 = .ok (.ireturn, 1) := by decide +kernel
theorem dX8_number_0 : decode cX8_number 0 = .ok (.aload_n 0, 1) := by decide +kernel
theorem dX8_number_1 : decode cX8_number 1 = .ok (.getfield 7, 3) := by decide +kernel
theorem dX8_number_4 : decode cX8_number 4 = .ok (.aload_n 0, 1) := by decide +kernel
theorem dX8_number_5 : decode cX8_number 5 = .ok (.getfield 138, 3) := by decide +kernel
theorem dX8_number_8 : decode cX8_number 8 = .ok (.iaload, 1) := by decide +kernel
theorem dX8_number_9 : decode cX8_number 9 = .ok (.bipush 45, 2) := by decide +kernel
theorem dX8_number_11 : decode cX8_number 11 = .ok (.if_icmp .ne 7, 3) := by decide +kernel
theorem dX8_number_14 : decode cX8_number 14 = .ok (.iconst 1, 1) := by decide +kernel
theorem dX8_number_15 : decode cX8_number 15 = .ok (.goto 4, 3) := by decide +kernel
theorem dX8_number_18 : decode cX8_number 18 = .ok (.iconst 0, 1) := by decide +kernel
theorem dX8_number_19 : decode cX8_number 19 = .ok (.istore_n 1, 1) := by decide +kernel
theorem dX8_number_20 : decode cX8_number 20 = .ok (.iload_n 1, 1) := by decide +kernel
theorem dX8_number_21 : decode cX8_number 21 = .ok (.ifCond .eq 13, 3) := by decide +kernel
theorem dX8_number_24 : decode cX8_number 24 = .ok (.aload_n 0, 1) := by decide +kernel
theorem dX8_number_25 : decode cX8_number 25 = .ok (.dup, 1) := by decide +kernel
theorem dX8_number_26 : decode cX8_number 26 = .ok (.getfield 138, 3) := by decide +kernel
theorem dX8_number_29 : decode cX8_number 29 = .ok (.iconst 1, 1) := by decide +kernel
theorem dX8_number_30 : decode cX8_number 30 = .ok (.iadd, 1) := by decide +kernel
theorem dX8_number_31 : decode cX8_number 31 = .ok (.putfield 138, 3) := by decide +kernel
theorem dX8_number_34 : decode cX8_number 34 = .ok (.aload_n 0, 1) := by decide +kernel
theorem dX8_number_35 : decode cX8_number 35 = .ok (.getfield 138, 3) := by decide +kernel
theorem dX8_number_38 : decode cX8_number 38 = .ok (.istore_n 2, 1) := by decide +kernel
theorem dX8_number_39 : decode cX8_number 39 = .ok (.lconst 0, 1) := by decide +kernel
theorem dX8_number_40 : decode cX8_number 40 = .ok (.lstore_n 3, 1) := by decide +kernel
theorem dX8_number_41 : decode cX8_number 41 = .ok (.aload_n 0, 1) := by decide +kernel
theorem dX8_number_42 : decode cX8_number 42 = .ok (.getfield 138, 3) := by decide +kernel
theorem dX8_number_45 : decode cX8_number 45 = .ok (.aload_n 0, 1) := by decide +kernel
theorem dX8_number_46 : decode cX8_number 46 = .ok (.getfield 141, 3) := by decide +kernel
theorem dX8_number_49 : decode cX8_number 49 = .ok (.if_icmp .ge 74, 3) := by decide +kernel
theorem dX8_number_52 : decode cX8_number 52 = .ok (.aload_n 0, 1) := by decide +kernel
theorem dX8_number_53 : decode cX8_number 53 = .ok (.getfield 7, 3) := by decide +kernel
theorem dX8_number_56 : decode cX8_number 56 = .ok (.aload_n 0, 1) := by decide +kernel
theorem dX8_number_57 : decode cX8_number 57 = .ok (.getfield 138, 3) := by decide +kernel
theorem dX8_number_60 : decode cX8_number 60 = .ok (.iaload, 1) := by decide +kernel
theorem dX8_number_61 : decode cX8_number 61 = .ok (.invokestatic 224, 3) := by decide +kernel
theorem dX8_number_64 : decode cX8_number 64 = .ok (.ifCond .eq 59, 3) := by decide +kernel
theorem dX8_number_67 : decode cX8_number 67 = .ok (.aload_n 0, 1) := by decide +kernel
theorem dX8_number_68 : decode cX8_number 68 = .ok (.getfield 138, 3) := by decide +kernel
theorem dX8_number_71 : decode cX8_number 71 = .ok (.iload_n 2, 1) := by decide +kernel
theorem dX8_number_72 : decode cX8_number 72 = .ok (.isub, 1) := by decide +kernel
theorem dX8_number_73 : decode cX8_number 73 = .ok (.bipush 6, 2) := by decide +kernel
theorem dX8_number_75 : decode cX8_number 75 = .ok (.if_icmp .ne 14, 3) := by decide +kernel
theorem dX8_number_78 : decode cX8_number 78 = .ok (.aload_n 0, 1) := by decide +kernel
theorem dX8_number_79 : decode cX8_number 79 = .ok (.iconst 1, 1) := by decide +kernel
theorem dX8_number_80 : decode cX8_number 80 = .ok (.aload_n 0, 1) := by decide +kernel
theorem dX8_number_81 : decode cX8_number 81 = .ok (.getfield 138, 3) := by decide +kernel
theorem dX8_number_84 : decode cX8_number 84 = .ok (.invokevirtual 148, 3) := by decide +kernel
theorem dX8_number_87 : decode cX8_number 87 = .ok (.lconst 0, 1) := by decide +kernel
theorem dX8_number_88 : decode cX8_number 88 = .ok (.lreturn, 1) := by decide +kernel
theorem dX8_number_89 : decode cX8_number 89 = .ok (.ldc2_w 227, 3) := by decide +kernel
theorem dX8_number_92 : decode cX8_number 92 = .ok (.lload_n 3, 1) := by decide +kernel
theorem dX8_number_93 : decode cX8_number 93 = .ok (.lmul, 1) := by decide +kernel
theorem dX8_number_94 : decode cX8_number 94 = .ok (.aload_n 0, 1) := by decide +kernel
theorem dX8_number_95 : decode cX8_number 95 = .ok (.getfield 7, 3) := by decide +kernel
theorem dX8_number_98 : decode cX8_number 98 = .ok (.aload_n 0, 1) := by decide +kernel
theorem dX8_number_99 : decode cX8_number 99 = .ok (.getfield 138, 3) := by decide +kernel
theorem dX8_number_102 : decode cX8_number 102 = .ok (.iaload, 1) := by decide +kernel
theorem dX8_number_103 : decode cX8_number 103 = .ok (.i2l, 1) := by decide +kernel
theorem dX8_number_104 : decode cX8_number 104 = .ok (.ladd, 1) := by decide +kernel
theorem dX8_number_105 : decode cX8_number 105 = .ok (.ldc2_w 229, 3) := by decide +kernel
theorem dX8_number_108 : decode cX8_number 108 = .ok (.lsub, 1) := by decide +kernel
theorem dX8_number_109 : decode cX8_number 109 = .ok (.lstore_n 3, 1) := by decide +kernel
theorem dX8_number_110 : decode cX8_number 110 = .ok (.aload_n 0, 1) := by decide +kernel
theorem dX8_number_111 : decode cX8_number 111 = .ok (.dup, 1) := by decide +kernel
theorem dX8_number_112 : decode cX8_number 112 = .ok (.getfield 138, 3) := by decide +kernel
theorem dX8_number_115 : decode cX8_number 115 = .ok (.iconst 1, 1) := by decide +kernel
theorem dX8_number_116 : decode cX8_number 116 = .ok (.iadd, 1) := by decide +kernel
theorem dX8_number_117 : decode cX8_number 117 = .ok (.putfield 138, 3) := by decide +kernel
theorem dX8_number_120 : decode cX8_number 120 = .ok (.goto (-79), 3) := by decide +kernel
theorem dX8_number_123 : decode cX8_number 123 = .ok (.aload_n 0, 1) := by decide +kernel
theorem dX8_number_124 : decode cX8_number 124 = .ok (.getfield 138, 3) := by decide +kernel
theorem dX8_number_127 : decode cX8_number 127 = .ok (.iload_n 2, 1) := by decide +kernel
theorem dX8_number_128 : decode cX8_number 128 = .ok (.if_icmp .ne 12, 3) := by decide +kernel
theorem dX8_number_131 : decode cX8_number 131 = .ok (.aload_n 0, 1) := by decide +kernel
theorem dX8_number_132 : decode cX8_number 132 = .ok (.iconst 1, 1) := by decide +kernel
theorem dX8_number_133 : decode cX8_number 133 = .ok (.aload_n 0, 1) := by decide +kernel
theorem dX8_number_134 : decode cX8_number 134 = .ok (.getfield 138, 3) := by decide +kernel
theorem dX8_number_137 : decode cX8_number 137 = .ok (.invokevirtual 148, 3) := by decide +kernel
theorem dX8_number_140 : decode cX8_number 140 = .ok (.iload_n 1, 1) := by decide +kernel
theorem dX8_number_141 : decode cX8_number 141 = .ok (.ifCond .eq 8, 3) := by decide +kernel
theorem dX8_number_144 : decode cX8_number 144 = .ok (.lload_n 3, 1) := by decide +kernel
theorem dX8_number_145 : decode cX8_number 145 = .ok (.lneg, 1) := by decide +kernel
theorem dX8_number_146 : decode cX8_number 146 = .ok (.goto 4, 3) := by decide +kernel
theorem dX8_number_149 : decode cX8_number 149 = .ok (.lload_n 3, 1) := by decide +kernel
theorem dX8_number_150 : decode cX8_number 150 = .ok (.lreturn, 1) := by decide +kernel
theorem dX8_entry_0 : decode cX8_entry 0 = .ok (.aload_n 0, 1) := by decide +kernel
theorem dX8_entry_1 : decode cX8_entry 1 = .ok (.invokevirtual 144, 3) := by decide +kernel
theorem dX8_entry_4 : decode cX8_entry 4 = .ok (.pop, 1) := by decide +kernel
theorem dX8_entry_5 : decode cX8_entry 5 = .ok (.aload_n 0, 1) := by decide +kernel
theorem dX8_entry_6 : decode cX8_entry 6 = .ok (.getfield 138, 3) := by decide +kernel
theorem dX8_entry_9 : decode cX8_entry 9 = .ok (.istore_n 1, 1) := by decide +kernel
theorem dX8_entry_10 : decode cX8_entry 10 = .ok (.aload_n 0, 1) := by decide +kernel
theorem dX8_entry_11 : decode cX8_entry 11 = .ok (.invokevirtual 165, 3) := by decide +kernel
theorem dX8_entry_14 : decode cX8_entry 14 = .ok (.lstore_n 2, 1) := by decide +kernel
theorem dX8_entry_15 : decode cX8_entry 15 = .ok (.aload_n 0, 1) := by decide +kernel
theorem dX8_entry_16 : decode cX8_entry 16 = .ok (.getfield 132, 3) := by decide +kernel
theorem dX8_entry_19 : decode cX8_entry 19 = .ok (.ifCond .eq 4, 3) := by decide +kernel
theorem dX8_entry_22 : decode cX8_entry 22 = .ok (.return_, 1) := by decide +kernel
theorem dX8_entry_23 : decode cX8_entry 23 = .ok (.aload_n 0, 1) := by decide +kernel
theorem dX8_entry_24 : decode cX8_entry 24 = .ok (.getfield 68, 3) := by decide +kernel
theorem dX8_entry_27 : decode cX8_entry 27 = .ok (.aload_n 0, 1) := by decide +kernel
theorem dX8_entry_28 : decode cX8_entry 28 = .ok (.getfield 180, 3) := by decide +kernel
theorem dX8_entry_31 : decode cX8_entry 31 = .ok (.iaload, 1) := by decide +kernel
theorem dX8_entry_32 : decode cX8_entry 32 = .ok (.istore 4, 2) := by decide +kernel
theorem dX8_entry_34 : decode cX8_entry 34 = .ok (.aload_n 0, 1) := by decide +kernel
theorem dX8_entry_35 : decode cX8_entry 35 = .ok (.aload_n 0, 1) := by decide +kernel
theorem dX8_entry_36 : decode cX8_entry 36 = .ok (.getfield 77, 3) := by decide +kernel
theorem dX8_entry_39 : decode cX8_entry 39 = .ok (.iload 4, 2) := by decide +kernel
theorem dX8_entry_41 : decode cX8_entry 41 = .ok (.iaload, 1) := by decide +kernel
theorem dX8_entry_42 : decode cX8_entry 42 = .ok (.lload_n 2, 1) := by decide +kernel
theorem dX8_entry_43 : decode cX8_entry 43 = .ok (.invokevirtual 231, 3) := by decide +kernel
theorem dX8_entry_46 : decode cX8_entry 46 = .ok (.istore 5, 2) := by decide +kernel
theorem dX8_entry_48 : decode cX8_entry 48 = .ok (.iload 5, 2) := by decide +kernel
theorem dX8_entry_50 : decode cX8_entry 50 = .ok (.iconst (-1), 1) := by decide +kernel
theorem dX8_entry_51 : decode cX8_entry 51 = .ok (.if_icmp .ne 12, 3) := by decide +kernel
theorem dX8_entry_54 : decode cX8_entry 54 = .ok (.aload_n 0, 1) := by decide +kernel
theorem dX8_entry_55 : decode cX8_entry 55 = .ok (.iconst 2, 1) := by decide +kernel
theorem dX8_entry_56 : decode cX8_entry 56 = .ok (.iload_n 1, 1) := by decide +kernel
theorem dX8_entry_57 : decode cX8_entry 57 = .ok (.invokevirtual 148, 3) := by decide +kernel
theorem dX8_entry_60 : decode cX8_entry 60 = .ok (.goto 31, 3) := by decide +kernel
theorem dX8_entry_63 : decode cX8_entry 63 = .ok (.aload_n 0, 1) := by decide +kernel
theorem dX8_entry_64 : decode cX8_entry 64 = .ok (.getfield 47, 3) := by decide +kernel
theorem dX8_entry_67 : decode cX8_entry 67 = .ok (.iload 5, 2) := by decide +kernel
theorem dX8_entry_69 : decode cX8_entry 69 = .ok (.iaload, 1) := by decide +kernel
theorem dX8_entry_70 : decode cX8_entry 70 = .ok (.iconst 2, 1) := by decide +kernel
theorem dX8_entry_71 : decode cX8_entry 71 = .ok (.if_icmp .eq 20, 3) := by decide +kernel
theorem dX8_entry_74 : decode cX8_entry 74 = .ok (.aload_n 0, 1) := by decide +kernel
theorem dX8_entry_75 : decode cX8_entry 75 = .ok (.iload 4, 2) := by decide +kernel
theorem dX8_entry_77 : decode cX8_entry 77 = .ok (.iload 5, 2) := by decide +kernel
theorem dX8_entry_79 : decode cX8_entry 79 = .ok (.invokevirtual 220, 3) := by decide +kernel
theorem dX8_entry_82 : decode cX8_entry 82 = .ok (.ifCond .eq 9, 3) := by decide +kernel
theorem dX8_entry_85 : decode cX8_entry 85 = .ok (.aload_n 0, 1) := by decide +kernel
theorem dX8_entry_86 : decode cX8_entry 86 = .ok (.iconst 3, 1) := by decide +kernel
theorem dX8_entry_87 : decode cX8_entry 87 = .ok (.iload_n 1, 1) := by decide +kernel
theorem dX8_entry_88 : decode cX8_entry 88 = .ok (.invokevirtual 148, 3) := by decide +kernel
theorem dX8_entry_91 : decode cX8_entry 91 = .ok (.aload_n 0, 1) := by decide +kernel
theorem dX8_entry_92 : decode cX8_entry 92 = .ok (.getfield 132, 3) := by decide +kernel
theorem dX8_entry_95 : decode cX8_entry 95 = .ok (.ifCond .ne 9, 3) := by decide +kernel
theorem dX8_entry_98 : decode cX8_entry 98 = .ok (.aload_n 0, 1) := by decide +kernel
theorem dX8_entry_99 : decode cX8_entry 99 = .ok (.bipush 58, 2) := by decide +kernel
theorem dX8_entry_101 : decode cX8_entry 101 = .ok (.invokevirtual 169, 3) := by decide +kernel
theorem dX8_entry_104 : decode cX8_entry 104 = .ok (.aload_n 0, 1) := by decide +kernel
theorem dX8_entry_105 : decode cX8_entry 105 = .ok (.getfield 132, 3) := by decide +kernel
theorem dX8_entry_108 : decode cX8_entry 108 = .ok (.ifCond .eq 4, 3) := by decide +kernel
theorem dX8_entry_111 : decode cX8_entry 111 = .ok (.return_, 1) := by decide +kernel
theorem dX8_entry_112 : decode cX8_entry 112 = .ok (.aload_n 0, 1) := by decide +kernel
theorem dX8_entry_113 : decode cX8_entry 113 = .ok (.invokevirtual 144, 3) := by decide +kernel
theorem dX8_entry_116 : decode cX8_entry 116 = .ok (.istore 6, 2) := by decide +kernel
theorem dX8_entry_118 : decode cX8_entry 118 = .ok (.iload 6, 2) := by decide +kernel
theorem dX8_entry_120 : decode cX8_entry 120 = .ok (.invokestatic 224, 3) := by decide +kernel
theorem dX8_entry_123 : decode cX8_entry 123 = .ok (.ifCond .ne 10, 3) := by decide +kernel
theorem dX8_entry_126 : decode cX8_entry 126 = .ok (.iload 6, 2) := by decide +kernel
theorem dX8_entry_128 : decode cX8_entry 128 = .ok (.bipush 45, 2) := by decide +kernel
theorem dX8_entry_130 : decode cX8_entry 130 = .ok (.if_icmp .ne 7, 3) := by decide +kernel
theorem dX8_entry_133 : decode cX8_entry 133 = .ok (.iconst 0, 1) := by decide +kernel
theorem dX8_entry_134 : decode cX8_entry 134 = .ok (.goto 27, 3) := by decide +kernel
theorem dX8_entry_137 : decode cX8_entry 137 = .ok (.iload 6, 2) := by decide +kernel
theorem dX8_entry_139 : decode cX8_entry 139 = .ok (.invokestatic 152, 3) := by decide +kernel
theorem dX8_entry_142 : decode cX8_entry 142 = .ok (.ifCond .eq 7, 3) := by decide +kernel
theorem dX8_entry_145 : decode cX8_entry 145 = .ok (.iconst 1, 1) := by decide +kernel
theorem dX8_entry_146 : decode cX8_entry 146 = .ok (.goto 15, 3) := by decide +kernel
theorem dX8_entry_149 : decode cX8_entry 149 = .ok (.iload 6, 2) := by decide +kernel
theorem dX8_entry_151 : decode cX8_entry 151 = .ok (.bipush 91, 2) := by decide +kernel
theorem dX8_entry_153 : decode cX8_entry 153 = .ok (.if_icmp .ne 7, 3) := by decide +kernel
theorem dX8_entry_156 : decode cX8_entry 156 = .ok (.iconst 2, 1) := by decide +kernel
theorem dX8_entry_157 : decode cX8_entry 157 = .ok (.goto 4, 3) := by decide +kernel
theorem dX8_entry_160 : decode cX8_entry 160 = .ok (.iconst (-1), 1) := by decide +kernel
theorem dX8_entry_161 : decode cX8_entry 161 = .ok (.istore 7, 2) := by decide +kernel
theorem dX8_entry_163 : decode cX8_entry 163 = .ok (.iload 7, 2) := by decide +kernel
theorem dX8_entry_165 : decode cX8_entry 165 = .ok (.iconst (-1), 1) := by decide +kernel
theorem dX8_entry_166 : decode cX8_entry 166 = .ok (.if_icmp .ne 15, 3) := by decide +kernel
theorem dX8_entry_169 : decode cX8_entry 169 = .ok (.aload_n 0, 1) := by decide +kernel
theorem dX8_entry_170 : decode cX8_entry 170 = .ok (.iconst 1, 1) := by decide +kernel
theorem dX8_entry_171 : decode cX8_entry 171 = .ok (.aload_n 0, 1) := by decide +kernel
theorem dX8_entry_172 : decode cX8_entry 172 = .ok (.getfield 138, 3) := by decide +kernel
theorem dX8_entry_175 : decode cX8_entry 175 = .ok (.invokevirtual 148, 3) := by decide +kernel
theorem dX8_entry_178 : decode cX8_entry 178 = .ok (.goto 24, 3) := by decide +kernel
theorem dX8_entry_181 : decode cX8_entry 181 = .ok (.iload 7, 2) := by decide +kernel
theorem dX8_entry_183 : decode cX8_entry 183 = .ok (.aload_n 0, 1) := by decide +kernel
theorem dX8_entry_184 : decode cX8_entry 184 = .ok (.getfield 44, 3) := by decide +kernel
theorem dX8_entry_187 : decode cX8_entry 187 = .ok (.iload 5, 2) := by decide +kernel
theorem dX8_entry_189 : decode cX8_entry 189 = .ok (.iaload, 1) := by decide +kernel
theorem dX8_entry_190 : decode cX8_entry 190 = .ok (.if_icmp .eq 12, 3) := by decide +kernel
theorem dX8_entry_193 : decode cX8_entry 193 = .ok (.aload_n 0, 1) := by decide +kernel
theorem dX8_entry_194 : decode cX8_entry 194 = .ok (.iconst 5, 1) := by decide +kernel
theorem dX8_entry_195 : decode cX8_entry 195 = .ok (.aload_n 0, 1) := by decide +kernel
theorem dX8_entry_196 : decode cX8_entry 196 = .ok (.getfield 138, 3) := by decide +kernel
theorem dX8_entry_199 : decode cX8_entry 199 = .ok (.invokevirtual 148, 3) := by decide +kernel
theorem dX8_entry_202 : decode cX8_entry 202 = .ok (.aload_n 0, 1) := by decide +kernel
theorem dX8_entry_203 : decode cX8_entry 203 = .ok (.getfield 132, 3) := by decide +kernel
theorem dX8_entry_206 : decode cX8_entry 206 = .ok (.ifCond .eq 4, 3) := by decide +kernel
theorem dX8_entry_209 : decode cX8_entry 209 = .ok (.return_, 1) := by decide +kernel
theorem dX8_entry_210 : decode cX8_entry 210 = .ok (.iload 7, 2) := by decide +kernel
theorem dX8_entry_212 : decode cX8_entry 212 = .ok (.iconst 2, 1) := by decide +kernel
theorem dX8_entry_213 : decode cX8_entry 213 = .ok (.if_icmp .ne 42, 3) := by decide +kernel
theorem dX8_entry_216 : decode cX8_entry 216 = .ok (.aload_n 0, 1) := by decide +kernel
theorem dX8_entry_217 : decode cX8_entry 217 = .ok (.dup, 1) := by decide +kernel
theorem dX8_entry_218 : decode cX8_entry 218 = .ok (.getfield 138, 3) := by decide +kernel
theorem dX8_entry_221 : decode cX8_entry 221 = .ok (.iconst 1, 1) := by decide +kernel
theorem dX8_entry_222 : decode cX8_entry 222 = .ok (.iadd, 1) := by decide +kernel
theorem dX8_entry_223 : decode cX8_entry 223 = .ok (.putfield 138, 3) := by decide +kernel
theorem dX8_entry_226 : decode cX8_entry 226 = .ok (.aload_n 0, 1) := by decide +kernel
theorem dX8_entry_227 : decode cX8_entry 227 = .ok (.dup, 1) := by decide +kernel
theorem dX8_entry_228 : decode cX8_entry 228 = .ok (.getfield 180, 3) := by decide +kernel
theorem dX8_entry_231 : decode cX8_entry 231 = .ok (.iconst 1, 1) := by decide +kernel
theorem dX8_entry_232 : decode cX8_entry 232 = .ok (.iadd, 1) := by decide +kernel
theorem dX8_entry_233 : decode cX8_entry 233 = .ok (.putfield 180, 3) := by decide +kernel
theorem dX8_entry_236 : decode cX8_entry 236 = .ok (.aload_n 0, 1) := by decide +kernel
theorem dX8_entry_237 : decode cX8_entry 237 = .ok (.getfield 68, 3) := by decide +kernel
theorem dX8_entry_240 : decode cX8_entry 240 = .ok (.aload_n 0, 1) := by decide +kernel
theorem dX8_entry_241 : decode cX8_entry 241 = .ok (.getfield 180, 3) := by decide +kernel
theorem dX8_entry_244 : decode cX8_entry 244 = .ok (.aload_n 0, 1) := by decide +kernel
theorem dX8_entry_245 : decode cX8_entry 245 = .ok (.iload 5, 2) := by decide +kernel
theorem dX8_entry_247 : decode cX8_entry 247 = .ok (.iload 4, 2) := by decide +kernel
theorem dX8_entry_249 : decode cX8_entry 249 = .ok (.lconst 0, 1) := by decide +kernel
theorem dX8_entry_250 : decode cX8_entry 250 = .ok (.invokevirtual 235, 3) := by decide +kernel
theorem dX8_entry_253 : decode cX8_entry 253 = .ok (.iastore, 1) := by decide +kernel
theorem dX8_entry_254 : decode cX8_entry 254 = .ok (.return_, 1) := by decide +kernel
theorem dX8_entry_255 : decode cX8_entry 255 = .ok (.iload 7, 2) := by decide +kernel
theorem dX8_entry_257 : decode cX8_entry 257 = .ok (.ifCond .ne 10, 3) := by decide +kernel
theorem dX8_entry_260 : decode cX8_entry 260 = .ok (.aload_n 0, 1) := by decide +kernel
theorem dX8_entry_261 : decode cX8_entry 261 = .ok (.invokevirtual 239, 3) := by decide +kernel
theorem dX8_entry_264 : decode cX8_entry 264 = .ok (.goto 7, 3) := by decide +kernel
theorem dX8_entry_267 : decode cX8_entry 267 = .ok (.aload_n 0, 1) := by decide +kernel
theorem dX8_entry_268 : decode cX8_entry 268 = .ok (.invokevirtual 173, 3) := by decide +kernel
theorem dX8_entry_271 : decode cX8_entry 271 = .ok (.lstore 8, 2) := by decide +kernel
theorem dX8_entry_273 : decode cX8_entry 273 = .ok (.aload_n 0, 1) := by decide +kernel
theorem dX8_entry_274 : decode cX8_entry 274 = .ok (.getfield 132, 3) := by decide +kernel
theorem dX8_entry_277 : decode cX8_entry 277 = .ok (.ifCond .eq 4, 3) := by decide +kernel
theorem dX8_entry_280 : decode cX8_entry 280 = .ok (.return_, 1) := by decide +kernel
theorem dX8_entry_281 : decode cX8_entry 281 = .ok (.aload_n 0, 1) := by decide +kernel
theorem dX8_entry_282 : decode cX8_entry 282 = .ok (.iload 5, 2) := by decide +kernel
theorem dX8_entry_284 : decode cX8_entry 284 = .ok (.iload 4, 2) := by decide +kernel
theorem dX8_entry_286 : decode cX8_entry 286 = .ok (.lload 8, 2) := by decide +kernel
theorem dX8_entry_288 : decode cX8_entry 288 = .ok (.invokevirtual 235, 3) := by decide +kernel
theorem dX8_entry_291 : decode cX8_entry 291 = .ok (.pop, 1) := by decide +kernel
theorem dX8_entry_292 : decode cX8_entry 292 = .ok (.aload_n 0, 1) := by decide +kernel
theorem dX8_entry_293 : decode cX8_entry 293 = .ok (.bipush 59, 2) := by decide +kernel
theorem dX8_entry_295 : decode cX8_entry 295 = .ok (.invokevirtual 169, 3) := by decide +kernel
theorem dX8_entry_298 : decode cX8_entry 298 = .ok (.return_, 1) := by decide +kernel
theorem dX8_readsPaper_0 : decode cX8_readsPaper 0 = .ok (.aload_n 0, 1) := by decide +kernel
theorem dX8_readsPaper_1 : decode cX8_readsPaper 1 = .ok (.iconst 0, 1) := by decide +kernel
theorem dX8_readsPaper_2 : decode cX8_readsPaper 2 = .ok (.putfield 180, 3) := by decide +kernel
theorem dX8_readsPaper_5 : decode cX8_readsPaper 5 = .ok (.aload_n 0, 1) := by decide +kernel
theorem dX8_readsPaper_6 : decode cX8_readsPaper 6 = .ok (.aload_n 0, 1) := by decide +kernel
theorem dX8_readsPaper_7 : decode cX8_readsPaper 7 = .ok (.getfield 74, 3) := by decide +kernel
theorem dX8_readsPaper_10 : decode cX8_readsPaper 10 = .ok (.aload_n 0, 1) := by decide +kernel
theorem dX8_readsPaper_11 : decode cX8_readsPaper 11 = .ok (.getfield 214, 3) := by decide +kernel
theorem dX8_readsPaper_14 : decode cX8_readsPaper 14 = .ok (.iaload, 1) := by decide +kernel
theorem dX8_readsPaper_15 : decode cX8_readsPaper 15 = .ok (.putfield 217, 3) := by decide +kernel
theorem dX8_readsPaper_18 : decode cX8_readsPaper 18 = .ok (.aload_n 0, 1) := by decide +kernel
theorem dX8_readsPaper_19 : decode cX8_readsPaper 19 = .ok (.getfield 68, 3) := by decide +kernel
theorem dX8_readsPaper_22 : decode cX8_readsPaper 22 = .ok (.iconst 0, 1) := by decide +kernel
theorem dX8_readsPaper_23 : decode cX8_readsPaper 23 = .ok (.aload_n 0, 1) := by decide +kernel
theorem dX8_readsPaper_24 : decode cX8_readsPaper 24 = .ok (.iconst (-1), 1) := by decide +kernel
theorem dX8_readsPaper_25 : decode cX8_readsPaper 25 = .ok (.iconst (-1), 1) := by decide +kernel
theorem dX8_readsPaper_26 : decode cX8_readsPaper 26 = .ok (.lconst 0, 1) := by decide +kernel
theorem dX8_readsPaper_27 : decode cX8_readsPaper 27 = .ok (.invokevirtual 235, 3) := by decide +kernel
theorem dX8_readsPaper_30 : decode cX8_readsPaper 30 = .ok (.iastore, 1) := by decide +kernel
theorem dX8_readsPaper_31 : decode cX8_readsPaper 31 = .ok (.iconst 1, 1) := by decide +kernel
theorem dX8_readsPaper_32 : decode cX8_readsPaper 32 = .ok (.istore_n 1, 1) := by decide +kernel
theorem dX8_readsPaper_33 : decode cX8_readsPaper 33 = .ok (.iload_n 1, 1) := by decide +kernel
theorem dX8_readsPaper_34 : decode cX8_readsPaper 34 = .ok (.ifCond .eq 147, 3) := by decide +kernel
theorem dX8_readsPaper_37 : decode cX8_readsPaper 37 = .ok (.aload_n 0, 1) := by decide +kernel
theorem dX8_readsPaper_38 : decode cX8_readsPaper 38 = .ok (.getfield 132, 3) := by decide +kernel
theorem dX8_readsPaper_41 : decode cX8_readsPaper 41 = .ok (.ifCond .ne 140, 3) := by decide +kernel
theorem dX8_readsPaper_44 : decode cX8_readsPaper 44 = .ok (.aload_n 0, 1) := by decide +kernel
theorem dX8_readsPaper_45 : decode cX8_readsPaper 45 = .ok (.invokevirtual 144, 3) := by decide +kernel
theorem dX8_readsPaper_48 : decode cX8_readsPaper 48 = .ok (.istore_n 2, 1) := by decide +kernel
theorem dX8_readsPaper_49 : decode cX8_readsPaper 49 = .ok (.iload_n 2, 1) := by decide +kernel
theorem dX8_readsPaper_50 : decode cX8_readsPaper 50 = .ok (.iconst (-1), 1) := by decide +kernel
theorem dX8_readsPaper_51 : decode cX8_readsPaper 51 = .ok (.if_icmp .ne 49, 3) := by decide +kernel
theorem dX8_readsPaper_54 : decode cX8_readsPaper 54 = .ok (.iconst 0, 1) := by decide +kernel
theorem dX8_readsPaper_55 : decode cX8_readsPaper 55 = .ok (.istore_n 1, 1) := by decide +kernel
theorem dX8_readsPaper_56 : decode cX8_readsPaper 56 = .ok (.aload_n 0, 1) := by decide +kernel
theorem dX8_readsPaper_57 : decode cX8_readsPaper 57 = .ok (.getfield 180, 3) := by decide +kernel
theorem dX8_readsPaper_60 : decode cX8_readsPaper 60 = .ok (.ifCond .le 15, 3) := by decide +kernel
theorem dX8_readsPaper_63 : decode cX8_readsPaper 63 = .ok (.aload_n 0, 1) := by decide +kernel
theorem dX8_readsPaper_64 : decode cX8_readsPaper 64 = .ok (.iconst 1, 1) := by decide +kernel
theorem dX8_readsPaper_65 : decode cX8_readsPaper 65 = .ok (.aload_n 0, 1) := by decide +kernel
theorem dX8_readsPaper_66 : decode cX8_readsPaper 66 = .ok (.getfield 138, 3) := by decide +kernel
theorem dX8_readsPaper_69 : decode cX8_readsPaper 69 = .ok (.invokevirtual 148, 3) := by decide +kernel
theorem dX8_readsPaper_72 : decode cX8_readsPaper 72 = .ok (.goto 106, 3) := by decide +kernel
theorem dX8_readsPaper_75 : decode cX8_readsPaper 75 = .ok (.aload_n 0, 1) := by decide +kernel
theorem dX8_readsPaper_76 : decode cX8_readsPaper 76 = .ok (.aload_n 0, 1) := by decide +kernel
theorem dX8_readsPaper_77 : decode cX8_readsPaper 77 = .ok (.getfield 68, 3) := by decide +kernel
theorem dX8_readsPaper_80 : decode cX8_readsPaper 80 = .ok (.iconst 0, 1) := by decide +kernel
theorem dX8_readsPaper_81 : decode cX8_readsPaper 81 = .ok (.iaload, 1) := by decide +kernel
theorem dX8_readsPaper_82 : decode cX8_readsPaper 82 = .ok (.invokevirtual 242, 3) := by decide +kernel
theorem dX8_readsPaper_85 : decode cX8_readsPaper 85 = .ok (.ifCond .eq 93, 3) := by decide +kernel
theorem dX8_readsPaper_88 : decode cX8_readsPaper 88 = .ok (.aload_n 0, 1) := by decide +kernel
theorem dX8_readsPaper_89 : decode cX8_readsPaper 89 = .ok (.iconst 4, 1) := by decide +kernel
theorem dX8_readsPaper_90 : decode cX8_readsPaper 90 = .ok (.aload_n 0, 1) := by decide +kernel
theorem dX8_readsPaper_91 : decode cX8_readsPaper 91 = .ok (.getfield 138, 3) := by decide +kernel
theorem dX8_readsPaper_94 : decode cX8_readsPaper 94 = .ok (.invokevirtual 148, 3) := by decide +kernel
theorem dX8_readsPaper_97 : decode cX8_readsPaper 97 = .ok (.goto 81, 3) := by decide +kernel
theorem dX8_readsPaper_100 : decode cX8_readsPaper 100 = .ok (.iload_n 2, 1) := by decide +kernel
theorem dX8_readsPaper_101 : decode cX8_readsPaper 101 = .ok (.bipush 93, 2) := by decide +kernel
theorem dX8_readsPaper_103 : decode cX8_readsPaper 103 = .ok (.if_icmp .ne 71, 3) := by decide +kernel
theorem dX8_readsPaper_106 : decode cX8_readsPaper 106 = .ok (.aload_n 0, 1) := by decide +kernel
theorem dX8_readsPaper_107 : decode cX8_readsPaper 107 = .ok (.getfield 180, 3) := by decide +kernel
theorem dX8_readsPaper_110 : decode cX8_readsPaper 110 = .ok (.ifCond .le 64, 3) := by decide +kernel
theorem dX8_readsPaper_113 : decode cX8_readsPaper 113 = .ok (.aload_n 0, 1) := by decide +kernel
theorem dX8_readsPaper_114 : decode cX8_readsPaper 114 = .ok (.aload_n 0, 1) := by decide +kernel
theorem dX8_readsPaper_115 : decode cX8_readsPaper 115 = .ok (.getfield 68, 3) := by decide +kernel
theorem dX8_readsPaper_118 : decode cX8_readsPaper 118 = .ok (.aload_n 0, 1) := by decide +kernel
theorem dX8_readsPaper_119 : decode cX8_readsPaper 119 = .ok (.getfield 180, 3) := by decide +kernel
theorem dX8_readsPaper_122 : decode cX8_readsPaper 122 = .ok (.iaload, 1) := by decide +kernel
theorem dX8_readsPaper_123 : decode cX8_readsPaper 123 = .ok (.invokevirtual 242, 3) := by decide +kernel
theorem dX8_readsPaper_126 : decode cX8_readsPaper 126 = .ok (.ifCond .eq 12, 3) := by decide +kernel
theorem dX8_readsPaper_129 : decode cX8_readsPaper 129 = .ok (.aload_n 0, 1) := by decide +kernel
theorem dX8_readsPaper_130 : decode cX8_readsPaper 130 = .ok (.iconst 4, 1) := by decide +kernel
theorem dX8_readsPaper_131 : decode cX8_readsPaper 131 = .ok (.aload_n 0, 1) := by decide +kernel
theorem dX8_readsPaper_132 : decode cX8_readsPaper 132 = .ok (.getfield 138, 3) := by decide +kernel
theorem dX8_readsPaper_135 : decode cX8_readsPaper 135 = .ok (.invokevirtual 148, 3) := by decide +kernel
theorem dX8_readsPaper_138 : decode cX8_readsPaper 138 = .ok (.aload_n 0, 1) := by decide +kernel
theorem dX8_readsPaper_139 : decode cX8_readsPaper 139 = .ok (.dup, 1) := by decide +kernel
theorem dX8_readsPaper_140 : decode cX8_readsPaper 140 = .ok (.getfield 138, 3) := by decide +kernel
theorem dX8_readsPaper_143 : decode cX8_readsPaper 143 = .ok (.iconst 1, 1) := by decide +kernel
theorem dX8_readsPaper_144 : decode cX8_readsPaper 144 = .ok (.iadd, 1) := by decide +kernel
theorem dX8_readsPaper_145 : decode cX8_readsPaper 145 = .ok (.putfield 138, 3) := by decide +kernel
theorem dX8_readsPaper_148 : decode cX8_readsPaper 148 = .ok (.aload_n 0, 1) := by decide +kernel
theorem dX8_readsPaper_149 : decode cX8_readsPaper 149 = .ok (.dup, 1) := by decide +kernel
theorem dX8_readsPaper_150 : decode cX8_readsPaper 150 = .ok (.getfield 180, 3) := by decide +kernel
theorem dX8_readsPaper_153 : decode cX8_readsPaper 153 = .ok (.iconst 1, 1) := by decide +kernel
theorem dX8_readsPaper_154 : decode cX8_readsPaper 154 = .ok (.isub, 1) := by decide +kernel
theorem dX8_readsPaper_155 : decode cX8_readsPaper 155 = .ok (.putfield 180, 3) := by decide +kernel
theorem dX8_readsPaper_158 : decode cX8_readsPaper 158 = .ok (.aload_n 0, 1) := by decide +kernel
theorem dX8_readsPaper_159 : decode cX8_readsPaper 159 = .ok (.getfield 132, 3) := by decide +kernel
theorem dX8_readsPaper_162 : decode cX8_readsPaper 162 = .ok (.ifCond .ne 16, 3) := by decide +kernel
theorem dX8_readsPaper_165 : decode cX8_readsPaper 165 = .ok (.aload_n 0, 1) := by decide +kernel
theorem dX8_readsPaper_166 : decode cX8_readsPaper 166 = .ok (.bipush 59, 2) := by decide +kernel
theorem dX8_readsPaper_168 : decode cX8_readsPaper 168 = .ok (.invokevirtual 169, 3) := by decide +kernel
theorem dX8_readsPaper_171 : decode cX8_readsPaper 171 = .ok (.goto 7, 3) := by decide +kernel
theorem dX8_readsPaper_174 : decode cX8_readsPaper 174 = .ok (.aload_n 0, 1) := by decide +kernel
theorem dX8_readsPaper_175 : decode cX8_readsPaper 175 = .ok (.invokevirtual 245, 3) := by decide +kernel
theorem dX8_readsPaper_178 : decode cX8_readsPaper 178 = .ok (.goto (-145), 3) := by decide +kernel
theorem dX8_readsPaper_181 : decode cX8_readsPaper 181 = .ok (.return_, 1) := by decide +kernel
theorem dX8_paper_0 : decode cX8_paper 0 = .ok (.aload_n 0, 1) := by decide +kernel
theorem dX8_paper_1 : decode cX8_paper 1 = .ok (.getfield 204, 3) := by decide +kernel
theorem dX8_paper_4 : decode cX8_paper 4 = .ok (.ifCond .eq 12, 3) := by decide +kernel
theorem dX8_paper_7 : decode cX8_paper 7 = .ok (.aload_n 0, 1) := by decide +kernel
theorem dX8_paper_8 : decode cX8_paper 8 = .ok (.getfield 214, 3) := by decide +kernel
theorem dX8_paper_11 : decode cX8_paper 11 = .ok (.bipush 30, 2) := by decide +kernel
theorem dX8_paper_13 : decode cX8_paper 13 = .ok (.if_icmp .ne 11, 3) := by decide +kernel
theorem dX8_paper_16 : decode cX8_paper 16 = .ok (.aload_n 0, 1) := by decide +kernel
theorem dX8_paper_17 : decode cX8_paper 17 = .ok (.iconst 0, 1) := by decide +kernel
theorem dX8_paper_18 : decode cX8_paper 18 = .ok (.putfield 129, 3) := by decide +kernel
theorem dX8_paper_21 : decode cX8_paper 21 = .ok (.bipush (-2), 2) := by decide +kernel
theorem dX8_paper_23 : decode cX8_paper 23 = .ok (.ireturn, 1) := by decide +kernel
theorem dX8_paper_24 : decode cX8_paper 24 = .ok (.aload_n 0, 1) := by decide +kernel
theorem dX8_paper_25 : decode cX8_paper 25 = .ok (.invokevirtual 195, 3) := by decide +kernel
theorem dX8_paper_28 : decode cX8_paper 28 = .ok (.aload_n 0, 1) := by decide +kernel
theorem dX8_paper_29 : decode cX8_paper 29 = .ok (.getfield 214, 3) := by decide +kernel
theorem dX8_paper_32 : decode cX8_paper 32 = .ok (.ifCond .ne 10, 3) := by decide +kernel
theorem dX8_paper_35 : decode cX8_paper 35 = .ok (.aload_n 0, 1) := by decide +kernel
theorem dX8_paper_36 : decode cX8_paper 36 = .ok (.getfield 74, 3) := by decide +kernel
theorem dX8_paper_39 : decode cX8_paper 39 = .ok (.iconst 0, 1) := by decide +kernel
theorem dX8_paper_40 : decode cX8_paper 40 = .ok (.iconst 0, 1) := by decide +kernel
theorem dX8_paper_41 : decode cX8_paper 41 = .ok (.iastore, 1) := by decide +kernel
theorem dX8_paper_42 : decode cX8_paper 42 = .ok (.aload_n 0, 1) := by decide +kernel
theorem dX8_paper_43 : decode cX8_paper 43 = .ok (.invokevirtual 248, 3) := by decide +kernel
theorem dX8_paper_46 : decode cX8_paper 46 = .ok (.aload_n 0, 1) := by decide +kernel
theorem dX8_paper_47 : decode cX8_paper 47 = .ok (.invokevirtual 201, 3) := by decide +kernel
theorem dX8_paper_50 : decode cX8_paper 50 = .ok (.aload_n 0, 1) := by decide +kernel
theorem dX8_paper_51 : decode cX8_paper 51 = .ok (.getfield 132, 3) := by decide +kernel
theorem dX8_paper_54 : decode cX8_paper 54 = .ok (.ifCond .eq 5, 3) := by decide +kernel
theorem dX8_paper_57 : decode cX8_paper 57 = .ok (.iconst (-1), 1) := by decide +kernel
theorem dX8_paper_58 : decode cX8_paper 58 = .ok (.ireturn, 1) := by decide +kernel
theorem dX8_paper_59 : decode cX8_paper 59 = .ok (.aload_n 0, 1) := by decide +kernel
theorem dX8_paper_60 : decode cX8_paper 60 = .ok (.dup, 1) := by decide +kernel
theorem dX8_paper_61 : decode cX8_paper 61 = .ok (.getfield 214, 3) := by decide +kernel
theorem dX8_paper_64 : decode cX8_paper 64 = .ok (.iconst 1, 1) := by decide +kernel
theorem dX8_paper_65 : decode cX8_paper 65 = .ok (.iadd, 1) := by decide +kernel
theorem dX8_paper_66 : decode cX8_paper 66 = .ok (.putfield 214, 3) := by decide +kernel
theorem dX8_paper_69 : decode cX8_paper 69 = .ok (.aload_n 0, 1) := by decide +kernel
theorem dX8_paper_70 : decode cX8_paper 70 = .ok (.getfield 74, 3) := by decide +kernel
theorem dX8_paper_73 : decode cX8_paper 73 = .ok (.aload_n 0, 1) := by decide +kernel
theorem dX8_paper_74 : decode cX8_paper 74 = .ok (.getfield 214, 3) := by decide +kernel
theorem dX8_paper_77 : decode cX8_paper 77 = .ok (.aload_n 0, 1) := by decide +kernel
theorem dX8_paper_78 : decode cX8_paper 78 = .ok (.getfield 217, 3) := by decide +kernel
theorem dX8_paper_81 : decode cX8_paper 81 = .ok (.iastore, 1) := by decide +kernel
theorem dX8_paper_82 : decode cX8_paper 82 = .ok (.aload_n 0, 1) := by decide +kernel
theorem dX8_paper_83 : decode cX8_paper 83 = .ok (.getfield 214, 3) := by decide +kernel
theorem dX8_paper_86 : decode cX8_paper 86 = .ok (.ireturn, 1) := by decide +kernel
theorem dX8_fault_0 : decode cX8_fault 0 = .ok (.iload_n 1, 1) := by decide +kernel
theorem dX8_fault_1 : decode cX8_fault 1 = .ok (.ifCond .ne 10, 3) := by decide +kernel
theorem dX8_fault_4 : decode cX8_fault 4 = .ok (.aload_n 0, 1) := by decide +kernel
theorem dX8_fault_5 : decode cX8_fault 5 = .ok (.getfield 162, 3) := by decide +kernel
theorem dX8_fault_8 : decode cX8_fault 8 = .ok (.goto 16, 3) := by decide +kernel
theorem dX8_fault_11 : decode cX8_fault 11 = .ok (.iload_n 1, 1) := by decide +kernel
theorem dX8_fault_12 : decode cX8_fault 12 = .ok (.iconst 1, 1) := by decide +kernel
theorem dX8_fault_13 : decode cX8_fault 13 = .ok (.if_icmp .ne 10, 3) := by decide +kernel
theorem dX8_fault_16 : decode cX8_fault 16 = .ok (.aload_n 0, 1) := by decide +kernel
theorem dX8_fault_17 : decode cX8_fault 17 = .ok (.getfield 13, 3) := by decide +kernel
theorem dX8_fault_20 : decode cX8_fault 20 = .ok (.goto 4, 3) := by decide +kernel
theorem dX8_fault_23 : decode cX8_fault 23 = .ok (.iconst (-1), 1) := by decide +kernel
theorem dX8_fault_24 : decode cX8_fault 24 = .ok (.ireturn, 1) := by decide +kernel
theorem dX8_isPaper_0 : decode cX8_isPaper 0 = .ok (.iload_n 1, 1) := by decide +kernel
theorem dX8_isPaper_1 : decode cX8_isPaper 1 = .ok (.ifCond .lt 15, 3) := by decide +kernel
theorem dX8_isPaper_4 : decode cX8_isPaper 4 = .ok (.iload_n 1, 1) := by decide +kernel
theorem dX8_isPaper_5 : decode cX8_isPaper 5 = .ok (.aload_n 0, 1) := by decide +kernel
theorem dX8_isPaper_6 : decode cX8_isPaper 6 = .ok (.getfield 214, 3) := by decide +kernel
theorem dX8_isPaper_9 : decode cX8_isPaper 9 = .ok (.if_icmp .ge 7, 3) := by decide +kernel
theorem dX8_isPaper_12 : decode cX8_isPaper 12 = .ok (.iconst 1, 1) := by decide +kernel
theorem dX8_isPaper_13 : decode cX8_isPaper 13 = .ok (.goto 4, 3) := by decide +kernel
theorem dX8_isPaper_16 : decode cX8_isPaper 16 = .ok (.iconst 0, 1) := by decide +kernel
theorem dX8_isPaper_17 : decode cX8_isPaper 17 = .ok (.ireturn, 1) := by decide +kernel
theorem dX8_drop_0 : decode cX8_drop 0 = .ok (.aload_n 0, 1) := by decide +kernel
theorem dX8_drop_1 : decode cX8_drop 1 = .ok (.iload_n 1, 1) := by decide +kernel
theorem dX8_drop_2 : decode cX8_drop 2 = .ok (.invokevirtual 251, 3) := by decide +kernel
theorem dX8_drop_5 : decode cX8_drop 5 = .ok (.ifCond .ne 5, 3) := by decide +kernel
theorem dX8_drop_8 : decode cX8_drop 8 = .ok (.iconst (-1), 1) := by decide +kernel
theorem dX8_drop_9 : decode cX8_drop 9 = .ok (.ireturn, 1) := by decide +kernel
theorem dX8_drop_10 : decode cX8_drop 10 = .ok (.aload_n 0, 1) := by decide +kernel
theorem dX8_drop_11 : decode cX8_drop 11 = .ok (.getfield 74, 3) := by decide +kernel
theorem dX8_drop_14 : decode cX8_drop 14 = .ok (.iload_n 1, 1) := by decide +kernel
theorem dX8_drop_15 : decode cX8_drop 15 = .ok (.iconst 1, 1) := by decide +kernel
theorem dX8_drop_16 : decode cX8_drop 16 = .ok (.iadd, 1) := by decide +kernel
theorem dX8_drop_17 : decode cX8_drop 17 = .ok (.iaload, 1) := by decide +kernel
theorem dX8_drop_18 : decode cX8_drop 18 = .ok (.aload_n 0, 1) := by decide +kernel
theorem dX8_drop_19 : decode cX8_drop 19 = .ok (.getfield 74, 3) := by decide +kernel
theorem dX8_drop_22 : decode cX8_drop 22 = .ok (.iload_n 1, 1) := by decide +kernel
theorem dX8_drop_23 : decode cX8_drop 23 = .ok (.iaload, 1) := by decide +kernel
theorem dX8_drop_24 : decode cX8_drop 24 = .ok (.isub, 1) := by decide +kernel
theorem dX8_drop_25 : decode cX8_drop 25 = .ok (.istore_n 2, 1) := by decide +kernel
theorem dX8_drop_26 : decode cX8_drop 26 = .ok (.aload_n 0, 1) := by decide +kernel
theorem dX8_drop_27 : decode cX8_drop 27 = .ok (.getfield 74, 3) := by decide +kernel
theorem dX8_drop_30 : decode cX8_drop 30 = .ok (.iload_n 1, 1) := by decide +kernel
theorem dX8_drop_31 : decode cX8_drop 31 = .ok (.iconst 1, 1) := by decide +kernel
theorem dX8_drop_32 : decode cX8_drop 32 = .ok (.iadd, 1) := by decide +kernel
theorem dX8_drop_33 : decode cX8_drop 33 = .ok (.iaload, 1) := by decide +kernel
theorem dX8_drop_34 : decode cX8_drop 34 = .ok (.istore_n 3, 1) := by decide +kernel
theorem dX8_drop_35 : decode cX8_drop 35 = .ok (.iload_n 3, 1) := by decide +kernel
theorem dX8_drop_36 : decode cX8_drop 36 = .ok (.aload_n 0, 1) := by decide +kernel
theorem dX8_drop_37 : decode cX8_drop 37 = .ok (.getfield 74, 3) := by decide +kernel
theorem dX8_drop_40 : decode cX8_drop 40 = .ok (.aload_n 0, 1) := by decide +kernel
theorem dX8_drop_41 : decode cX8_drop 41 = .ok (.getfield 214, 3) := by decide +kernel
theorem dX8_drop_44 : decode cX8_drop 44 = .ok (.iaload, 1) := by decide +kernel
theorem dX8_drop_45 : decode cX8_drop 45 = .ok (.if_icmp .ge 67, 3) := by decide +kernel
theorem dX8_drop_48 : decode cX8_drop 48 = .ok (.aload_n 0, 1) := by decide +kernel
theorem dX8_drop_49 : decode cX8_drop 49 = .ok (.getfield 77, 3) := by decide +kernel
theorem dX8_drop_52 : decode cX8_drop 52 = .ok (.iload_n 3, 1) := by decide +kernel
theorem dX8_drop_53 : decode cX8_drop 53 = .ok (.iload_n 2, 1) := by decide +kernel
theorem dX8_drop_54 : decode cX8_drop 54 = .ok (.isub, 1) := by decide +kernel
theorem dX8_drop_55 : decode cX8_drop 55 = .ok (.aload_n 0, 1) := by decide +kernel
theorem dX8_drop_56 : decode cX8_drop 56 = .ok (.getfield 77, 3) := by decide +kernel
theorem dX8_drop_59 : decode cX8_drop 59 = .ok (.iload_n 3, 1) := by decide +kernel
theorem dX8_drop_60 : decode cX8_drop 60 = .ok (.iaload, 1) := by decide +kernel
theorem dX8_drop_61 : decode cX8_drop 61 = .ok (.iastore, 1) := by decide +kernel
theorem dX8_drop_62 : decode cX8_drop 62 = .ok (.aload_n 0, 1) := by decide +kernel
theorem dX8_drop_63 : decode cX8_drop 63 = .ok (.getfield 80, 3) := by decide +kernel
theorem dX8_drop_66 : decode cX8_drop 66 = .ok (.iload_n 3, 1) := by decide +kernel
theorem dX8_drop_67 : decode cX8_drop 67 = .ok (.iload_n 2, 1) := by decide +kernel
theorem dX8_drop_68 : decode cX8_drop 68 = .ok (.isub, 1) := by decide +kernel
theorem dX8_drop_69 : decode cX8_drop 69 = .ok (.aload_n 0, 1) := by decide +kernel
theorem dX8_drop_70 : decode cX8_drop 70 = .ok (.getfield 80, 3) := by decide +kernel
theorem dX8_drop_73 : decode cX8_drop 73 = .ok (.iload_n 3, 1) := by decide +kernel
theorem dX8_drop_74 : decode cX8_drop 74 = .ok (.iaload, 1) := by decide +kernel
theorem dX8_drop_75 : decode cX8_drop 75 = .ok (.iconst (-1), 1) := by decide +kernel
theorem dX8_drop_76 : decode cX8_drop 76 = .ok (.if_icmp .ne 7, 3) := by decide +kernel
theorem dX8_drop_79 : decode cX8_drop 79 = .ok (.iconst (-1), 1) := by decide +kernel
theorem dX8_drop_80 : decode cX8_drop 80 = .ok (.goto 11, 3) := by decide +kernel
theorem dX8_drop_83 : decode cX8_drop 83 = .ok (.aload_n 0, 1) := by decide +kernel
theorem dX8_drop_84 : decode cX8_drop 84 = .ok (.getfield 80, 3) := by decide +kernel
theorem dX8_drop_87 : decode cX8_drop 87 = .ok (.iload_n 3, 1) := by decide +kernel
theorem dX8_drop_88 : decode cX8_drop 88 = .ok (.iaload, 1) := by decide +kernel
theorem dX8_drop_89 : decode cX8_drop 89 = .ok (.iload_n 2, 1) := by decide +kernel
theorem dX8_drop_90 : decode cX8_drop 90 = .ok (.isub, 1) := by decide +kernel
theorem dX8_drop_91 : decode cX8_drop 91 = .ok (.iastore, 1) := by decide +kernel
theorem dX8_drop_92 : decode cX8_drop 92 = .ok (.aload_n 0, 1) := by decide +kernel
theorem dX8_drop_93 : decode cX8_drop 93 = .ok (.getfield 83, 3) := by decide +kernel
theorem dX8_drop_96 : decode cX8_drop 96 = .ok (.iload_n 3, 1) := by decide +kernel
theorem dX8_drop_97 : decode cX8_drop 97 = .ok (.iload_n 2, 1) := by decide +kernel
theorem dX8_drop_98 : decode cX8_drop 98 = .ok (.isub, 1) := by decide +kernel
theorem dX8_drop_99 : decode cX8_drop 99 = .ok (.aload_n 0, 1) := by decide +kernel
theorem dX8_drop_100 : decode cX8_drop 100 = .ok (.getfield 83, 3) := by decide +kernel
theorem dX8_drop_103 : decode cX8_drop 103 = .ok (.iload_n 3, 1) := by decide +kernel
theorem dX8_drop_104 : decode cX8_drop 104 = .ok (.laload, 1) := by decide +kernel
theorem dX8_drop_105 : decode cX8_drop 105 = .ok (.lastore, 1) := by decide +kernel
theorem dX8_drop_106 : decode cX8_drop 106 = .ok (.iinc 3 1, 3) := by decide +kernel
theorem dX8_drop_109 : decode cX8_drop 109 = .ok (.goto (-74), 3) := by decide +kernel
theorem dX8_drop_112 : decode cX8_drop 112 = .ok (.iload_n 1, 1) := by decide +kernel
theorem dX8_drop_113 : decode cX8_drop 113 = .ok (.iconst 1, 1) := by decide +kernel
theorem dX8_drop_114 : decode cX8_drop 114 = .ok (.iadd, 1) := by decide +kernel
theorem dX8_drop_115 : decode cX8_drop 115 = .ok (.istore_n 3, 1) := by decide +kernel
theorem dX8_drop_116 : decode cX8_drop 116 = .ok (.iload_n 3, 1) := by decide +kernel
theorem dX8_drop_117 : decode cX8_drop 117 = .ok (.aload_n 0, 1) := by decide +kernel
theorem dX8_drop_118 : decode cX8_drop 118 = .ok (.getfield 214, 3) := by decide +kernel
theorem dX8_drop_121 : decode cX8_drop 121 = .ok (.if_icmp .ge 25, 3) := by decide +kernel
theorem dX8_drop_124 : decode cX8_drop 124 = .ok (.aload_n 0, 1) := by decide +kernel
theorem dX8_drop_125 : decode cX8_drop 125 = .ok (.getfield 74, 3) := by decide +kernel
theorem dX8_drop_128 : decode cX8_drop 128 = .ok (.iload_n 3, 1) := by decide +kernel
theorem dX8_drop_129 : decode cX8_drop 129 = .ok (.aload_n 0, 1) := by decide +kernel
theorem dX8_drop_130 : decode cX8_drop 130 = .ok (.getfield 74, 3) := by decide +kernel
theorem dX8_drop_133 : decode cX8_drop 133 = .ok (.iload_n 3, 1) := by decide +kernel
theorem dX8_drop_134 : decode cX8_drop 134 = .ok (.iconst 1, 1) := by decide +kernel
theorem dX8_drop_135 : decode cX8_drop 135 = .ok (.iadd, 1) := by decide +kernel
theorem dX8_drop_136 : decode cX8_drop 136 = .ok (.iaload, 1) := by decide +kernel
theorem dX8_drop_137 : decode cX8_drop 137 = .ok (.iload_n 2, 1) := by decide +kernel
theorem dX8_drop_138 : decode cX8_drop 138 = .ok (.isub, 1) := by decide +kernel
theorem dX8_drop_139 : decode cX8_drop 139 = .ok (.iastore, 1) := by decide +kernel
theorem dX8_drop_140 : decode cX8_drop 140 = .ok (.iinc 3 1, 3) := by decide +kernel
theorem dX8_drop_143 : decode cX8_drop 143 = .ok (.goto (-27), 3) := by decide +kernel
theorem dX8_drop_146 : decode cX8_drop 146 = .ok (.aload_n 0, 1) := by decide +kernel
theorem dX8_drop_147 : decode cX8_drop 147 = .ok (.dup, 1) := by decide +kernel
theorem dX8_drop_148 : decode cX8_drop 148 = .ok (.getfield 214, 3) := by decide +kernel
theorem dX8_drop_151 : decode cX8_drop 151 = .ok (.iconst 1, 1) := by decide +kernel
theorem dX8_drop_152 : decode cX8_drop 152 = .ok (.isub, 1) := by decide +kernel
theorem dX8_drop_153 : decode cX8_drop 153 = .ok (.putfield 214, 3) := by decide +kernel
theorem dX8_drop_156 : decode cX8_drop 156 = .ok (.aload_n 0, 1) := by decide +kernel
theorem dX8_drop_157 : decode cX8_drop 157 = .ok (.getfield 214, 3) := by decide +kernel
theorem dX8_drop_160 : decode cX8_drop 160 = .ok (.ireturn, 1) := by decide +kernel
theorem dX8_roadOf_0 : decode cX8_roadOf 0 = .ok (.aload_n 0, 1) := by decide +kernel
theorem dX8_roadOf_1 : decode cX8_roadOf 1 = .ok (.iconst 0, 1) := by decide +kernel
theorem dX8_roadOf_2 : decode cX8_roadOf 2 = .ok (.putfield 254, 3) := by decide +kernel
theorem dX8_roadOf_5 : decode cX8_roadOf 5 = .ok (.aload_n 0, 1) := by decide +kernel
theorem dX8_roadOf_6 : decode cX8_roadOf 6 = .ok (.getfield 50, 3) := by decide +kernel
theorem dX8_roadOf_9 : decode cX8_roadOf 9 = .ok (.iload_n 1, 1) := by decide +kernel
theorem dX8_roadOf_10 : decode cX8_roadOf 10 = .ok (.iaload, 1) := by decide +kernel
theorem dX8_roadOf_11 : decode cX8_roadOf 11 = .ok (.istore_n 2, 1) := by decide +kernel
theorem dX8_roadOf_12 : decode cX8_roadOf 12 = .ok (.iload_n 2, 1) := by decide +kernel
theorem dX8_roadOf_13 : decode cX8_roadOf 13 = .ok (.iconst (-1), 1) := by decide +kernel
theorem dX8_roadOf_14 : decode cX8_roadOf 14 = .ok (.if_icmp .eq 23, 3) := by decide +kernel
theorem dX8_roadOf_17 : decode cX8_roadOf 17 = .ok (.aload_n 0, 1) := by decide +kernel
theorem dX8_roadOf_18 : decode cX8_roadOf 18 = .ok (.dup, 1) := by decide +kernel
theorem dX8_roadOf_19 : decode cX8_roadOf 19 = .ok (.getfield 254, 3) := by decide +kernel
theorem dX8_roadOf_22 : decode cX8_roadOf 22 = .ok (.iconst 1, 1) := by decide +kernel
theorem dX8_roadOf_23 : decode cX8_roadOf 23 = .ok (.iadd, 1) := by decide +kernel
theorem dX8_roadOf_24 : decode cX8_roadOf 24 = .ok (.putfield 254, 3) := by decide +kernel
theorem dX8_roadOf_27 : decode cX8_roadOf 27 = .ok (.aload_n 0, 1) := by decide +kernel
theorem dX8_roadOf_28 : decode cX8_roadOf 28 = .ok (.getfield 37, 3) := by decide +kernel
theorem dX8_roadOf_31 : decode cX8_roadOf 31 = .ok (.iload_n 2, 1) := by decide +kernel
theorem dX8_roadOf_32 : decode cX8_roadOf 32 = .ok (.iaload, 1) := by decide +kernel
theorem dX8_roadOf_33 : decode cX8_roadOf 33 = .ok (.istore_n 2, 1) := by decide +kernel
theorem dX8_roadOf_34 : decode cX8_roadOf 34 = .ok (.goto (-22), 3) := by decide +kernel
theorem dX8_roadOf_37 : decode cX8_roadOf 37 = .ok (.aload_n 0, 1) := by decide +kernel
theorem dX8_roadOf_38 : decode cX8_roadOf 38 = .ok (.getfield 254, 3) := by decide +kernel
theorem dX8_roadOf_41 : decode cX8_roadOf 41 = .ok (.istore_n 2, 1) := by decide +kernel
theorem dX8_roadOf_42 : decode cX8_roadOf 42 = .ok (.aload_n 0, 1) := by decide +kernel
theorem dX8_roadOf_43 : decode cX8_roadOf 43 = .ok (.getfield 50, 3) := by decide +kernel
theorem dX8_roadOf_46 : decode cX8_roadOf 46 = .ok (.iload_n 1, 1) := by decide +kernel
theorem dX8_roadOf_47 : decode cX8_roadOf 47 = .ok (.iaload, 1) := by decide +kernel
theorem dX8_roadOf_48 : decode cX8_roadOf 48 = .ok (.istore_n 3, 1) := by decide +kernel
theorem dX8_roadOf_49 : decode cX8_roadOf 49 = .ok (.iload_n 3, 1) := by decide +kernel
theorem dX8_roadOf_50 : decode cX8_roadOf 50 = .ok (.iconst (-1), 1) := by decide +kernel
theorem dX8_roadOf_51 : decode cX8_roadOf 51 = .ok (.if_icmp .eq 23, 3) := by decide +kernel
theorem dX8_roadOf_54 : decode cX8_roadOf 54 = .ok (.iinc 2 (-1), 3) := by decide +kernel
theorem dX8_roadOf_57 : decode cX8_roadOf 57 = .ok (.aload_n 0, 1) := by decide +kernel
theorem dX8_roadOf_58 : decode cX8_roadOf 58 = .ok (.getfield 86, 3) := by decide +kernel
theorem dX8_roadOf_61 : decode cX8_roadOf 61 = .ok (.iload_n 2, 1) := by decide +kernel
theorem dX8_roadOf_62 : decode cX8_roadOf 62 = .ok (.iload_n 3, 1) := by decide +kernel
theorem dX8_roadOf_63 : decode cX8_roadOf 63 = .ok (.iastore, 1) := by decide +kernel
theorem dX8_roadOf_64 : decode cX8_roadOf 64 = .ok (.aload_n 0, 1) := by decide +kernel
theorem dX8_roadOf_65 : decode cX8_roadOf 65 = .ok (.getfield 37, 3) := by decide +kernel
theorem dX8_roadOf_68 : decode cX8_roadOf 68 = .ok (.iload_n 3, 1) := by decide +kernel
theorem dX8_roadOf_69 : decode cX8_roadOf 69 = .ok (.iaload, 1) := by decide +kernel
theorem dX8_roadOf_70 : decode cX8_roadOf 70 = .ok (.istore_n 3, 1) := by decide +kernel
theorem dX8_roadOf_71 : decode cX8_roadOf 71 = .ok (.goto (-22), 3) := by decide +kernel
theorem dX8_roadOf_74 : decode cX8_roadOf 74 = .ok (.return_, 1) := by decide +kernel
theorem dX8_manyUpTo_0 : decode cX8_manyUpTo 0 = .ok (.iconst 0, 1) := by decide +kernel
theorem dX8_manyUpTo_1 : decode cX8_manyUpTo 1 = .ok (.istore_n 2, 1) := by decide +kernel
theorem dX8_manyUpTo_2 : decode cX8_manyUpTo 2 = .ok (.iconst 0, 1) := by decide +kernel
theorem dX8_manyUpTo_3 : decode cX8_manyUpTo 3 = .ok (.istore_n 3, 1) := by decide +kernel
theorem dX8_manyUpTo_4 : decode cX8_manyUpTo 4 = .ok (.iload_n 3, 1) := by decide +kernel
theorem dX8_manyUpTo_5 : decode cX8_manyUpTo 5 = .ok (.iload_n 1, 1) := by decide +kernel
theorem dX8_manyUpTo_6 : decode cX8_manyUpTo 6 = .ok (.if_icmp .gt 27, 3) := by decide +kernel
theorem dX8_manyUpTo_9 : decode cX8_manyUpTo 9 = .ok (.aload_n 0, 1) := by decide +kernel
theorem dX8_manyUpTo_10 : decode cX8_manyUpTo 10 = .ok (.getfield 47, 3) := by decide +kernel
theorem dX8_manyUpTo_13 : decode cX8_manyUpTo 13 = .ok (.aload_n 0, 1) := by decide +kernel
theorem dX8_manyUpTo_14 : decode cX8_manyUpTo 14 = .ok (.getfield 86, 3) := by decide +kernel
theorem dX8_manyUpTo_17 : decode cX8_manyUpTo 17 = .ok (.iload_n 3, 1) := by decide +kernel
theorem dX8_manyUpTo_18 : decode cX8_manyUpTo 18 = .ok (.iaload, 1) := by decide +kernel
theorem dX8_manyUpTo_19 : decode cX8_manyUpTo 19 = .ok (.iaload, 1) := by decide +kernel
theorem dX8_manyUpTo_20 : decode cX8_manyUpTo 20 = .ok (.iconst 2, 1) := by decide +kernel
theorem dX8_manyUpTo_21 : decode cX8_manyUpTo 21 = .ok (.if_icmp .ne 6, 3) := by decide +kernel
theorem dX8_manyUpTo_24 : decode cX8_manyUpTo 24 = .ok (.iinc 2 1, 3) := by decide +kernel
theorem dX8_manyUpTo_27 : decode cX8_manyUpTo 27 = .ok (.iinc 3 1, 3) := by decide +kernel
theorem dX8_manyUpTo_30 : decode cX8_manyUpTo 30 = .ok (.goto (-26), 3) := by decide +kernel
theorem dX8_manyUpTo_33 : decode cX8_manyUpTo 33 = .ok (.iload_n 2, 1) := by decide +kernel
theorem dX8_manyUpTo_34 : decode cX8_manyUpTo 34 = .ok (.ireturn, 1) := by decide +kernel
theorem dX8_putsRow_0 : decode cX8_putsRow 0 = .ok (.aload_n 0, 1) := by decide +kernel
theorem dX8_putsRow_1 : decode cX8_putsRow 1 = .ok (.getfield 89, 3) := by decide +kernel
theorem dX8_putsRow_4 : decode cX8_putsRow 4 = .ok (.aload_n 0, 1) := by decide +kernel
theorem dX8_putsRow_5 : decode cX8_putsRow 5 = .ok (.getfield 257, 3) := by decide +kernel
theorem dX8_putsRow_8 : decode cX8_putsRow 8 = .ok (.iload_n 1, 1) := by decide +kernel
theorem dX8_putsRow_9 : decode cX8_putsRow 9 = .ok (.iastore, 1) := by decide +kernel
theorem dX8_putsRow_10 : decode cX8_putsRow 10 = .ok (.aload_n 0, 1) := by decide +kernel
theorem dX8_putsRow_11 : decode cX8_putsRow 11 = .ok (.getfield 92, 3) := by decide +kernel
theorem dX8_putsRow_14 : decode cX8_putsRow 14 = .ok (.aload_n 0, 1) := by decide +kernel
theorem dX8_putsRow_15 : decode cX8_putsRow 15 = .ok (.getfield 257, 3) := by decide +kernel
theorem dX8_putsRow_18 : decode cX8_putsRow 18 = .ok (.iload_n 2, 1) := by decide +kernel
theorem dX8_putsRow_19 : decode cX8_putsRow 19 = .ok (.iastore, 1) := by decide +kernel
theorem dX8_putsRow_20 : decode cX8_putsRow 20 = .ok (.aload_n 0, 1) := by decide +kernel
theorem dX8_putsRow_21 : decode cX8_putsRow 21 = .ok (.getfield 95, 3) := by decide +kernel
theorem dX8_putsRow_24 : decode cX8_putsRow 24 = .ok (.aload_n 0, 1) := by decide +kernel
theorem dX8_putsRow_25 : decode cX8_putsRow 25 = .ok (.getfield 257, 3) := by decide +kernel
theorem dX8_putsRow_28 : decode cX8_putsRow 28 = .ok (.iload_n 3, 1) := by decide +kernel
theorem dX8_putsRow_29 : decode cX8_putsRow 29 = .ok (.bastore, 1) := by decide +kernel
theorem dX8_putsRow_30 : decode cX8_putsRow 30 = .ok (.aload_n 0, 1) := by decide +kernel
theorem dX8_putsRow_31 : decode cX8_putsRow 31 = .ok (.getfield 99, 3) := by decide +kernel
theorem dX8_putsRow_34 : decode cX8_putsRow 34 = .ok (.aload_n 0, 1) := by decide +kernel
theorem dX8_putsRow_35 : decode cX8_putsRow 35 = .ok (.getfield 257, 3) := by decide +kernel
theorem dX8_putsRow_38 : decode cX8_putsRow 38 = .ok (.lload 4, 2) := by decide +kernel
theorem dX8_putsRow_40 : decode cX8_putsRow 40 = .ok (.lastore, 1) := by decide +kernel
theorem dX8_putsRow_41 : decode cX8_putsRow 41 = .ok (.aload_n 0, 1) := by decide +kernel
theorem dX8_putsRow_42 : decode cX8_putsRow 42 = .ok (.getfield 102, 3) := by decide +kernel
theorem dX8_putsRow_45 : decode cX8_putsRow 45 = .ok (.aload_n 0, 1) := by decide +kernel
theorem dX8_putsRow_46 : decode cX8_putsRow 46 = .ok (.getfield 257, 3) := by decide +kernel
theorem dX8_putsRow_49 : decode cX8_putsRow 49 = .ok (.iload 6, 2) := by decide +kernel
theorem dX8_putsRow_51 : decode cX8_putsRow 51 = .ok (.iastore, 1) := by decide +kernel
theorem dX8_putsRow_52 : decode cX8_putsRow 52 = .ok (.aload_n 0, 1) := by decide +kernel
theorem dX8_putsRow_53 : decode cX8_putsRow 53 = .ok (.dup, 1) := by decide +kernel
theorem dX8_putsRow_54 : decode cX8_putsRow 54 = .ok (.getfield 257, 3) := by decide +kernel
theorem dX8_putsRow_57 : decode cX8_putsRow 57 = .ok (.iconst 1, 1) := by decide +kernel
theorem dX8_putsRow_58 : decode cX8_putsRow 58 = .ok (.iadd, 1) := by decide +kernel
theorem dX8_putsRow_59 : decode cX8_putsRow 59 = .ok (.putfield 257, 3) := by decide +kernel
theorem dX8_putsRow_62 : decode cX8_putsRow 62 = .ok (.return_, 1) := by decide +kernel
theorem dX8_steps_0 : decode cX8_steps 0 = .ok (.aload_n 0, 1) := by decide +kernel
theorem dX8_steps_1 : decode cX8_steps 1 = .ok (.getfield 105, 3) := by decide +kernel
theorem dX8_steps_4 : decode cX8_steps 4 = .ok (.iload_n 1, 1) := by decide +kernel
theorem dX8_steps_5 : decode cX8_steps 5 = .ok (.iload_n 2, 1) := by decide +kernel
theorem dX8_steps_6 : decode cX8_steps 6 = .ok (.iastore, 1) := by decide +kernel
theorem dX8_steps_7 : decode cX8_steps 7 = .ok (.aload_n 0, 1) := by decide +kernel
theorem dX8_steps_8 : decode cX8_steps 8 = .ok (.getfield 108, 3) := by decide +kernel
theorem dX8_steps_11 : decode cX8_steps 11 = .ok (.iload_n 1, 1) := by decide +kernel
theorem dX8_steps_12 : decode cX8_steps 12 = .ok (.iload_n 2, 1) := by decide +kernel
theorem dX8_steps_13 : decode cX8_steps 13 = .ok (.iconst 1, 1) := by decide +kernel
theorem dX8_steps_14 : decode cX8_steps 14 = .ok (.iadd, 1) := by decide +kernel
theorem dX8_steps_15 : decode cX8_steps 15 = .ok (.iastore, 1) := by decide +kernel
theorem dX8_steps_16 : decode cX8_steps 16 = .ok (.aload_n 0, 1) := by decide +kernel
theorem dX8_steps_17 : decode cX8_steps 17 = .ok (.getfield 111, 3) := by decide +kernel
theorem dX8_steps_20 : decode cX8_steps 20 = .ok (.iload_n 1, 1) := by decide +kernel
theorem dX8_steps_21 : decode cX8_steps 21 = .ok (.iconst 0, 1) := by decide +kernel
theorem dX8_steps_22 : decode cX8_steps 22 = .ok (.iastore, 1) := by decide +kernel
theorem dX8_steps_23 : decode cX8_steps 23 = .ok (.aload_n 0, 1) := by decide +kernel
theorem dX8_steps_24 : decode cX8_steps 24 = .ok (.getfield 114, 3) := by decide +kernel
theorem dX8_steps_27 : decode cX8_steps 27 = .ok (.iload_n 1, 1) := by decide +kernel
theorem dX8_steps_28 : decode cX8_steps 28 = .ok (.iload_n 3, 1) := by decide +kernel
theorem dX8_steps_29 : decode cX8_steps 29 = .ok (.iastore, 1) := by decide +kernel
theorem dX8_steps_30 : decode cX8_steps 30 = .ok (.aload_n 0, 1) := by decide +kernel
theorem dX8_steps_31 : decode cX8_steps 31 = .ok (.getfield 117, 3) := by decide +kernel
theorem dX8_steps_34 : decode cX8_steps 34 = .ok (.iload_n 1, 1) := by decide +kernel
theorem dX8_steps_35 : decode cX8_steps 35 = .ok (.iload 4, 2) := by decide +kernel
theorem dX8_steps_37 : decode cX8_steps 37 = .ok (.iastore, 1) := by decide +kernel
theorem dX8_steps_38 : decode cX8_steps 38 = .ok (.return_, 1) := by decide +kernel
theorem dX8_table_0 : decode cX8_table 0 = .ok (.aload_n 0, 1) := by decide +kernel
theorem dX8_table_1 : decode cX8_table 1 = .ok (.iload_n 1, 1) := by decide +kernel
theorem dX8_table_2 : decode cX8_table 2 = .ok (.invokevirtual 260, 3) := by decide +kernel
theorem dX8_table_5 : decode cX8_table 5 = .ok (.aload_n 0, 1) := by decide +kernel
theorem dX8_table_6 : decode cX8_table 6 = .ok (.iconst 0, 1) := by decide +kernel
theorem dX8_table_7 : decode cX8_table 7 = .ok (.putfield 257, 3) := by decide +kernel
theorem dX8_table_10 : decode cX8_table 10 = .ok (.iconst 0, 1) := by decide +kernel
theorem dX8_table_11 : decode cX8_table 11 = .ok (.istore_n 2, 1) := by decide +kernel
theorem dX8_table_12 : decode cX8_table 12 = .ok (.iload_n 2, 1) := by decide +kernel
theorem dX8_table_13 : decode cX8_table 13 = .ok (.aload_n 0, 1) := by decide +kernel
theorem dX8_table_14 : decode cX8_table 14 = .ok (.getfield 214, 3) := by decide +kernel
theorem dX8_table_17 : decode cX8_table 17 = .ok (.if_icmp .ge 254, 3) := by decide +kernel
theorem dX8_table_20 : decode cX8_table 20 = .ok (.iconst 0, 1) := by decide +kernel
theorem dX8_table_21 : decode cX8_table 21 = .ok (.istore_n 3, 1) := by decide +kernel
theorem dX8_table_22 : decode cX8_table 22 = .ok (.aload_n 0, 1) := by decide +kernel
theorem dX8_table_23 : decode cX8_table 23 = .ok (.iconst 0, 1) := by decide +kernel
theorem dX8_table_24 : decode cX8_table 24 = .ok (.aload_n 0, 1) := by decide +kernel
theorem dX8_table_25 : decode cX8_table 25 = .ok (.getfield 74, 3) := by decide +kernel
theorem dX8_table_28 : decode cX8_table 28 = .ok (.iload_n 2, 1) := by decide +kernel
theorem dX8_table_29 : decode cX8_table 29 = .ok (.iaload, 1) := by decide +kernel
theorem dX8_table_30 : decode cX8_table 30 = .ok (.iconst 0, 1) := by decide +kernel
theorem dX8_table_31 : decode cX8_table 31 = .ok (.iconst 0, 1) := by decide +kernel
theorem dX8_table_32 : decode cX8_table 32 = .ok (.invokevirtual 263, 3) := by decide +kernel
theorem dX8_table_35 : decode cX8_table 35 = .ok (.iload_n 3, 1) := by decide +kernel
theorem dX8_table_36 : decode cX8_table 36 = .ok (.ifCond .lt 229, 3) := by decide +kernel
theorem dX8_table_39 : decode cX8_table 39 = .ok (.aload_n 0, 1) := by decide +kernel
theorem dX8_table_40 : decode cX8_table 40 = .ok (.getfield 108, 3) := by decide +kernel
theorem dX8_table_43 : decode cX8_table 43 = .ok (.iload_n 3, 1) := by decide +kernel
theorem dX8_table_44 : decode cX8_table 44 = .ok (.iaload, 1) := by decide +kernel
theorem dX8_table_45 : decode cX8_table 45 = .ok (.istore 4, 2) := by decide +kernel
theorem dX8_table_47 : decode cX8_table 47 = .ok (.iload 4, 2) := by decide +kernel
theorem dX8_table_49 : decode cX8_table 49 = .ok (.aload_n 0, 1) := by decide +kernel
theorem dX8_table_50 : decode cX8_table 50 = .ok (.getfield 74, 3) := by decide +kernel
theorem dX8_table_53 : decode cX8_table 53 = .ok (.iload_n 2, 1) := by decide +kernel
theorem dX8_table_54 : decode cX8_table 54 = .ok (.iconst 1, 1) := by decide +kernel
theorem dX8_table_55 : decode cX8_table 55 = .ok (.iadd, 1) := by decide +kernel
theorem dX8_table_56 : decode cX8_table 56 = .ok (.iaload, 1) := by decide +kernel
theorem dX8_table_57 : decode cX8_table 57 = .ok (.if_icmp .ge 41, 3) := by decide +kernel
theorem dX8_table_60 : decode cX8_table 60 = .ok (.aload_n 0, 1) := by decide +kernel
theorem dX8_table_61 : decode cX8_table 61 = .ok (.getfield 80, 3) := by decide +kernel
theorem dX8_table_64 : decode cX8_table 64 = .ok (.iload 4, 2) := by decide +kernel
theorem dX8_table_66 : decode cX8_table 66 = .ok (.iaload, 1) := by decide +kernel
theorem dX8_table_67 : decode cX8_table 67 = .ok (.aload_n 0, 1) := by decide +kernel
theorem dX8_table_68 : decode cX8_table 68 = .ok (.getfield 105, 3) := by decide +kernel
theorem dX8_table_71 : decode cX8_table 71 = .ok (.iload_n 3, 1) := by decide +kernel
theorem dX8_table_72 : decode cX8_table 72 = .ok (.iaload, 1) := by decide +kernel
theorem dX8_table_73 : decode cX8_table 73 = .ok (.if_icmp .ne 19, 3) := by decide +kernel
theorem dX8_table_76 : decode cX8_table 76 = .ok (.aload_n 0, 1) := by decide +kernel
theorem dX8_table_77 : decode cX8_table 77 = .ok (.getfield 77, 3) := by decide +kernel
theorem dX8_table_80 : decode cX8_table 80 = .ok (.iload 4, 2) := by decide +kernel
theorem dX8_table_82 : decode cX8_table 82 = .ok (.iaload, 1) := by decide +kernel
theorem dX8_table_83 : decode cX8_table 83 = .ok (.aload_n 0, 1) := by decide +kernel
theorem dX8_table_84 : decode cX8_table 84 = .ok (.getfield 86, 3) := by decide +kernel
theorem dX8_table_87 : decode cX8_table 87 = .ok (.iload_n 3, 1) := by decide +kernel
theorem dX8_table_88 : decode cX8_table 88 = .ok (.iaload, 1) := by decide +kernel
theorem dX8_table_89 : decode cX8_table 89 = .ok (.if_icmp .eq 9, 3) := by decide +kernel
theorem dX8_table_92 : decode cX8_table 92 = .ok (.iinc 4 1, 3) := by decide +kernel
theorem dX8_table_95 : decode cX8_table 95 = .ok (.goto (-48), 3) := by decide +kernel
theorem dX8_table_98 : decode cX8_table 98 = .ok (.iload 4, 2) := by decide +kernel
theorem dX8_table_100 : decode cX8_table 100 = .ok (.aload_n 0, 1) := by decide +kernel
theorem dX8_table_101 : decode cX8_table 101 = .ok (.getfield 74, 3) := by decide +kernel
theorem dX8_table_104 : decode cX8_table 104 = .ok (.iload_n 2, 1) := by decide +kernel
theorem dX8_table_105 : decode cX8_table 105 = .ok (.iconst 1, 1) := by decide +kernel
theorem dX8_table_106 : decode cX8_table 106 = .ok (.iadd, 1) := by decide +kernel
theorem dX8_table_107 : decode cX8_table 107 = .ok (.iaload, 1) := by decide +kernel
theorem dX8_table_108 : decode cX8_table 108 = .ok (.if_icmp .ne 37, 3) := by decide +kernel
theorem dX8_table_111 : decode cX8_table 111 = .ok (.aload_n 0, 1) := by decide +kernel
theorem dX8_table_112 : decode cX8_table 112 = .ok (.getfield 111, 3) := by decide +kernel
theorem dX8_table_115 : decode cX8_table 115 = .ok (.iload_n 3, 1) := by decide +kernel
theorem dX8_table_116 : decode cX8_table 116 = .ok (.iaload, 1) := by decide +kernel
theorem dX8_table_117 : decode cX8_table 117 = .ok (.ifCond .ne 22, 3) := by decide +kernel
theorem dX8_table_120 : decode cX8_table 120 = .ok (.aload_n 0, 1) := by decide +kernel
theorem dX8_table_121 : decode cX8_table 121 = .ok (.aload_n 0, 1) := by decide +kernel
theorem dX8_table_122 : decode cX8_table 122 = .ok (.getfield 117, 3) := by decide +kernel
theorem dX8_table_125 : decode cX8_table 125 = .ok (.iload_n 3, 1) := by decide +kernel
theorem dX8_table_126 : decode cX8_table 126 = .ok (.iaload, 1) := by decide +kernel
theorem dX8_table_127 : decode cX8_table 127 = .ok (.aload_n 0, 1) := by decide +kernel
theorem dX8_table_128 : decode cX8_table 128 = .ok (.getfield 114, 3) := by decide +kernel
theorem dX8_table_131 : decode cX8_table 131 = .ok (.iload_n 3, 1) := by decide +kernel
theorem dX8_table_132 : decode cX8_table 132 = .ok (.iaload, 1) := by decide +kernel
theorem dX8_table_133 : decode cX8_table 133 = .ok (.iconst 0, 1) := by decide +kernel
theorem dX8_table_134 : decode cX8_table 134 = .ok (.lconst 0, 1) := by decide +kernel
theorem dX8_table_135 : decode cX8_table 135 = .ok (.iload_n 2, 1) := by decide +kernel
theorem dX8_table_136 : decode cX8_table 136 = .ok (.invokevirtual 267, 3) := by decide +kernel
theorem dX8_table_139 : decode cX8_table 139 = .ok (.iinc 3 (-1), 3) := by decide +kernel
theorem dX8_table_142 : decode cX8_table 142 = .ok (.goto (-107), 3) := by decide +kernel
theorem dX8_table_145 : decode cX8_table 145 = .ok (.aload_n 0, 1) := by decide +kernel
theorem dX8_table_146 : decode cX8_table 146 = .ok (.getfield 108, 3) := by decide +kernel
theorem dX8_table_149 : decode cX8_table 149 = .ok (.iload_n 3, 1) := by decide +kernel
theorem dX8_table_150 : decode cX8_table 150 = .ok (.iload 4, 2) := by decide +kernel
theorem dX8_table_152 : decode cX8_table 152 = .ok (.iconst 1, 1) := by decide +kernel
theorem dX8_table_153 : decode cX8_table 153 = .ok (.iadd, 1) := by decide +kernel
theorem dX8_table_154 : decode cX8_table 154 = .ok (.iastore, 1) := by decide +kernel
theorem dX8_table_155 : decode cX8_table 155 = .ok (.aload_n 0, 1) := by decide +kernel
theorem dX8_table_156 : decode cX8_table 156 = .ok (.getfield 111, 3) := by decide +kernel
theorem dX8_table_159 : decode cX8_table 159 = .ok (.iload_n 3, 1) := by decide +kernel
theorem dX8_table_160 : decode cX8_table 160 = .ok (.iaload, 1) := by decide +kernel
theorem dX8_table_161 : decode cX8_table 161 = .ok (.ifCond .ne 12, 3) := by decide +kernel
theorem dX8_table_164 : decode cX8_table 164 = .ok (.aload_n 0, 1) := by decide +kernel
theorem dX8_table_165 : decode cX8_table 165 = .ok (.getfield 117, 3) := by decide +kernel
theorem dX8_table_168 : decode cX8_table 168 = .ok (.iload_n 3, 1) := by decide +kernel
theorem dX8_table_169 : decode cX8_table 169 = .ok (.iaload, 1) := by decide +kernel
theorem dX8_table_170 : decode cX8_table 170 = .ok (.goto 8, 3) := by decide +kernel
theorem dX8_table_173 : decode cX8_table 173 = .ok (.aload_n 0, 1) := by decide +kernel
theorem dX8_table_174 : decode cX8_table 174 = .ok (.iload_n 3, 1) := by decide +kernel
theorem dX8_table_175 : decode cX8_table 175 = .ok (.invokevirtual 271, 3) := by decide +kernel
theorem dX8_table_178 : decode cX8_table 178 = .ok (.istore 5, 2) := by decide +kernel
theorem dX8_table_180 : decode cX8_table 180 = .ok (.aload_n 0, 1) := by decide +kernel
theorem dX8_table_181 : decode cX8_table 181 = .ok (.getfield 111, 3) := by decide +kernel
theorem dX8_table_184 : decode cX8_table 184 = .ok (.iload_n 3, 1) := by decide +kernel
theorem dX8_table_185 : decode cX8_table 185 = .ok (.dup2, 1) := by decide +kernel
theorem dX8_table_186 : decode cX8_table 186 = .ok (.iaload, 1) := by decide +kernel
theorem dX8_table_187 : decode cX8_table 187 = .ok (.iconst 1, 1) := by decide +kernel
theorem dX8_table_188 : decode cX8_table 188 = .ok (.iadd, 1) := by decide +kernel
theorem dX8_table_189 : decode cX8_table 189 = .ok (.iastore, 1) := by decide +kernel
theorem dX8_table_190 : decode cX8_table 190 = .ok (.aload_n 0, 1) := by decide +kernel
theorem dX8_table_191 : decode cX8_table 191 = .ok (.getfield 114, 3) := by decide +kernel
theorem dX8_table_194 : decode cX8_table 194 = .ok (.iload_n 3, 1) := by decide +kernel
theorem dX8_table_195 : decode cX8_table 195 = .ok (.iaload, 1) := by decide +kernel
theorem dX8_table_196 : decode cX8_table 196 = .ok (.aload_n 0, 1) := by decide +kernel
theorem dX8_table_197 : decode cX8_table 197 = .ok (.getfield 47, 3) := by decide +kernel
theorem dX8_table_200 : decode cX8_table 200 = .ok (.aload_n 0, 1) := by decide +kernel
theorem dX8_table_201 : decode cX8_table 201 = .ok (.getfield 86, 3) := by decide +kernel
theorem dX8_table_204 : decode cX8_table 204 = .ok (.iload_n 3, 1) := by decide +kernel
theorem dX8_table_205 : decode cX8_table 205 = .ok (.iaload, 1) := by decide +kernel
theorem dX8_table_206 : decode cX8_table 206 = .ok (.iaload, 1) := by decide +kernel
theorem dX8_table_207 : decode cX8_table 207 = .ok (.ifCond .ne 7, 3) := by decide +kernel
theorem dX8_table_210 : decode cX8_table 210 = .ok (.iconst 0, 1) := by decide +kernel
theorem dX8_table_211 : decode cX8_table 211 = .ok (.goto 4, 3) := by decide +kernel
theorem dX8_table_214 : decode cX8_table 214 = .ok (.iconst 1, 1) := by decide +kernel
theorem dX8_table_215 : decode cX8_table 215 = .ok (.iadd, 1) := by decide +kernel
theorem dX8_table_216 : decode cX8_table 216 = .ok (.istore 6, 2) := by decide +kernel
theorem dX8_table_218 : decode cX8_table 218 = .ok (.iload_n 3, 1) := by decide +kernel
theorem dX8_table_219 : decode cX8_table 219 = .ok (.aload_n 0, 1) := by decide +kernel
theorem dX8_table_220 : decode cX8_table 220 = .ok (.getfield 254, 3) := by decide +kernel
theorem dX8_table_223 : decode cX8_table 223 = .ok (.iconst 1, 1) := by decide +kernel
theorem dX8_table_224 : decode cX8_table 224 = .ok (.isub, 1) := by decide +kernel
theorem dX8_table_225 : decode cX8_table 225 = .ok (.if_icmp .ne 23, 3) := by decide +kernel
theorem dX8_table_228 : decode cX8_table 228 = .ok (.aload_n 0, 1) := by decide +kernel
theorem dX8_table_229 : decode cX8_table 229 = .ok (.iload 5, 2) := by decide +kernel
theorem dX8_table_231 : decode cX8_table 231 = .ok (.iload 6, 2) := by decide +kernel
theorem dX8_table_233 : decode cX8_table 233 = .ok (.iconst 1, 1) := by decide +kernel
theorem dX8_table_234 : decode cX8_table 234 = .ok (.aload_n 0, 1) := by decide +kernel
theorem dX8_table_235 : decode cX8_table 235 = .ok (.getfield 83, 3) := by decide +kernel
theorem dX8_table_238 : decode cX8_table 238 = .ok (.iload 4, 2) := by decide +kernel
theorem dX8_table_240 : decode cX8_table 240 = .ok (.laload, 1) := by decide +kernel
theorem dX8_table_241 : decode cX8_table 241 = .ok (.iload_n 2, 1) := by decide +kernel
theorem dX8_table_242 : decode cX8_table 242 = .ok (.invokevirtual 267, 3) := by decide +kernel
theorem dX8_table_245 : decode cX8_table 245 = .ok (.goto 17, 3) := by decide +kernel
theorem dX8_table_248 : decode cX8_table 248 = .ok (.iinc 3 1, 3) := by decide +kernel
theorem dX8_table_251 : decode cX8_table 251 = .ok (.aload_n 0, 1) := by decide +kernel
theorem dX8_table_252 : decode cX8_table 252 = .ok (.iload_n 3, 1) := by decide +kernel
theorem dX8_table_253 : decode cX8_table 253 = .ok (.iload 4, 2) := by decide +kernel
theorem dX8_table_255 : decode cX8_table 255 = .ok (.iload 6, 2) := by decide +kernel
theorem dX8_table_257 : decode cX8_table 257 = .ok (.iload 5, 2) := by decide +kernel
theorem dX8_table_259 : decode cX8_table 259 = .ok (.invokevirtual 263, 3) := by decide +kernel
theorem dX8_table_262 : decode cX8_table 262 = .ok (.goto (-227), 3) := by decide +kernel
theorem dX8_table_265 : decode cX8_table 265 = .ok (.iinc 2 1, 3) := by decide +kernel
theorem dX8_table_268 : decode cX8_table 268 = .ok (.goto (-256), 3) := by decide +kernel
theorem dX8_table_271 : decode cX8_table 271 = .ok (.return_, 1) := by decide +kernel
theorem dX8_isLeaf_0 : decode cX8_isLeaf 0 = .ok (.aload_n 0, 1) := by decide +kernel
theorem dX8_isLeaf_1 : decode cX8_isLeaf 1 = .ok (.getfield 204, 3) := by decide +kernel
theorem dX8_isLeaf_4 : decode cX8_isLeaf 4 = .ok (.ifCond .eq 19, 3) := by decide +kernel
theorem dX8_isLeaf_7 : decode cX8_isLeaf 7 = .ok (.iload_n 1, 1) := by decide +kernel
theorem dX8_isLeaf_8 : decode cX8_isLeaf 8 = .ok (.ifCond .lt 15, 3) := by decide +kernel
theorem dX8_isLeaf_11 : decode cX8_isLeaf 11 = .ok (.iload_n 1, 1) := by decide +kernel
theorem dX8_isLeaf_12 : decode cX8_isLeaf 12 = .ok (.aload_n 0, 1) := by decide +kernel
theorem dX8_isLeaf_13 : decode cX8_isLeaf 13 = .ok (.getfield 211, 3) := by decide +kernel
theorem dX8_isLeaf_16 : decode cX8_isLeaf 16 = .ok (.if_icmp .ge 7, 3) := by decide +kernel
theorem dX8_isLeaf_19 : decode cX8_isLeaf 19 = .ok (.iconst 1, 1) := by decide +kernel
theorem dX8_isLeaf_20 : decode cX8_isLeaf 20 = .ok (.goto 4, 3) := by decide +kernel
theorem dX8_isLeaf_23 : decode cX8_isLeaf 23 = .ok (.iconst 0, 1) := by decide +kernel
theorem dX8_isLeaf_24 : decode cX8_isLeaf 24 = .ok (.ireturn, 1) := by decide +kernel
theorem dX8_isFirstValue_0 : decode cX8_isFirstValue 0 = .ok (.iconst 0, 1) := by decide +kernel
theorem dX8_isFirstValue_1 : decode cX8_isFirstValue 1 = .ok (.istore_n 2, 1) := by decide +kernel
theorem dX8_isFirstValue_2 : decode cX8_isFirstValue 2 = .ok (.iload_n 2, 1) := by decide +kernel
theorem dX8_isFirstValue_3 : decode cX8_isFirstValue 3 = .ok (.iload_n 1, 1) := by decide +kernel
theorem dX8_isFirstValue_4 : decode cX8_isFirstValue 4 = .ok (.if_icmp .ge 36, 3) := by decide +kernel
theorem dX8_isFirstValue_7 : decode cX8_isFirstValue 7 = .ok (.aload_n 0, 1) := by decide +kernel
theorem dX8_isFirstValue_8 : decode cX8_isFirstValue 8 = .ok (.getfield 95, 3) := by decide +kernel
theorem dX8_isFirstValue_11 : decode cX8_isFirstValue 11 = .ok (.iload_n 2, 1) := by decide +kernel
theorem dX8_isFirstValue_12 : decode cX8_isFirstValue 12 = .ok (.baload, 1) := by decide +kernel
theorem dX8_isFirstValue_13 : decode cX8_isFirstValue 13 = .ok (.ifCond .eq 21, 3) := by decide +kernel
theorem dX8_isFirstValue_16 : decode cX8_isFirstValue 16 = .ok (.aload_n 0, 1) := by decide +kernel
theorem dX8_isFirstValue_17 : decode cX8_isFirstValue 17 = .ok (.getfield 99, 3) := by decide +kernel
theorem dX8_isFirstValue_20 : decode cX8_isFirstValue 20 = .ok (.iload_n 2, 1) := by decide +kernel
theorem dX8_isFirstValue_21 : decode cX8_isFirstValue 21 = .ok (.laload, 1) := by decide +kernel
theorem dX8_isFirstValue_22 : decode cX8_isFirstValue 22 = .ok (.aload_n 0, 1) := by decide +kernel
theorem dX8_isFirstValue_23 : decode cX8_isFirstValue 23 = .ok (.getfield 99, 3) := by decide +kernel
theorem dX8_isFirstValue_26 : decode cX8_isFirstValue 26 = .ok (.iload_n 1, 1) := by decide +kernel
theorem dX8_isFirstValue_27 : decode cX8_isFirstValue 27 = .ok (.laload, 1) := by decide +kernel
theorem dX8_isFirstValue_28 : decode cX8_isFirstValue 28 = .ok (.lcmp, 1) := by decide +kernel
theorem dX8_isFirstValue_29 : decode cX8_isFirstValue 29 = .ok (.ifCond .ne 5, 3) := by decide +kernel
theorem dX8_isFirstValue_32 : decode cX8_isFirstValue 32 = .ok (.iconst 0, 1) := by decide +kernel
theorem dX8_isFirstValue_33 : decode cX8_isFirstValue 33 = .ok (.ireturn, 1) := by decide +kernel
theorem dX8_isFirstValue_34 : decode cX8_isFirstValue 34 = .ok (.iinc 2 1, 3) := by decide +kernel
theorem dX8_isFirstValue_37 : decode cX8_isFirstValue 37 = .ok (.goto (-35), 3) := by decide +kernel
theorem dX8_isFirstValue_40 : decode cX8_isFirstValue 40 = .ok (.iconst 1, 1) := by decide +kernel
theorem dX8_isFirstValue_41 : decode cX8_isFirstValue 41 = .ok (.ireturn, 1) := by decide +kernel
theorem dX8_values_0 : decode cX8_values 0 = .ok (.iconst 0, 1) := by decide +kernel
theorem dX8_values_1 : decode cX8_values 1 = .ok (.istore_n 2, 1) := by decide +kernel
theorem dX8_values_2 : decode cX8_values 2 = .ok (.iconst 0, 1) := by decide +kernel
theorem dX8_values_3 : decode cX8_values 3 = .ok (.istore_n 3, 1) := by decide +kernel
theorem dX8_values_4 : decode cX8_values 4 = .ok (.iload_n 3, 1) := by decide +kernel
theorem dX8_values_5 : decode cX8_values 5 = .ok (.aload_n 0, 1) := by decide +kernel
theorem dX8_values_6 : decode cX8_values 6 = .ok (.getfield 257, 3) := by decide +kernel
theorem dX8_values_9 : decode cX8_values 9 = .ok (.if_icmp .ge 33, 3) := by decide +kernel
theorem dX8_values_12 : decode cX8_values 12 = .ok (.aload_n 0, 1) := by decide +kernel
theorem dX8_values_13 : decode cX8_values 13 = .ok (.getfield 95, 3) := by decide +kernel
theorem dX8_values_16 : decode cX8_values 16 = .ok (.iload_n 3, 1) := by decide +kernel
theorem dX8_values_17 : decode cX8_values 17 = .ok (.baload, 1) := by decide +kernel
theorem dX8_values_18 : decode cX8_values 18 = .ok (.ifCond .eq 18, 3) := by decide +kernel
theorem dX8_values_21 : decode cX8_values 21 = .ok (.iload_n 1, 1) := by decide +kernel
theorem dX8_values_22 : decode cX8_values 22 = .ok (.ifCond .eq 11, 3) := by decide +kernel
theorem dX8_values_25 : decode cX8_values 25 = .ok (.aload_n 0, 1) := by decide +kernel
theorem dX8_values_26 : decode cX8_values 26 = .ok (.iload_n 3, 1) := by decide +kernel
theorem dX8_values_27 : decode cX8_values 27 = .ok (.invokevirtual 275, 3) := by decide +kernel
theorem dX8_values_30 : decode cX8_values 30 = .ok (.ifCond .eq 6, 3) := by decide +kernel
theorem dX8_values_33 : decode cX8_values 33 = .ok (.iinc 2 1, 3) := by decide +kernel
theorem dX8_values_36 : decode cX8_values 36 = .ok (.iinc 3 1, 3) := by decide +kernel
theorem dX8_values_39 : decode cX8_values 39 = .ok (.goto (-35), 3) := by decide +kernel
theorem dX8_values_42 : decode cX8_values 42 = .ok (.iload_n 2, 1) := by decide +kernel
theorem dX8_values_43 : decode cX8_values 43 = .ok (.ireturn, 1) := by decide +kernel
theorem dX8_runs_0 : decode cX8_runs 0 = .ok (.iconst 0, 1) := by decide +kernel
theorem dX8_runs_1 : decode cX8_runs 1 = .ok (.istore_n 2, 1) := by decide +kernel
theorem dX8_runs_2 : decode cX8_runs 2 = .ok (.iconst 0, 1) := by decide +kernel
theorem dX8_runs_3 : decode cX8_runs 3 = .ok (.istore_n 3, 1) := by decide +kernel
theorem dX8_runs_4 : decode cX8_runs 4 = .ok (.iload_n 3, 1) := by decide +kernel
theorem dX8_runs_5 : decode cX8_runs 5 = .ok (.aload_n 0, 1) := by decide +kernel
theorem dX8_runs_6 : decode cX8_runs 6 = .ok (.getfield 257, 3) := by decide +kernel
theorem dX8_runs_9 : decode cX8_runs 9 = .ok (.if_icmp .ge 27, 3) := by decide +kernel
theorem dX8_runs_12 : decode cX8_runs 12 = .ok (.iload_n 3, 1) := by decide +kernel
theorem dX8_runs_13 : decode cX8_runs 13 = .ok (.ifCond .eq 14, 3) := by decide +kernel
theorem dX8_runs_16 : decode cX8_runs 16 = .ok (.aload_n 1, 1) := by decide +kernel
theorem dX8_runs_17 : decode cX8_runs 17 = .ok (.iload_n 3, 1) := by decide +kernel
theorem dX8_runs_18 : decode cX8_runs 18 = .ok (.iaload, 1) := by decide +kernel
theorem dX8_runs_19 : decode cX8_runs 19 = .ok (.aload_n 1, 1) := by decide +kernel
theorem dX8_runs_20 : decode cX8_runs 20 = .ok (.iload_n 3, 1) := by decide +kernel
theorem dX8_runs_21 : decode cX8_runs 21 = .ok (.iconst 1, 1) := by decide +kernel
theorem dX8_runs_22 : decode cX8_runs 22 = .ok (.isub, 1) := by decide +kernel
theorem dX8_runs_23 : decode cX8_runs 23 = .ok (.iaload, 1) := by decide +kernel
theorem dX8_runs_24 : decode cX8_runs 24 = .ok (.if_icmp .eq 6, 3) := by decide +kernel
theorem dX8_runs_27 : decode cX8_runs 27 = .ok (.iinc 2 1, 3) := by decide +kernel
theorem dX8_runs_30 : decode cX8_runs 30 = .ok (.iinc 3 1, 3) := by decide +kernel
theorem dX8_runs_33 : decode cX8_runs 33 = .ok (.goto (-29), 3) := by decide +kernel
theorem dX8_runs_36 : decode cX8_runs 36 = .ok (.iload_n 2, 1) := by decide +kernel
theorem dX8_runs_37 : decode cX8_runs 37 = .ok (.ireturn, 1) := by decide +kernel
theorem dX8_deepOf_0 : decode cX8_deepOf 0 = .ok (.iconst 0, 1) := by decide +kernel
theorem dX8_deepOf_1 : decode cX8_deepOf 1 = .ok (.istore_n 1, 1) := by decide +kernel
theorem dX8_deepOf_2 : decode cX8_deepOf 2 = .ok (.iconst 0, 1) := by decide +kernel
theorem dX8_deepOf_3 : decode cX8_deepOf 3 = .ok (.istore_n 2, 1) := by decide +kernel
theorem dX8_deepOf_4 : decode cX8_deepOf 4 = .ok (.iload_n 2, 1) := by decide +kernel
theorem dX8_deepOf_5 : decode cX8_deepOf 5 = .ok (.aload_n 0, 1) := by decide +kernel
theorem dX8_deepOf_6 : decode cX8_deepOf 6 = .ok (.getfield 254, 3) := by decide +kernel
theorem dX8_deepOf_9 : decode cX8_deepOf 9 = .ok (.if_icmp .ge 26, 3) := by decide +kernel
theorem dX8_deepOf_12 : decode cX8_deepOf 12 = .ok (.aload_n 0, 1) := by decide +kernel
theorem dX8_deepOf_13 : decode cX8_deepOf 13 = .ok (.getfield 47, 3) := by decide +kernel
theorem dX8_deepOf_16 : decode cX8_deepOf 16 = .ok (.aload_n 0, 1) := by decide +kernel
theorem dX8_deepOf_17 : decode cX8_deepOf 17 = .ok (.getfield 86, 3) := by decide +kernel
theorem dX8_deepOf_20 : decode cX8_deepOf 20 = .ok (.iload_n 2, 1) := by decide +kernel
theorem dX8_deepOf_21 : decode cX8_deepOf 21 = .ok (.iaload, 1) := by decide +kernel
theorem dX8_deepOf_22 : decode cX8_deepOf 22 = .ok (.iaload, 1) := by decide +kernel
theorem dX8_deepOf_23 : decode cX8_deepOf 23 = .ok (.ifCond .eq 6, 3) := by decide +kernel
theorem dX8_deepOf_26 : decode cX8_deepOf 26 = .ok (.iinc 1 1, 3) := by decide +kernel
theorem dX8_deepOf_29 : decode cX8_deepOf 29 = .ok (.iinc 2 1, 3) := by decide +kernel
theorem dX8_deepOf_32 : decode cX8_deepOf 32 = .ok (.goto (-28), 3) := by decide +kernel
theorem dX8_deepOf_35 : decode cX8_deepOf 35 = .ok (.iload_n 1, 1) := by decide +kernel
theorem dX8_deepOf_36 : decode cX8_deepOf 36 = .ok (.ireturn, 1) := by decide +kernel
theorem dX8_sizeOf_0 : decode cX8_sizeOf 0 = .ok (.aload_n 0, 1) := by decide +kernel
theorem dX8_sizeOf_1 : decode cX8_sizeOf 1 = .ok (.iconst 1, 1) := by decide +kernel
theorem dX8_sizeOf_2 : decode cX8_sizeOf 2 = .ok (.invokevirtual 278, 3) := by decide +kernel
theorem dX8_sizeOf_5 : decode cX8_sizeOf 5 = .ok (.istore_n 1, 1) := by decide +kernel
theorem dX8_sizeOf_6 : decode cX8_sizeOf 6 = .ok (.iconst 0, 1) := by decide +kernel
theorem dX8_sizeOf_7 : decode cX8_sizeOf 7 = .ok (.istore_n 2, 1) := by decide +kernel
theorem dX8_sizeOf_8 : decode cX8_sizeOf 8 = .ok (.iconst 1, 1) := by decide +kernel
theorem dX8_sizeOf_9 : decode cX8_sizeOf 9 = .ok (.iload_n 2, 1) := by decide +kernel
theorem dX8_sizeOf_10 : decode cX8_sizeOf 10 = .ok (.ishl, 1) := by decide +kernel
theorem dX8_sizeOf_11 : decode cX8_sizeOf 11 = .ok (.iload_n 1, 1) := by decide +kernel
theorem dX8_sizeOf_12 : decode cX8_sizeOf 12 = .ok (.if_icmp .ge 9, 3) := by decide +kernel
theorem dX8_sizeOf_15 : decode cX8_sizeOf 15 = .ok (.iinc 2 1, 3) := by decide +kernel
theorem dX8_sizeOf_18 : decode cX8_sizeOf 18 = .ok (.goto (-10), 3) := by decide +kernel
theorem dX8_sizeOf_21 : decode cX8_sizeOf 21 = .ok (.bipush 8, 2) := by decide +kernel
theorem dX8_sizeOf_23 : decode cX8_sizeOf 23 = .ok (.iload_n 1, 1) := by decide +kernel
theorem dX8_sizeOf_24 : decode cX8_sizeOf 24 = .ok (.imul, 1) := by decide +kernel
theorem dX8_sizeOf_25 : decode cX8_sizeOf 25 = .ok (.iload_n 2, 1) := by decide +kernel
theorem dX8_sizeOf_26 : decode cX8_sizeOf 26 = .ok (.aload_n 0, 1) := by decide +kernel
theorem dX8_sizeOf_27 : decode cX8_sizeOf 27 = .ok (.iconst 0, 1) := by decide +kernel
theorem dX8_sizeOf_28 : decode cX8_sizeOf 28 = .ok (.invokevirtual 278, 3) := by decide +kernel
theorem dX8_sizeOf_31 : decode cX8_sizeOf 31 = .ok (.imul, 1) := by decide +kernel
theorem dX8_sizeOf_32 : decode cX8_sizeOf 32 = .ok (.bipush 7, 2) := by decide +kernel
theorem dX8_sizeOf_34 : decode cX8_sizeOf 34 = .ok (.iadd, 1) := by decide +kernel
theorem dX8_sizeOf_35 : decode cX8_sizeOf 35 = .ok (.bipush 8, 2) := by decide +kernel
theorem dX8_sizeOf_37 : decode cX8_sizeOf 37 = .ok (.idiv, 1) := by decide +kernel
theorem dX8_sizeOf_38 : decode cX8_sizeOf 38 = .ok (.iadd, 1) := by decide +kernel
theorem dX8_sizeOf_39 : decode cX8_sizeOf 39 = .ok (.istore_n 3, 1) := by decide +kernel
theorem dX8_sizeOf_40 : decode cX8_sizeOf 40 = .ok (.aload_n 0, 1) := by decide +kernel
theorem dX8_sizeOf_41 : decode cX8_sizeOf 41 = .ok (.aload_n 0, 1) := by decide +kernel
theorem dX8_sizeOf_42 : decode cX8_sizeOf 42 = .ok (.getfield 254, 3) := by decide +kernel
theorem dX8_sizeOf_45 : decode cX8_sizeOf 45 = .ok (.iconst 1, 1) := by decide +kernel
theorem dX8_sizeOf_46 : decode cX8_sizeOf 46 = .ok (.isub, 1) := by decide +kernel
theorem dX8_sizeOf_47 : decode cX8_sizeOf 47 = .ok (.invokevirtual 271, 3) := by decide +kernel
theorem dX8_sizeOf_50 : decode cX8_sizeOf 50 = .ok (.ifCond .eq 16, 3) := by decide +kernel
theorem dX8_sizeOf_53 : decode cX8_sizeOf 53 = .ok (.iload_n 3, 1) := by decide +kernel
theorem dX8_sizeOf_54 : decode cX8_sizeOf 54 = .ok (.iconst 2, 1) := by decide +kernel
theorem dX8_sizeOf_55 : decode cX8_sizeOf 55 = .ok (.aload_n 0, 1) := by decide +kernel
theorem dX8_sizeOf_56 : decode cX8_sizeOf 56 = .ok (.aload_n 0, 1) := by decide +kernel
theorem dX8_sizeOf_57 : decode cX8_sizeOf 57 = .ok (.getfield 89, 3) := by decide +kernel
end
section
theorem dX8_sizeOf_60 : decode cX8_sizeOf 60 = .ok (.invokevirtual 282, 3) := by decide +kernel
theorem dX8_sizeOf_63 : decode cX8_sizeOf 63 = .ok (.imul, 1) := by decide +kernel
theorem dX8_sizeOf_64 : decode cX8_sizeOf 64 = .ok (.iadd, 1) := by decide +kernel
theorem dX8_sizeOf_65 : decode cX8_sizeOf 65 = .ok (.istore_n 3, 1) := by decide +kernel
theorem dX8_sizeOf_66 : decode cX8_sizeOf 66 = .ok (.aload_n 0, 1) := by decide +kernel
theorem dX8_sizeOf_67 : decode cX8_sizeOf 67 = .ok (.invokevirtual 286, 3) := by decide +kernel
theorem dX8_sizeOf_70 : decode cX8_sizeOf 70 = .ok (.ifCond .eq 16, 3) := by decide +kernel
theorem dX8_sizeOf_73 : decode cX8_sizeOf 73 = .ok (.iload_n 3, 1) := by decide +kernel
theorem dX8_sizeOf_74 : decode cX8_sizeOf 74 = .ok (.iconst 2, 1) := by decide +kernel
theorem dX8_sizeOf_75 : decode cX8_sizeOf 75 = .ok (.aload_n 0, 1) := by decide +kernel
theorem dX8_sizeOf_76 : decode cX8_sizeOf 76 = .ok (.aload_n 0, 1) := by decide +kernel
theorem dX8_sizeOf_77 : decode cX8_sizeOf 77 = .ok (.getfield 92, 3) := by decide +kernel
theorem dX8_sizeOf_80 : decode cX8_sizeOf 80 = .ok (.invokevirtual 282, 3) := by decide +kernel
theorem dX8_sizeOf_83 : decode cX8_sizeOf 83 = .ok (.imul, 1) := by decide +kernel
theorem dX8_sizeOf_84 : decode cX8_sizeOf 84 = .ok (.iadd, 1) := by decide +kernel
theorem dX8_sizeOf_85 : decode cX8_sizeOf 85 = .ok (.istore_n 3, 1) := by decide +kernel
theorem dX8_sizeOf_86 : decode cX8_sizeOf 86 = .ok (.iload_n 3, 1) := by decide +kernel
theorem dX8_sizeOf_87 : decode cX8_sizeOf 87 = .ok (.ireturn, 1) := by decide +kernel
theorem dX8_leaf_0 : decode cX8_leaf 0 = .ok (.aload_n 0, 1) := by decide +kernel
theorem dX8_leaf_1 : decode cX8_leaf 1 = .ok (.iload_n 1, 1) := by decide +kernel
theorem dX8_leaf_2 : decode cX8_leaf 2 = .ok (.invokevirtual 289, 3) := by decide +kernel
theorem dX8_leaf_5 : decode cX8_leaf 5 = .ok (.ifCond .ne 5, 3) := by decide +kernel
theorem dX8_leaf_8 : decode cX8_leaf 8 = .ok (.iconst (-1), 1) := by decide +kernel
theorem dX8_leaf_9 : decode cX8_leaf 9 = .ok (.ireturn, 1) := by decide +kernel
theorem dX8_leaf_10 : decode cX8_leaf 10 = .ok (.aload_n 0, 1) := by decide +kernel
theorem dX8_leaf_11 : decode cX8_leaf 11 = .ok (.iload_n 1, 1) := by decide +kernel
theorem dX8_leaf_12 : decode cX8_leaf 12 = .ok (.invokevirtual 292, 3) := by decide +kernel
theorem dX8_leaf_15 : decode cX8_leaf 15 = .ok (.iload_n 2, 1) := by decide +kernel
theorem dX8_leaf_16 : decode cX8_leaf 16 = .ok (.tableswitch 113 0 7 #[48, 53, 64, 84, 91, 96, 102, 108], 48) := by decide +kernel
theorem dX8_leaf_64 : decode cX8_leaf 64 = .ok (.aload_n 0, 1) := by decide +kernel
theorem dX8_leaf_65 : decode cX8_leaf 65 = .ok (.invokevirtual 286, 3) := by decide +kernel
theorem dX8_leaf_68 : decode cX8_leaf 68 = .ok (.ireturn, 1) := by decide +kernel
theorem dX8_leaf_69 : decode cX8_leaf 69 = .ok (.aload_n 0, 1) := by decide +kernel
theorem dX8_leaf_70 : decode cX8_leaf 70 = .ok (.aload_n 0, 1) := by decide +kernel
theorem dX8_leaf_71 : decode cX8_leaf 71 = .ok (.getfield 254, 3) := by decide +kernel
theorem dX8_leaf_74 : decode cX8_leaf 74 = .ok (.iconst 1, 1) := by decide +kernel
theorem dX8_leaf_75 : decode cX8_leaf 75 = .ok (.isub, 1) := by decide +kernel
theorem dX8_leaf_76 : decode cX8_leaf 76 = .ok (.invokevirtual 271, 3) := by decide +kernel
theorem dX8_leaf_79 : decode cX8_leaf 79 = .ok (.ireturn, 1) := by decide +kernel
theorem dX8_leaf_80 : decode cX8_leaf 80 = .ok (.aload_n 0, 1) := by decide +kernel
theorem dX8_leaf_81 : decode cX8_leaf 81 = .ok (.getfield 44, 3) := by decide +kernel
theorem dX8_leaf_84 : decode cX8_leaf 84 = .ok (.aload_n 0, 1) := by decide +kernel
theorem dX8_leaf_85 : decode cX8_leaf 85 = .ok (.getfield 50, 3) := by decide +kernel
theorem dX8_leaf_88 : decode cX8_leaf 88 = .ok (.iload_n 1, 1) := by decide +kernel
theorem dX8_leaf_89 : decode cX8_leaf 89 = .ok (.iaload, 1) := by decide +kernel
theorem dX8_leaf_90 : decode cX8_leaf 90 = .ok (.iaload, 1) := by decide +kernel
theorem dX8_leaf_91 : decode cX8_leaf 91 = .ok (.ifCond .ne 7, 3) := by decide +kernel
theorem dX8_leaf_94 : decode cX8_leaf 94 = .ok (.iconst 1, 1) := by decide +kernel
theorem dX8_leaf_95 : decode cX8_leaf 95 = .ok (.goto 4, 3) := by decide +kernel
theorem dX8_leaf_98 : decode cX8_leaf 98 = .ok (.iconst 0, 1) := by decide +kernel
theorem dX8_leaf_99 : decode cX8_leaf 99 = .ok (.ireturn, 1) := by decide +kernel
theorem dX8_leaf_100 : decode cX8_leaf 100 = .ok (.aload_n 0, 1) := by decide +kernel
theorem dX8_leaf_101 : decode cX8_leaf 101 = .ok (.getfield 254, 3) := by decide +kernel
theorem dX8_leaf_104 : decode cX8_leaf 104 = .ok (.iconst 1, 1) := by decide +kernel
theorem dX8_leaf_105 : decode cX8_leaf 105 = .ok (.isub, 1) := by decide +kernel
theorem dX8_leaf_106 : decode cX8_leaf 106 = .ok (.ireturn, 1) := by decide +kernel
theorem dX8_leaf_107 : decode cX8_leaf 107 = .ok (.aload_n 0, 1) := by decide +kernel
theorem dX8_leaf_108 : decode cX8_leaf 108 = .ok (.getfield 257, 3) := by decide +kernel
theorem dX8_leaf_111 : decode cX8_leaf 111 = .ok (.ireturn, 1) := by decide +kernel
theorem dX8_leaf_112 : decode cX8_leaf 112 = .ok (.aload_n 0, 1) := by decide +kernel
theorem dX8_leaf_113 : decode cX8_leaf 113 = .ok (.iconst 0, 1) := by decide +kernel
theorem dX8_leaf_114 : decode cX8_leaf 114 = .ok (.invokevirtual 278, 3) := by decide +kernel
theorem dX8_leaf_117 : decode cX8_leaf 117 = .ok (.ireturn, 1) := by decide +kernel
theorem dX8_leaf_118 : decode cX8_leaf 118 = .ok (.aload_n 0, 1) := by decide +kernel
theorem dX8_leaf_119 : decode cX8_leaf 119 = .ok (.iconst 1, 1) := by decide +kernel
theorem dX8_leaf_120 : decode cX8_leaf 120 = .ok (.invokevirtual 278, 3) := by decide +kernel
theorem dX8_leaf_123 : decode cX8_leaf 123 = .ok (.ireturn, 1) := by decide +kernel
theorem dX8_leaf_124 : decode cX8_leaf 124 = .ok (.aload_n 0, 1) := by decide +kernel
theorem dX8_leaf_125 : decode cX8_leaf 125 = .ok (.invokevirtual 295, 3) := by decide +kernel
theorem dX8_leaf_128 : decode cX8_leaf 128 = .ok (.ireturn, 1) := by decide +kernel
theorem dX8_leaf_129 : decode cX8_leaf 129 = .ok (.iconst (-1), 1) := by decide +kernel
theorem dX8_leaf_130 : decode cX8_leaf 130 = .ok (.ireturn, 1) := by decide +kernel
theorem dX8_isRow_0 : decode cX8_isRow 0 = .ok (.aload_n 0, 1) := by decide +kernel
theorem dX8_isRow_1 : decode cX8_isRow 1 = .ok (.iload_n 1, 1) := by decide +kernel
theorem dX8_isRow_2 : decode cX8_isRow 2 = .ok (.invokevirtual 289, 3) := by decide +kernel
theorem dX8_isRow_5 : decode cX8_isRow 5 = .ok (.ifCond .eq 7, 3) := by decide +kernel
theorem dX8_isRow_8 : decode cX8_isRow 8 = .ok (.iload_n 2, 1) := by decide +kernel
theorem dX8_isRow_9 : decode cX8_isRow 9 = .ok (.ifCond .ge 5, 3) := by decide +kernel
theorem dX8_isRow_12 : decode cX8_isRow 12 = .ok (.iconst 0, 1) := by decide +kernel
theorem dX8_isRow_13 : decode cX8_isRow 13 = .ok (.ireturn, 1) := by decide +kernel
theorem dX8_isRow_14 : decode cX8_isRow 14 = .ok (.aload_n 0, 1) := by decide +kernel
theorem dX8_isRow_15 : decode cX8_isRow 15 = .ok (.iload_n 1, 1) := by decide +kernel
theorem dX8_isRow_16 : decode cX8_isRow 16 = .ok (.invokevirtual 292, 3) := by decide +kernel
theorem dX8_isRow_19 : decode cX8_isRow 19 = .ok (.iload_n 2, 1) := by decide +kernel
theorem dX8_isRow_20 : decode cX8_isRow 20 = .ok (.aload_n 0, 1) := by decide +kernel
theorem dX8_isRow_21 : decode cX8_isRow 21 = .ok (.getfield 257, 3) := by decide +kernel
theorem dX8_isRow_24 : decode cX8_isRow 24 = .ok (.if_icmp .ge 7, 3) := by decide +kernel
theorem dX8_isRow_27 : decode cX8_isRow 27 = .ok (.iconst 1, 1) := by decide +kernel
theorem dX8_isRow_28 : decode cX8_isRow 28 = .ok (.goto 4, 3) := by decide +kernel
theorem dX8_isRow_31 : decode cX8_isRow 31 = .ok (.iconst 0, 1) := by decide +kernel
theorem dX8_isRow_32 : decode cX8_isRow 32 = .ok (.ireturn, 1) := by decide +kernel
theorem dX8_row_0 : decode cX8_row 0 = .ok (.aload_n 0, 1) := by decide +kernel
theorem dX8_row_1 : decode cX8_row 1 = .ok (.iload_n 1, 1) := by decide +kernel
theorem dX8_row_2 : decode cX8_row 2 = .ok (.iload_n 2, 1) := by decide +kernel
theorem dX8_row_3 : decode cX8_row 3 = .ok (.invokevirtual 298, 3) := by decide +kernel
theorem dX8_row_6 : decode cX8_row 6 = .ok (.ifCond .ne 5, 3) := by decide +kernel
theorem dX8_row_9 : decode cX8_row 9 = .ok (.iconst (-1), 1) := by decide +kernel
theorem dX8_row_10 : decode cX8_row 10 = .ok (.ireturn, 1) := by decide +kernel
theorem dX8_row_11 : decode cX8_row 11 = .ok (.iload_n 3, 1) := by decide +kernel
theorem dX8_row_12 : decode cX8_row 12 = .ok (.tableswitch 68 0 3 #[32, 39, 46, 61], 32) := by decide +kernel
theorem dX8_row_44 : decode cX8_row 44 = .ok (.aload_n 0, 1) := by decide +kernel
theorem dX8_row_45 : decode cX8_row 45 = .ok (.getfield 89, 3) := by decide +kernel
theorem dX8_row_48 : decode cX8_row 48 = .ok (.iload_n 2, 1) := by decide +kernel
theorem dX8_row_49 : decode cX8_row 49 = .ok (.iaload, 1) := by decide +kernel
theorem dX8_row_50 : decode cX8_row 50 = .ok (.ireturn, 1) := by decide +kernel
theorem dX8_row_51 : decode cX8_row 51 = .ok (.aload_n 0, 1) := by decide +kernel
theorem dX8_row_52 : decode cX8_row 52 = .ok (.getfield 92, 3) := by decide +kernel
theorem dX8_row_55 : decode cX8_row 55 = .ok (.iload_n 2, 1) := by decide +kernel
theorem dX8_row_56 : decode cX8_row 56 = .ok (.iaload, 1) := by decide +kernel
theorem dX8_row_57 : decode cX8_row 57 = .ok (.ireturn, 1) := by decide +kernel
theorem dX8_row_58 : decode cX8_row 58 = .ok (.aload_n 0, 1) := by decide +kernel
theorem dX8_row_59 : decode cX8_row 59 = .ok (.getfield 95, 3) := by decide +kernel
theorem dX8_row_62 : decode cX8_row 62 = .ok (.iload_n 2, 1) := by decide +kernel
theorem dX8_row_63 : decode cX8_row 63 = .ok (.baload, 1) := by decide +kernel
theorem dX8_row_64 : decode cX8_row 64 = .ok (.ifCond .eq 7, 3) := by decide +kernel
theorem dX8_row_67 : decode cX8_row 67 = .ok (.iconst 1, 1) := by decide +kernel
theorem dX8_row_68 : decode cX8_row 68 = .ok (.goto 4, 3) := by decide +kernel
theorem dX8_row_71 : decode cX8_row 71 = .ok (.iconst 0, 1) := by decide +kernel
theorem dX8_row_72 : decode cX8_row 72 = .ok (.ireturn, 1) := by decide +kernel
theorem dX8_row_73 : decode cX8_row 73 = .ok (.aload_n 0, 1) := by decide +kernel
theorem dX8_row_74 : decode cX8_row 74 = .ok (.getfield 102, 3) := by decide +kernel
theorem dX8_row_77 : decode cX8_row 77 = .ok (.iload_n 2, 1) := by decide +kernel
theorem dX8_row_78 : decode cX8_row 78 = .ok (.iaload, 1) := by decide +kernel
theorem dX8_row_79 : decode cX8_row 79 = .ok (.ireturn, 1) := by decide +kernel
theorem dX8_row_80 : decode cX8_row 80 = .ok (.iconst (-1), 1) := by decide +kernel
theorem dX8_row_81 : decode cX8_row 81 = .ok (.ireturn, 1) := by decide +kernel
theorem dX8_value_0 : decode cX8_value 0 = .ok (.aload_n 0, 1) := by decide +kernel
theorem dX8_value_1 : decode cX8_value 1 = .ok (.iload_n 1, 1) := by decide +kernel
theorem dX8_value_2 : decode cX8_value 2 = .ok (.iload_n 2, 1) := by decide +kernel
theorem dX8_value_3 : decode cX8_value 3 = .ok (.invokevirtual 298, 3) := by decide +kernel
theorem dX8_value_6 : decode cX8_value 6 = .ok (.ifCond .eq 21, 3) := by decide +kernel
theorem dX8_value_9 : decode cX8_value 9 = .ok (.aload_n 0, 1) := by decide +kernel
theorem dX8_value_10 : decode cX8_value 10 = .ok (.getfield 95, 3) := by decide +kernel
theorem dX8_value_13 : decode cX8_value 13 = .ok (.iload_n 2, 1) := by decide +kernel
theorem dX8_value_14 : decode cX8_value 14 = .ok (.baload, 1) := by decide +kernel
theorem dX8_value_15 : decode cX8_value 15 = .ok (.ifCond .eq 12, 3) := by decide +kernel
theorem dX8_value_18 : decode cX8_value 18 = .ok (.aload_n 0, 1) := by decide +kernel
theorem dX8_value_19 : decode cX8_value 19 = .ok (.getfield 99, 3) := by decide +kernel
theorem dX8_value_22 : decode cX8_value 22 = .ok (.iload_n 2, 1) := by decide +kernel
theorem dX8_value_23 : decode cX8_value 23 = .ok (.laload, 1) := by decide +kernel
theorem dX8_value_24 : decode cX8_value 24 = .ok (.goto 4, 3) := by decide +kernel
theorem dX8_value_27 : decode cX8_value 27 = .ok (.lconst 0, 1) := by decide +kernel
theorem dX8_value_28 : decode cX8_value 28 = .ok (.lreturn, 1) := by decide +kernel
theorem dX8_lays_0 : decode cX8_lays 0 = .ok (.aload_n 0, 1) := by decide +kernel
theorem dX8_lays_1 : decode cX8_lays 1 = .ok (.getfield 120, 3) := by decide +kernel
theorem dX8_lays_4 : decode cX8_lays 4 = .ok (.aload_n 0, 1) := by decide +kernel
theorem dX8_lays_5 : decode cX8_lays 5 = .ok (.getfield 301, 3) := by decide +kernel
theorem dX8_lays_8 : decode cX8_lays 8 = .ok (.iload_n 1, 1) := by decide +kernel
theorem dX8_lays_9 : decode cX8_lays 9 = .ok (.iastore, 1) := by decide +kernel
theorem dX8_lays_10 : decode cX8_lays 10 = .ok (.aload_n 0, 1) := by decide +kernel
theorem dX8_lays_11 : decode cX8_lays 11 = .ok (.dup, 1) := by decide +kernel
theorem dX8_lays_12 : decode cX8_lays 12 = .ok (.getfield 301, 3) := by decide +kernel
theorem dX8_lays_15 : decode cX8_lays 15 = .ok (.iconst 1, 1) := by decide +kernel
theorem dX8_lays_16 : decode cX8_lays 16 = .ok (.iadd, 1) := by decide +kernel
theorem dX8_lays_17 : decode cX8_lays 17 = .ok (.putfield 301, 3) := by decide +kernel
theorem dX8_lays_20 : decode cX8_lays 20 = .ok (.return_, 1) := by decide +kernel
theorem dX8_laysWord_0 : decode cX8_laysWord 0 = .ok (.lconst 1, 1) := by decide +kernel
theorem dX8_laysWord_1 : decode cX8_laysWord 1 = .ok (.lstore_n 3, 1) := by decide +kernel
theorem dX8_laysWord_2 : decode cX8_laysWord 2 = .ok (.lload_n 3, 1) := by decide +kernel
theorem dX8_laysWord_3 : decode cX8_laysWord 3 = .ok (.ldc2_w 156, 3) := by decide +kernel
theorem dX8_laysWord_6 : decode cX8_laysWord 6 = .ok (.lmul, 1) := by decide +kernel
theorem dX8_laysWord_7 : decode cX8_laysWord 7 = .ok (.lload_n 1, 1) := by decide +kernel
theorem dX8_laysWord_8 : decode cX8_laysWord 8 = .ok (.lcmp, 1) := by decide +kernel
theorem dX8_laysWord_9 : decode cX8_laysWord 9 = .ok (.ifCond .gt 12, 3) := by decide +kernel
theorem dX8_laysWord_12 : decode cX8_laysWord 12 = .ok (.lload_n 3, 1) := by decide +kernel
theorem dX8_laysWord_13 : decode cX8_laysWord 13 = .ok (.ldc2_w 156, 3) := by decide +kernel
theorem dX8_laysWord_16 : decode cX8_laysWord 16 = .ok (.lmul, 1) := by decide +kernel
theorem dX8_laysWord_17 : decode cX8_laysWord 17 = .ok (.lstore_n 3, 1) := by decide +kernel
theorem dX8_laysWord_18 : decode cX8_laysWord 18 = .ok (.goto (-16), 3) := by decide +kernel
theorem dX8_laysWord_21 : decode cX8_laysWord 21 = .ok (.lload_n 3, 1) := by decide +kernel
theorem dX8_laysWord_22 : decode cX8_laysWord 22 = .ok (.lstore 5, 2) := by decide +kernel
theorem dX8_laysWord_24 : decode cX8_laysWord 24 = .ok (.lload 5, 2) := by decide +kernel
theorem dX8_laysWord_26 : decode cX8_laysWord 26 = .ok (.lconst 0, 1) := by decide +kernel
theorem dX8_laysWord_27 : decode cX8_laysWord 27 = .ok (.lcmp, 1) := by decide +kernel
theorem dX8_laysWord_28 : decode cX8_laysWord 28 = .ok (.ifCond .le 30, 3) := by decide +kernel
theorem dX8_laysWord_31 : decode cX8_laysWord 31 = .ok (.aload_n 0, 1) := by decide +kernel
theorem dX8_laysWord_32 : decode cX8_laysWord 32 = .ok (.bipush 96, 2) := by decide +kernel
theorem dX8_laysWord_34 : decode cX8_laysWord 34 = .ok (.lload_n 1, 1) := by decide +kernel
theorem dX8_laysWord_35 : decode cX8_laysWord 35 = .ok (.lload 5, 2) := by decide +kernel
theorem dX8_laysWord_37 : decode cX8_laysWord 37 = .ok (.ldiv, 1) := by decide +kernel
theorem dX8_laysWord_38 : decode cX8_laysWord 38 = .ok (.ldc2_w 156, 3) := by decide +kernel
theorem dX8_laysWord_41 : decode cX8_laysWord 41 = .ok (.lrem, 1) := by decide +kernel
theorem dX8_laysWord_42 : decode cX8_laysWord 42 = .ok (.l2i, 1) := by decide +kernel
theorem dX8_laysWord_43 : decode cX8_laysWord 43 = .ok (.iadd, 1) := by decide +kernel
theorem dX8_laysWord_44 : decode cX8_laysWord 44 = .ok (.invokevirtual 304, 3) := by decide +kernel
theorem dX8_laysWord_47 : decode cX8_laysWord 47 = .ok (.lload 5, 2) := by decide +kernel
theorem dX8_laysWord_49 : decode cX8_laysWord 49 = .ok (.ldc2_w 156, 3) := by decide +kernel
theorem dX8_laysWord_52 : decode cX8_laysWord 52 = .ok (.ldiv, 1) := by decide +kernel
theorem dX8_laysWord_53 : decode cX8_laysWord 53 = .ok (.lstore 5, 2) := by decide +kernel
theorem dX8_laysWord_55 : decode cX8_laysWord 55 = .ok (.goto (-31), 3) := by decide +kernel
theorem dX8_laysWord_58 : decode cX8_laysWord 58 = .ok (.return_, 1) := by decide +kernel
theorem dX8_laysNumber_0 : decode cX8_laysNumber 0 = .ok (.lload_n 1, 1) := by decide +kernel
theorem dX8_laysNumber_1 : decode cX8_laysNumber 1 = .ok (.lconst 0, 1) := by decide +kernel
theorem dX8_laysNumber_2 : decode cX8_laysNumber 2 = .ok (.lcmp, 1) := by decide +kernel
theorem dX8_laysNumber_3 : decode cX8_laysNumber 3 = .ok (.ifCond .ge 9, 3) := by decide +kernel
theorem dX8_laysNumber_6 : decode cX8_laysNumber 6 = .ok (.aload_n 0, 1) := by decide +kernel
theorem dX8_laysNumber_7 : decode cX8_laysNumber 7 = .ok (.bipush 45, 2) := by decide +kernel
theorem dX8_laysNumber_9 : decode cX8_laysNumber 9 = .ok (.invokevirtual 304, 3) := by decide +kernel
theorem dX8_laysNumber_12 : decode cX8_laysNumber 12 = .ok (.lload_n 1, 1) := by decide +kernel
theorem dX8_laysNumber_13 : decode cX8_laysNumber 13 = .ok (.lconst 0, 1) := by decide +kernel
theorem dX8_laysNumber_14 : decode cX8_laysNumber 14 = .ok (.lcmp, 1) := by decide +kernel
theorem dX8_laysNumber_15 : decode cX8_laysNumber 15 = .ok (.ifCond .ge 8, 3) := by decide +kernel
theorem dX8_laysNumber_18 : decode cX8_laysNumber 18 = .ok (.lload_n 1, 1) := by decide +kernel
theorem dX8_laysNumber_19 : decode cX8_laysNumber 19 = .ok (.lneg, 1) := by decide +kernel
theorem dX8_laysNumber_20 : decode cX8_laysNumber 20 = .ok (.goto 4, 3) := by decide +kernel
theorem dX8_laysNumber_23 : decode cX8_laysNumber 23 = .ok (.lload_n 1, 1) := by decide +kernel
theorem dX8_laysNumber_24 : decode cX8_laysNumber 24 = .ok (.lstore_n 3, 1) := by decide +kernel
theorem dX8_laysNumber_25 : decode cX8_laysNumber 25 = .ok (.lconst 1, 1) := by decide +kernel
theorem dX8_laysNumber_26 : decode cX8_laysNumber 26 = .ok (.lstore 5, 2) := by decide +kernel
theorem dX8_laysNumber_28 : decode cX8_laysNumber 28 = .ok (.lload 5, 2) := by decide +kernel
theorem dX8_laysNumber_30 : decode cX8_laysNumber 30 = .ok (.ldc2_w 227, 3) := by decide +kernel
theorem dX8_laysNumber_33 : decode cX8_laysNumber 33 = .ok (.lmul, 1) := by decide +kernel
theorem dX8_laysNumber_34 : decode cX8_laysNumber 34 = .ok (.lload_n 3, 1) := by decide +kernel
theorem dX8_laysNumber_35 : decode cX8_laysNumber 35 = .ok (.lcmp, 1) := by decide +kernel
theorem dX8_laysNumber_36 : decode cX8_laysNumber 36 = .ok (.ifCond .gt 14, 3) := by decide +kernel
theorem dX8_laysNumber_39 : decode cX8_laysNumber 39 = .ok (.lload 5, 2) := by decide +kernel
theorem dX8_laysNumber_41 : decode cX8_laysNumber 41 = .ok (.ldc2_w 227, 3) := by decide +kernel
theorem dX8_laysNumber_44 : decode cX8_laysNumber 44 = .ok (.lmul, 1) := by decide +kernel
theorem dX8_laysNumber_45 : decode cX8_laysNumber 45 = .ok (.lstore 5, 2) := by decide +kernel
theorem dX8_laysNumber_47 : decode cX8_laysNumber 47 = .ok (.goto (-19), 3) := by decide +kernel
theorem dX8_laysNumber_50 : decode cX8_laysNumber 50 = .ok (.lload 5, 2) := by decide +kernel
theorem dX8_laysNumber_52 : decode cX8_laysNumber 52 = .ok (.lstore 7, 2) := by decide +kernel
theorem dX8_laysNumber_54 : decode cX8_laysNumber 54 = .ok (.lload 7, 2) := by decide +kernel
theorem dX8_laysNumber_56 : decode cX8_laysNumber 56 = .ok (.lconst 0, 1) := by decide +kernel
theorem dX8_laysNumber_57 : decode cX8_laysNumber 57 = .ok (.lcmp, 1) := by decide +kernel
theorem dX8_laysNumber_58 : decode cX8_laysNumber 58 = .ok (.ifCond .le 30, 3) := by decide +kernel
theorem dX8_laysNumber_61 : decode cX8_laysNumber 61 = .ok (.aload_n 0, 1) := by decide +kernel
theorem dX8_laysNumber_62 : decode cX8_laysNumber 62 = .ok (.bipush 48, 2) := by decide +kernel
theorem dX8_laysNumber_64 : decode cX8_laysNumber 64 = .ok (.lload_n 3, 1) := by decide +kernel
theorem dX8_laysNumber_65 : decode cX8_laysNumber 65 = .ok (.lload 7, 2) := by decide +kernel
theorem dX8_laysNumber_67 : decode cX8_laysNumber 67 = .ok (.ldiv, 1) := by decide +kernel
theorem dX8_laysNumber_68 : decode cX8_laysNumber 68 = .ok (.ldc2_w 227, 3) := by decide +kernel
theorem dX8_laysNumber_71 : decode cX8_laysNumber 71 = .ok (.lrem, 1) := by decide +kernel
theorem dX8_laysNumber_72 : decode cX8_laysNumber 72 = .ok (.l2i, 1) := by decide +kernel
theorem dX8_laysNumber_73 : decode cX8_laysNumber 73 = .ok (.iadd, 1) := by decide +kernel
theorem dX8_laysNumber_74 : decode cX8_laysNumber 74 = .ok (.invokevirtual 304, 3) := by decide +kernel
theorem dX8_laysNumber_77 : decode cX8_laysNumber 77 = .ok (.lload 7, 2) := by decide +kernel
theorem dX8_laysNumber_79 : decode cX8_laysNumber 79 = .ok (.ldc2_w 227, 3) := by decide +kernel
theorem dX8_laysNumber_82 : decode cX8_laysNumber 82 = .ok (.ldiv, 1) := by decide +kernel
theorem dX8_laysNumber_83 : decode cX8_laysNumber 83 = .ok (.lstore 7, 2) := by decide +kernel
theorem dX8_laysNumber_85 : decode cX8_laysNumber 85 = .ok (.goto (-31), 3) := by decide +kernel
theorem dX8_laysNumber_88 : decode cX8_laysNumber 88 = .ok (.return_, 1) := by decide +kernel
theorem dX8_text_0 : decode cX8_text 0 = .ok (.aload_n 0, 1) := by decide +kernel
theorem dX8_text_1 : decode cX8_text 1 = .ok (.iload_n 1, 1) := by decide +kernel
theorem dX8_text_2 : decode cX8_text 2 = .ok (.invokevirtual 251, 3) := by decide +kernel
theorem dX8_text_5 : decode cX8_text 5 = .ok (.ifCond .ne 5, 3) := by decide +kernel
theorem dX8_text_8 : decode cX8_text 8 = .ok (.iconst (-1), 1) := by decide +kernel
theorem dX8_text_9 : decode cX8_text 9 = .ok (.ireturn, 1) := by decide +kernel
theorem dX8_text_10 : decode cX8_text 10 = .ok (.iconst 0, 1) := by decide +kernel
theorem dX8_text_11 : decode cX8_text 11 = .ok (.istore_n 3, 1) := by decide +kernel
theorem dX8_text_12 : decode cX8_text 12 = .ok (.iload_n 3, 1) := by decide +kernel
theorem dX8_text_13 : decode cX8_text 13 = .ok (.aload_n 0, 1) := by decide +kernel
theorem dX8_text_14 : decode cX8_text 14 = .ok (.getfield 208, 3) := by decide +kernel
theorem dX8_text_17 : decode cX8_text 17 = .ok (.if_icmp .ge 16, 3) := by decide +kernel
theorem dX8_text_20 : decode cX8_text 20 = .ok (.aload_n 0, 1) := by decide +kernel
theorem dX8_text_21 : decode cX8_text 21 = .ok (.getfield 123, 3) := by decide +kernel
theorem dX8_text_24 : decode cX8_text 24 = .ok (.iload_n 3, 1) := by decide +kernel
theorem dX8_text_25 : decode cX8_text 25 = .ok (.iconst 0, 1) := by decide +kernel
theorem dX8_text_26 : decode cX8_text 26 = .ok (.bastore, 1) := by decide +kernel
theorem dX8_text_27 : decode cX8_text 27 = .ok (.iinc 3 1, 3) := by decide +kernel
theorem dX8_text_30 : decode cX8_text 30 = .ok (.goto (-18), 3) := by decide +kernel
theorem dX8_text_33 : decode cX8_text 33 = .ok (.iconst 0, 1) := by decide +kernel
theorem dX8_text_34 : decode cX8_text 34 = .ok (.istore_n 3, 1) := by decide +kernel
theorem dX8_text_35 : decode cX8_text 35 = .ok (.iload_n 3, 1) := by decide +kernel
theorem dX8_text_36 : decode cX8_text 36 = .ok (.aload_n 0, 1) := by decide +kernel
theorem dX8_text_37 : decode cX8_text 37 = .ok (.getfield 211, 3) := by decide +kernel
theorem dX8_text_40 : decode cX8_text 40 = .ok (.if_icmp .ge 52, 3) := by decide +kernel
theorem dX8_text_43 : decode cX8_text 43 = .ok (.iload_n 2, 1) := by decide +kernel
theorem dX8_text_44 : decode cX8_text 44 = .ok (.iload_n 3, 1) := by decide +kernel
theorem dX8_text_45 : decode cX8_text 45 = .ok (.ishr, 1) := by decide +kernel
theorem dX8_text_46 : decode cX8_text 46 = .ok (.iconst 1, 1) := by decide +kernel
theorem dX8_text_47 : decode cX8_text 47 = .ok (.iand, 1) := by decide +kernel
theorem dX8_text_48 : decode cX8_text 48 = .ok (.iconst 1, 1) := by decide +kernel
theorem dX8_text_49 : decode cX8_text 49 = .ok (.if_icmp .ne 37, 3) := by decide +kernel
theorem dX8_text_52 : decode cX8_text 52 = .ok (.aload_n 0, 1) := by decide +kernel
theorem dX8_text_53 : decode cX8_text 53 = .ok (.getfield 50, 3) := by decide +kernel
theorem dX8_text_56 : decode cX8_text 56 = .ok (.iload_n 3, 1) := by decide +kernel
theorem dX8_text_57 : decode cX8_text 57 = .ok (.iaload, 1) := by decide +kernel
theorem dX8_text_58 : decode cX8_text 58 = .ok (.istore 4, 2) := by decide +kernel
theorem dX8_text_60 : decode cX8_text 60 = .ok (.iload 4, 2) := by decide +kernel
theorem dX8_text_62 : decode cX8_text 62 = .ok (.iconst (-1), 1) := by decide +kernel
theorem dX8_text_63 : decode cX8_text 63 = .ok (.if_icmp .eq 23, 3) := by decide +kernel
theorem dX8_text_66 : decode cX8_text 66 = .ok (.aload_n 0, 1) := by decide +kernel
theorem dX8_text_67 : decode cX8_text 67 = .ok (.getfield 123, 3) := by decide +kernel
theorem dX8_text_70 : decode cX8_text 70 = .ok (.iload 4, 2) := by decide +kernel
theorem dX8_text_72 : decode cX8_text 72 = .ok (.iconst 1, 1) := by decide +kernel
theorem dX8_text_73 : decode cX8_text 73 = .ok (.bastore, 1) := by decide +kernel
theorem dX8_text_74 : decode cX8_text 74 = .ok (.aload_n 0, 1) := by decide +kernel
theorem dX8_text_75 : decode cX8_text 75 = .ok (.getfield 37, 3) := by decide +kernel
theorem dX8_text_78 : decode cX8_text 78 = .ok (.iload 4, 2) := by decide +kernel
theorem dX8_text_80 : decode cX8_text 80 = .ok (.iaload, 1) := by decide +kernel
theorem dX8_text_81 : decode cX8_text 81 = .ok (.istore 4, 2) := by decide +kernel
theorem dX8_text_83 : decode cX8_text 83 = .ok (.goto (-23), 3) := by decide +kernel
theorem dX8_text_86 : decode cX8_text 86 = .ok (.iinc 3 1, 3) := by decide +kernel
theorem dX8_text_89 : decode cX8_text 89 = .ok (.goto (-54), 3) := by decide +kernel
theorem dX8_text_92 : decode cX8_text 92 = .ok (.aload_n 0, 1) := by decide +kernel
theorem dX8_text_93 : decode cX8_text 93 = .ok (.iconst 0, 1) := by decide +kernel
theorem dX8_text_94 : decode cX8_text 94 = .ok (.putfield 301, 3) := by decide +kernel
theorem dX8_text_97 : decode cX8_text 97 = .ok (.iconst 0, 1) := by decide +kernel
theorem dX8_text_98 : decode cX8_text 98 = .ok (.istore_n 3, 1) := by decide +kernel
theorem dX8_text_99 : decode cX8_text 99 = .ok (.aload_n 0, 1) := by decide +kernel
theorem dX8_text_100 : decode cX8_text 100 = .ok (.getfield 105, 3) := by decide +kernel
theorem dX8_text_103 : decode cX8_text 103 = .ok (.iconst 0, 1) := by decide +kernel
theorem dX8_text_104 : decode cX8_text 104 = .ok (.aload_n 0, 1) := by decide +kernel
theorem dX8_text_105 : decode cX8_text 105 = .ok (.getfield 74, 3) := by decide +kernel
theorem dX8_text_108 : decode cX8_text 108 = .ok (.iload_n 1, 1) := by decide +kernel
theorem dX8_text_109 : decode cX8_text 109 = .ok (.iaload, 1) := by decide +kernel
theorem dX8_text_110 : decode cX8_text 110 = .ok (.iastore, 1) := by decide +kernel
theorem dX8_text_111 : decode cX8_text 111 = .ok (.aload_n 0, 1) := by decide +kernel
theorem dX8_text_112 : decode cX8_text 112 = .ok (.getfield 126, 3) := by decide +kernel
theorem dX8_text_115 : decode cX8_text 115 = .ok (.iconst 0, 1) := by decide +kernel
theorem dX8_text_116 : decode cX8_text 116 = .ok (.iconst 0, 1) := by decide +kernel
theorem dX8_text_117 : decode cX8_text 117 = .ok (.iastore, 1) := by decide +kernel
theorem dX8_text_118 : decode cX8_text 118 = .ok (.aload_n 0, 1) := by decide +kernel
theorem dX8_text_119 : decode cX8_text 119 = .ok (.getfield 108, 3) := by decide +kernel
theorem dX8_text_122 : decode cX8_text 122 = .ok (.iconst 0, 1) := by decide +kernel
theorem dX8_text_123 : decode cX8_text 123 = .ok (.aload_n 0, 1) := by decide +kernel
theorem dX8_text_124 : decode cX8_text 124 = .ok (.getfield 74, 3) := by decide +kernel
theorem dX8_text_127 : decode cX8_text 127 = .ok (.iload_n 1, 1) := by decide +kernel
theorem dX8_text_128 : decode cX8_text 128 = .ok (.iaload, 1) := by decide +kernel
theorem dX8_text_129 : decode cX8_text 129 = .ok (.iconst 1, 1) := by decide +kernel
theorem dX8_text_130 : decode cX8_text 130 = .ok (.iadd, 1) := by decide +kernel
theorem dX8_text_131 : decode cX8_text 131 = .ok (.iastore, 1) := by decide +kernel
theorem dX8_text_132 : decode cX8_text 132 = .ok (.iload_n 3, 1) := by decide +kernel
theorem dX8_text_133 : decode cX8_text 133 = .ok (.ifCond .lt 302, 3) := by decide +kernel
theorem dX8_text_136 : decode cX8_text 136 = .ok (.aload_n 0, 1) := by decide +kernel
theorem dX8_text_137 : decode cX8_text 137 = .ok (.getfield 126, 3) := by decide +kernel
theorem dX8_text_140 : decode cX8_text 140 = .ok (.iload_n 3, 1) := by decide +kernel
theorem dX8_text_141 : decode cX8_text 141 = .ok (.iaload, 1) := by decide +kernel
theorem dX8_text_142 : decode cX8_text 142 = .ok (.istore 4, 2) := by decide +kernel
theorem dX8_text_144 : decode cX8_text 144 = .ok (.iload 4, 2) := by decide +kernel
theorem dX8_text_146 : decode cX8_text 146 = .ok (.aload_n 0, 1) := by decide +kernel
theorem dX8_text_147 : decode cX8_text 147 = .ok (.getfield 208, 3) := by decide +kernel
theorem dX8_text_150 : decode cX8_text 150 = .ok (.if_icmp .ne 28, 3) := by decide +kernel
theorem dX8_text_153 : decode cX8_text 153 = .ok (.iinc 3 (-1), 3) := by decide +kernel
theorem dX8_text_156 : decode cX8_text 156 = .ok (.iload_n 3, 1) := by decide +kernel
theorem dX8_text_157 : decode cX8_text 157 = .ok (.ifCond .ge 6, 3) := by decide +kernel
theorem dX8_text_160 : decode cX8_text 160 = .ok (.goto (-28), 3) := by decide +kernel
theorem dX8_text_163 : decode cX8_text 163 = .ok (.aload_n 0, 1) := by decide +kernel
theorem dX8_text_164 : decode cX8_text 164 = .ok (.bipush 93, 2) := by decide +kernel
theorem dX8_text_166 : decode cX8_text 166 = .ok (.invokevirtual 304, 3) := by decide +kernel
theorem dX8_text_169 : decode cX8_text 169 = .ok (.aload_n 0, 1) := by decide +kernel
theorem dX8_text_170 : decode cX8_text 170 = .ok (.bipush 59, 2) := by decide +kernel
theorem dX8_text_172 : decode cX8_text 172 = .ok (.invokevirtual 304, 3) := by decide +kernel
theorem dX8_text_175 : decode cX8_text 175 = .ok (.goto (-43), 3) := by decide +kernel
theorem dX8_text_178 : decode cX8_text 178 = .ok (.aload_n 0, 1) := by decide +kernel
theorem dX8_text_179 : decode cX8_text 179 = .ok (.getfield 108, 3) := by decide +kernel
theorem dX8_text_182 : decode cX8_text 182 = .ok (.iload_n 3, 1) := by decide +kernel
theorem dX8_text_183 : decode cX8_text 183 = .ok (.iaload, 1) := by decide +kernel
theorem dX8_text_184 : decode cX8_text 184 = .ok (.istore 5, 2) := by decide +kernel
theorem dX8_text_186 : decode cX8_text 186 = .ok (.aload_n 0, 1) := by decide +kernel
theorem dX8_text_187 : decode cX8_text 187 = .ok (.getfield 123, 3) := by decide +kernel
theorem dX8_text_190 : decode cX8_text 190 = .ok (.iload 4, 2) := by decide +kernel
theorem dX8_text_192 : decode cX8_text 192 = .ok (.baload, 1) := by decide +kernel
theorem dX8_text_193 : decode cX8_text 193 = .ok (.ifCond .eq 28, 3) := by decide +kernel
theorem dX8_text_196 : decode cX8_text 196 = .ok (.aload_n 0, 1) := by decide +kernel
theorem dX8_text_197 : decode cX8_text 197 = .ok (.getfield 37, 3) := by decide +kernel
theorem dX8_text_200 : decode cX8_text 200 = .ok (.iload 4, 2) := by decide +kernel
theorem dX8_text_202 : decode cX8_text 202 = .ok (.iaload, 1) := by decide +kernel
theorem dX8_text_203 : decode cX8_text 203 = .ok (.aload_n 0, 1) := by decide +kernel
theorem dX8_text_204 : decode cX8_text 204 = .ok (.getfield 77, 3) := by decide +kernel
theorem dX8_text_207 : decode cX8_text 207 = .ok (.aload_n 0, 1) := by decide +kernel
theorem dX8_text_208 : decode cX8_text 208 = .ok (.getfield 105, 3) := by decide +kernel
theorem dX8_text_211 : decode cX8_text 211 = .ok (.iload_n 3, 1) := by decide +kernel
theorem dX8_text_212 : decode cX8_text 212 = .ok (.iaload, 1) := by decide +kernel
theorem dX8_text_213 : decode cX8_text 213 = .ok (.iaload, 1) := by decide +kernel
theorem dX8_text_214 : decode cX8_text 214 = .ok (.if_icmp .ne 7, 3) := by decide +kernel
theorem dX8_text_217 : decode cX8_text 217 = .ok (.iconst 1, 1) := by decide +kernel
theorem dX8_text_218 : decode cX8_text 218 = .ok (.goto 4, 3) := by decide +kernel
theorem dX8_text_221 : decode cX8_text 221 = .ok (.iconst 0, 1) := by decide +kernel
theorem dX8_text_222 : decode cX8_text 222 = .ok (.istore 6, 2) := by decide +kernel
theorem dX8_text_224 : decode cX8_text 224 = .ok (.iload 5, 2) := by decide +kernel
theorem dX8_text_226 : decode cX8_text 226 = .ok (.aload_n 0, 1) := by decide +kernel
theorem dX8_text_227 : decode cX8_text 227 = .ok (.getfield 74, 3) := by decide +kernel
theorem dX8_text_230 : decode cX8_text 230 = .ok (.iload_n 1, 1) := by decide +kernel
theorem dX8_text_231 : decode cX8_text 231 = .ok (.iconst 1, 1) := by decide +kernel
theorem dX8_text_232 : decode cX8_text 232 = .ok (.iadd, 1) := by decide +kernel
theorem dX8_text_233 : decode cX8_text 233 = .ok (.iaload, 1) := by decide +kernel
theorem dX8_text_234 : decode cX8_text 234 = .ok (.if_icmp .ge 42, 3) := by decide +kernel
theorem dX8_text_237 : decode cX8_text 237 = .ok (.iload 6, 2) := by decide +kernel
theorem dX8_text_239 : decode cX8_text 239 = .ok (.ifCond .eq 31, 3) := by decide +kernel
theorem dX8_text_242 : decode cX8_text 242 = .ok (.aload_n 0, 1) := by decide +kernel
theorem dX8_text_243 : decode cX8_text 243 = .ok (.getfield 80, 3) := by decide +kernel
theorem dX8_text_246 : decode cX8_text 246 = .ok (.iload 5, 2) := by decide +kernel
theorem dX8_text_248 : decode cX8_text 248 = .ok (.iaload, 1) := by decide +kernel
theorem dX8_text_249 : decode cX8_text 249 = .ok (.aload_n 0, 1) := by decide +kernel
theorem dX8_text_250 : decode cX8_text 250 = .ok (.getfield 105, 3) := by decide +kernel
theorem dX8_text_253 : decode cX8_text 253 = .ok (.iload_n 3, 1) := by decide +kernel
theorem dX8_text_254 : decode cX8_text 254 = .ok (.iaload, 1) := by decide +kernel
theorem dX8_text_255 : decode cX8_text 255 = .ok (.if_icmp .ne 15, 3) := by decide +kernel
theorem dX8_text_258 : decode cX8_text 258 = .ok (.aload_n 0, 1) := by decide +kernel
theorem dX8_text_259 : decode cX8_text 259 = .ok (.getfield 77, 3) := by decide +kernel
theorem dX8_text_262 : decode cX8_text 262 = .ok (.iload 5, 2) := by decide +kernel
theorem dX8_text_264 : decode cX8_text 264 = .ok (.iaload, 1) := by decide +kernel
theorem dX8_text_265 : decode cX8_text 265 = .ok (.iload 4, 2) := by decide +kernel
theorem dX8_text_267 : decode cX8_text 267 = .ok (.if_icmp .eq 9, 3) := by decide +kernel
theorem dX8_text_270 : decode cX8_text 270 = .ok (.iinc 5 1, 3) := by decide +kernel
theorem dX8_text_273 : decode cX8_text 273 = .ok (.goto (-49), 3) := by decide +kernel
theorem dX8_text_276 : decode cX8_text 276 = .ok (.iload 5, 2) := by decide +kernel
theorem dX8_text_278 : decode cX8_text 278 = .ok (.aload_n 0, 1) := by decide +kernel
theorem dX8_text_279 : decode cX8_text 279 = .ok (.getfield 74, 3) := by decide +kernel
theorem dX8_text_282 : decode cX8_text 282 = .ok (.iload_n 1, 1) := by decide +kernel
theorem dX8_text_283 : decode cX8_text 283 = .ok (.iconst 1, 1) := by decide +kernel
theorem dX8_text_284 : decode cX8_text 284 = .ok (.iadd, 1) := by decide +kernel
theorem dX8_text_285 : decode cX8_text 285 = .ok (.iaload, 1) := by decide +kernel
theorem dX8_text_286 : decode cX8_text 286 = .ok (.if_icmp .ne 30, 3) := by decide +kernel
theorem dX8_text_289 : decode cX8_text 289 = .ok (.aload_n 0, 1) := by decide +kernel
theorem dX8_text_290 : decode cX8_text 290 = .ok (.getfield 126, 3) := by decide +kernel
theorem dX8_text_293 : decode cX8_text 293 = .ok (.iload_n 3, 1) := by decide +kernel
theorem dX8_text_294 : decode cX8_text 294 = .ok (.dup2, 1) := by decide +kernel
theorem dX8_text_295 : decode cX8_text 295 = .ok (.iaload, 1) := by decide +kernel
theorem dX8_text_296 : decode cX8_text 296 = .ok (.iconst 1, 1) := by decide +kernel
theorem dX8_text_297 : decode cX8_text 297 = .ok (.iadd, 1) := by decide +kernel
theorem dX8_text_298 : decode cX8_text 298 = .ok (.iastore, 1) := by decide +kernel
theorem dX8_text_299 : decode cX8_text 299 = .ok (.aload_n 0, 1) := by decide +kernel
theorem dX8_text_300 : decode cX8_text 300 = .ok (.getfield 108, 3) := by decide +kernel
theorem dX8_text_303 : decode cX8_text 303 = .ok (.iload_n 3, 1) := by decide +kernel
theorem dX8_text_304 : decode cX8_text 304 = .ok (.aload_n 0, 1) := by decide +kernel
theorem dX8_text_305 : decode cX8_text 305 = .ok (.getfield 105, 3) := by decide +kernel
theorem dX8_text_308 : decode cX8_text 308 = .ok (.iload_n 3, 1) := by decide +kernel
theorem dX8_text_309 : decode cX8_text 309 = .ok (.iaload, 1) := by decide +kernel
theorem dX8_text_310 : decode cX8_text 310 = .ok (.iconst 1, 1) := by decide +kernel
theorem dX8_text_311 : decode cX8_text 311 = .ok (.iadd, 1) := by decide +kernel
theorem dX8_text_312 : decode cX8_text 312 = .ok (.iastore, 1) := by decide +kernel
theorem dX8_text_313 : decode cX8_text 313 = .ok (.goto (-181), 3) := by decide +kernel
theorem dX8_text_316 : decode cX8_text 316 = .ok (.aload_n 0, 1) := by decide +kernel
theorem dX8_text_317 : decode cX8_text 317 = .ok (.getfield 108, 3) := by decide +kernel
theorem dX8_text_320 : decode cX8_text 320 = .ok (.iload_n 3, 1) := by decide +kernel
theorem dX8_text_321 : decode cX8_text 321 = .ok (.iload 5, 2) := by decide +kernel
theorem dX8_text_323 : decode cX8_text 323 = .ok (.iconst 1, 1) := by decide +kernel
theorem dX8_text_324 : decode cX8_text 324 = .ok (.iadd, 1) := by decide +kernel
theorem dX8_text_325 : decode cX8_text 325 = .ok (.iastore, 1) := by decide +kernel
theorem dX8_text_326 : decode cX8_text 326 = .ok (.aload_n 0, 1) := by decide +kernel
theorem dX8_text_327 : decode cX8_text 327 = .ok (.aload_n 0, 1) := by decide +kernel
theorem dX8_text_328 : decode cX8_text 328 = .ok (.getfield 40, 3) := by decide +kernel
theorem dX8_text_331 : decode cX8_text 331 = .ok (.iload 4, 2) := by decide +kernel
theorem dX8_text_333 : decode cX8_text 333 = .ok (.laload, 1) := by decide +kernel
theorem dX8_text_334 : decode cX8_text 334 = .ok (.invokevirtual 307, 3) := by decide +kernel
theorem dX8_text_337 : decode cX8_text 337 = .ok (.aload_n 0, 1) := by decide +kernel
theorem dX8_text_338 : decode cX8_text 338 = .ok (.bipush 58, 2) := by decide +kernel
theorem dX8_text_340 : decode cX8_text 340 = .ok (.invokevirtual 304, 3) := by decide +kernel
theorem dX8_text_343 : decode cX8_text 343 = .ok (.aload_n 0, 1) := by decide +kernel
theorem dX8_text_344 : decode cX8_text 344 = .ok (.getfield 44, 3) := by decide +kernel
theorem dX8_text_347 : decode cX8_text 347 = .ok (.iload 4, 2) := by decide +kernel
theorem dX8_text_349 : decode cX8_text 349 = .ok (.iaload, 1) := by decide +kernel
theorem dX8_text_350 : decode cX8_text 350 = .ok (.iconst 2, 1) := by decide +kernel
theorem dX8_text_351 : decode cX8_text 351 = .ok (.if_icmp .ne 40, 3) := by decide +kernel
theorem dX8_text_354 : decode cX8_text 354 = .ok (.aload_n 0, 1) := by decide +kernel
theorem dX8_text_355 : decode cX8_text 355 = .ok (.bipush 91, 2) := by decide +kernel
theorem dX8_text_357 : decode cX8_text 357 = .ok (.invokevirtual 304, 3) := by decide +kernel
theorem dX8_text_360 : decode cX8_text 360 = .ok (.iinc 3 1, 3) := by decide +kernel
theorem dX8_text_363 : decode cX8_text 363 = .ok (.aload_n 0, 1) := by decide +kernel
theorem dX8_text_364 : decode cX8_text 364 = .ok (.getfield 105, 3) := by decide +kernel
theorem dX8_text_367 : decode cX8_text 367 = .ok (.iload_n 3, 1) := by decide +kernel
theorem dX8_text_368 : decode cX8_text 368 = .ok (.iload 5, 2) := by decide +kernel
theorem dX8_text_370 : decode cX8_text 370 = .ok (.iastore, 1) := by decide +kernel
theorem dX8_text_371 : decode cX8_text 371 = .ok (.aload_n 0, 1) := by decide +kernel
theorem dX8_text_372 : decode cX8_text 372 = .ok (.getfield 126, 3) := by decide +kernel
theorem dX8_text_375 : decode cX8_text 375 = .ok (.iload_n 3, 1) := by decide +kernel
theorem dX8_text_376 : decode cX8_text 376 = .ok (.iconst 0, 1) := by decide +kernel
theorem dX8_text_377 : decode cX8_text 377 = .ok (.iastore, 1) := by decide +kernel
theorem dX8_text_378 : decode cX8_text 378 = .ok (.aload_n 0, 1) := by decide +kernel
theorem dX8_text_379 : decode cX8_text 379 = .ok (.getfield 108, 3) := by decide +kernel
theorem dX8_text_382 : decode cX8_text 382 = .ok (.iload_n 3, 1) := by decide +kernel
theorem dX8_text_383 : decode cX8_text 383 = .ok (.iload 5, 2) := by decide +kernel
theorem dX8_text_385 : decode cX8_text 385 = .ok (.iconst 1, 1) := by decide +kernel
theorem dX8_text_386 : decode cX8_text 386 = .ok (.iadd, 1) := by decide +kernel
theorem dX8_text_387 : decode cX8_text 387 = .ok (.iastore, 1) := by decide +kernel
theorem dX8_text_388 : decode cX8_text 388 = .ok (.goto (-256), 3) := by decide +kernel
theorem dX8_text_391 : decode cX8_text 391 = .ok (.aload_n 0, 1) := by decide +kernel
theorem dX8_text_392 : decode cX8_text 392 = .ok (.getfield 44, 3) := by decide +kernel
theorem dX8_text_395 : decode cX8_text 395 = .ok (.iload 4, 2) := by decide +kernel
theorem dX8_text_397 : decode cX8_text 397 = .ok (.iaload, 1) := by decide +kernel
theorem dX8_text_398 : decode cX8_text 398 = .ok (.ifCond .ne 17, 3) := by decide +kernel
theorem dX8_text_401 : decode cX8_text 401 = .ok (.aload_n 0, 1) := by decide +kernel
theorem dX8_text_402 : decode cX8_text 402 = .ok (.aload_n 0, 1) := by decide +kernel
theorem dX8_text_403 : decode cX8_text 403 = .ok (.getfield 83, 3) := by decide +kernel
theorem dX8_text_406 : decode cX8_text 406 = .ok (.iload 5, 2) := by decide +kernel
theorem dX8_text_408 : decode cX8_text 408 = .ok (.laload, 1) := by decide +kernel
theorem dX8_text_409 : decode cX8_text 409 = .ok (.invokevirtual 311, 3) := by decide +kernel
theorem dX8_text_412 : decode cX8_text 412 = .ok (.goto 14, 3) := by decide +kernel
theorem dX8_text_415 : decode cX8_text 415 = .ok (.aload_n 0, 1) := by decide +kernel
theorem dX8_text_416 : decode cX8_text 416 = .ok (.aload_n 0, 1) := by decide +kernel
theorem dX8_text_417 : decode cX8_text 417 = .ok (.getfield 83, 3) := by decide +kernel
theorem dX8_text_420 : decode cX8_text 420 = .ok (.iload 5, 2) := by decide +kernel
theorem dX8_text_422 : decode cX8_text 422 = .ok (.laload, 1) := by decide +kernel
theorem dX8_text_423 : decode cX8_text 423 = .ok (.invokevirtual 307, 3) := by decide +kernel
theorem dX8_text_426 : decode cX8_text 426 = .ok (.aload_n 0, 1) := by decide +kernel
theorem dX8_text_427 : decode cX8_text 427 = .ok (.bipush 59, 2) := by decide +kernel
theorem dX8_text_429 : decode cX8_text 429 = .ok (.invokevirtual 304, 3) := by decide +kernel
theorem dX8_text_432 : decode cX8_text 432 = .ok (.goto (-300), 3) := by decide +kernel
theorem dX8_text_435 : decode cX8_text 435 = .ok (.aload_n 0, 1) := by decide +kernel
theorem dX8_text_436 : decode cX8_text 436 = .ok (.getfield 301, 3) := by decide +kernel
theorem dX8_text_439 : decode cX8_text 439 = .ok (.ireturn, 1) := by decide +kernel
theorem dX8_at_0 : decode cX8_at 0 = .ok (.iload_n 1, 1) := by decide +kernel
theorem dX8_at_1 : decode cX8_at 1 = .ok (.ifCond .lt 20, 3) := by decide +kernel
theorem dX8_at_4 : decode cX8_at 4 = .ok (.iload_n 1, 1) := by decide +kernel
theorem dX8_at_5 : decode cX8_at 5 = .ok (.aload_n 0, 1) := by decide +kernel
theorem dX8_at_6 : decode cX8_at 6 = .ok (.getfield 301, 3) := by decide +kernel
theorem dX8_at_9 : decode cX8_at 9 = .ok (.if_icmp .ge 12, 3) := by decide +kernel
theorem dX8_at_12 : decode cX8_at 12 = .ok (.aload_n 0, 1) := by decide +kernel
theorem dX8_at_13 : decode cX8_at 13 = .ok (.getfield 120, 3) := by decide +kernel
theorem dX8_at_16 : decode cX8_at 16 = .ok (.iload_n 1, 1) := by decide +kernel
theorem dX8_at_17 : decode cX8_at 17 = .ok (.iaload, 1) := by decide +kernel
theorem dX8_at_18 : decode cX8_at 18 = .ok (.goto 4, 3) := by decide +kernel
theorem dX8_at_21 : decode cX8_at 21 = .ok (.iconst (-1), 1) := by decide +kernel
theorem dX8_at_22 : decode cX8_at 22 = .ok (.ireturn, 1) := by decide +kernel
theorem dX8_among_0 : decode cX8_among 0 = .ok (.aload_n 0, 1) := by decide +kernel
theorem dX8_among_1 : decode cX8_among 1 = .ok (.iload_n 1, 1) := by decide +kernel
theorem dX8_among_2 : decode cX8_among 2 = .ok (.invokevirtual 289, 3) := by decide +kernel
theorem dX8_among_5 : decode cX8_among 5 = .ok (.ifCond .ne 5, 3) := by decide +kernel
theorem dX8_among_8 : decode cX8_among 8 = .ok (.iconst (-1), 1) := by decide +kernel
theorem dX8_among_9 : decode cX8_among 9 = .ok (.ireturn, 1) := by decide +kernel
theorem dX8_among_10 : decode cX8_among 10 = .ok (.aload_n 0, 1) := by decide +kernel
theorem dX8_among_11 : decode cX8_among 11 = .ok (.iload_n 1, 1) := by decide +kernel
theorem dX8_among_12 : decode cX8_among 12 = .ok (.invokevirtual 292, 3) := by decide +kernel
theorem dX8_among_15 : decode cX8_among 15 = .ok (.iconst 0, 1) := by decide +kernel
theorem dX8_among_16 : decode cX8_among 16 = .ok (.istore 6, 2) := by decide +kernel
theorem dX8_among_18 : decode cX8_among 18 = .ok (.iconst 0, 1) := by decide +kernel
theorem dX8_among_19 : decode cX8_among 19 = .ok (.istore 7, 2) := by decide +kernel
theorem dX8_among_21 : decode cX8_among 21 = .ok (.iload 7, 2) := by decide +kernel
theorem dX8_among_23 : decode cX8_among 23 = .ok (.aload_n 0, 1) := by decide +kernel
theorem dX8_among_24 : decode cX8_among 24 = .ok (.getfield 257, 3) := by decide +kernel
theorem dX8_among_27 : decode cX8_among 27 = .ok (.if_icmp .ge 47, 3) := by decide +kernel
theorem dX8_among_30 : decode cX8_among 30 = .ok (.aload_n 0, 1) := by decide +kernel
theorem dX8_among_31 : decode cX8_among 31 = .ok (.getfield 95, 3) := by decide +kernel
theorem dX8_among_34 : decode cX8_among 34 = .ok (.iload 7, 2) := by decide +kernel
theorem dX8_among_36 : decode cX8_among 36 = .ok (.baload, 1) := by decide +kernel
theorem dX8_among_37 : decode cX8_among 37 = .ok (.ifCond .eq 31, 3) := by decide +kernel
theorem dX8_among_40 : decode cX8_among 40 = .ok (.aload_n 0, 1) := by decide +kernel
theorem dX8_among_41 : decode cX8_among 41 = .ok (.getfield 99, 3) := by decide +kernel
theorem dX8_among_44 : decode cX8_among 44 = .ok (.iload 7, 2) := by decide +kernel
theorem dX8_among_46 : decode cX8_among 46 = .ok (.laload, 1) := by decide +kernel
theorem dX8_among_47 : decode cX8_among 47 = .ok (.lload_n 2, 1) := by decide +kernel
theorem dX8_among_48 : decode cX8_among 48 = .ok (.lcmp, 1) := by decide +kernel
theorem dX8_among_49 : decode cX8_among 49 = .ok (.ifCond .lt 19, 3) := by decide +kernel
theorem dX8_among_52 : decode cX8_among 52 = .ok (.aload_n 0, 1) := by decide +kernel
theorem dX8_among_53 : decode cX8_among 53 = .ok (.getfield 99, 3) := by decide +kernel
theorem dX8_among_56 : decode cX8_among 56 = .ok (.iload 7, 2) := by decide +kernel
theorem dX8_among_58 : decode cX8_among 58 = .ok (.laload, 1) := by decide +kernel
theorem dX8_among_59 : decode cX8_among 59 = .ok (.lload 4, 2) := by decide +kernel
theorem dX8_among_61 : decode cX8_among 61 = .ok (.lcmp, 1) := by decide +kernel
theorem dX8_among_62 : decode cX8_among 62 = .ok (.ifCond .gt 6, 3) := by decide +kernel
theorem dX8_among_65 : decode cX8_among 65 = .ok (.iinc 6 1, 3) := by decide +kernel
theorem dX8_among_68 : decode cX8_among 68 = .ok (.iinc 7 1, 3) := by decide +kernel
theorem dX8_among_71 : decode cX8_among 71 = .ok (.goto (-50), 3) := by decide +kernel
theorem dX8_among_74 : decode cX8_among 74 = .ok (.iload 6, 2) := by decide +kernel
theorem dX8_among_76 : decode cX8_among 76 = .ok (.ireturn, 1) := by decide +kernel
theorem dX8_papers_0 : decode cX8_papers 0 = .ok (.aload_n 0, 1) := by decide +kernel
theorem dX8_papers_1 : decode cX8_papers 1 = .ok (.iload_n 1, 1) := by decide +kernel
theorem dX8_papers_2 : decode cX8_papers 2 = .ok (.invokevirtual 289, 3) := by decide +kernel
theorem dX8_papers_5 : decode cX8_papers 5 = .ok (.ifCond .ne 5, 3) := by decide +kernel
theorem dX8_papers_8 : decode cX8_papers 8 = .ok (.iconst (-1), 1) := by decide +kernel
theorem dX8_papers_9 : decode cX8_papers 9 = .ok (.ireturn, 1) := by decide +kernel
theorem dX8_papers_10 : decode cX8_papers 10 = .ok (.aload_n 0, 1) := by decide +kernel
theorem dX8_papers_11 : decode cX8_papers 11 = .ok (.iload_n 1, 1) := by decide +kernel
theorem dX8_papers_12 : decode cX8_papers 12 = .ok (.invokevirtual 292, 3) := by decide +kernel
theorem dX8_papers_15 : decode cX8_papers 15 = .ok (.iconst 0, 1) := by decide +kernel
theorem dX8_papers_16 : decode cX8_papers 16 = .ok (.istore 6, 2) := by decide +kernel
theorem dX8_papers_18 : decode cX8_papers 18 = .ok (.iconst (-1), 1) := by decide +kernel
theorem dX8_papers_19 : decode cX8_papers 19 = .ok (.istore 7, 2) := by decide +kernel
theorem dX8_papers_21 : decode cX8_papers 21 = .ok (.iconst 0, 1) := by decide +kernel
theorem dX8_papers_22 : decode cX8_papers 22 = .ok (.istore 8, 2) := by decide +kernel
theorem dX8_papers_24 : decode cX8_papers 24 = .ok (.iload 8, 2) := by decide +kernel
theorem dX8_papers_26 : decode cX8_papers 26 = .ok (.aload_n 0, 1) := by decide +kernel
theorem dX8_papers_27 : decode cX8_papers 27 = .ok (.getfield 257, 3) := by decide +kernel
theorem dX8_papers_30 : decode cX8_papers 30 = .ok (.if_icmp .ge 71, 3) := by decide +kernel
theorem dX8_papers_33 : decode cX8_papers 33 = .ok (.aload_n 0, 1) := by decide +kernel
theorem dX8_papers_34 : decode cX8_papers 34 = .ok (.getfield 95, 3) := by decide +kernel
theorem dX8_papers_37 : decode cX8_papers 37 = .ok (.iload 8, 2) := by decide +kernel
theorem dX8_papers_39 : decode cX8_papers 39 = .ok (.baload, 1) := by decide +kernel
theorem dX8_papers_40 : decode cX8_papers 40 = .ok (.ifCond .eq 55, 3) := by decide +kernel
theorem dX8_papers_43 : decode cX8_papers 43 = .ok (.aload_n 0, 1) := by decide +kernel
theorem dX8_papers_44 : decode cX8_papers 44 = .ok (.getfield 99, 3) := by decide +kernel
theorem dX8_papers_47 : decode cX8_papers 47 = .ok (.iload 8, 2) := by decide +kernel
theorem dX8_papers_49 : decode cX8_papers 49 = .ok (.laload, 1) := by decide +kernel
theorem dX8_papers_50 : decode cX8_papers 50 = .ok (.lload_n 2, 1) := by decide +kernel
theorem dX8_papers_51 : decode cX8_papers 51 = .ok (.lcmp, 1) := by decide +kernel
theorem dX8_papers_52 : decode cX8_papers 52 = .ok (.ifCond .lt 43, 3) := by decide +kernel
theorem dX8_papers_55 : decode cX8_papers 55 = .ok (.aload_n 0, 1) := by decide +kernel
theorem dX8_papers_56 : decode cX8_papers 56 = .ok (.getfield 99, 3) := by decide +kernel
theorem dX8_papers_59 : decode cX8_papers 59 = .ok (.iload 8, 2) := by decide +kernel
theorem dX8_papers_61 : decode cX8_papers 61 = .ok (.laload, 1) := by decide +kernel
theorem dX8_papers_62 : decode cX8_papers 62 = .ok (.lload 4, 2) := by decide +kernel
theorem dX8_papers_64 : decode cX8_papers 64 = .ok (.lcmp, 1) := by decide +kernel
theorem dX8_papers_65 : decode cX8_papers 65 = .ok (.ifCond .gt 30, 3) := by decide +kernel
theorem dX8_papers_68 : decode cX8_papers 68 = .ok (.aload_n 0, 1) := by decide +kernel
theorem dX8_papers_69 : decode cX8_papers 69 = .ok (.getfield 102, 3) := by decide +kernel
theorem dX8_papers_72 : decode cX8_papers 72 = .ok (.iload 8, 2) := by decide +kernel
theorem dX8_papers_74 : decode cX8_papers 74 = .ok (.iaload, 1) := by decide +kernel
theorem dX8_papers_75 : decode cX8_papers 75 = .ok (.iload 7, 2) := by decide +kernel
theorem dX8_papers_77 : decode cX8_papers 77 = .ok (.if_icmp .ne 6, 3) := by decide +kernel
theorem dX8_papers_80 : decode cX8_papers 80 = .ok (.goto 15, 3) := by decide +kernel
theorem dX8_papers_83 : decode cX8_papers 83 = .ok (.aload_n 0, 1) := by decide +kernel
theorem dX8_papers_84 : decode cX8_papers 84 = .ok (.getfield 102, 3) := by decide +kernel
theorem dX8_papers_87 : decode cX8_papers 87 = .ok (.iload 8, 2) := by decide +kernel
theorem dX8_papers_89 : decode cX8_papers 89 = .ok (.iaload, 1) := by decide +kernel
theorem dX8_papers_90 : decode cX8_papers 90 = .ok (.istore 7, 2) := by decide +kernel
theorem dX8_papers_92 : decode cX8_papers 92 = .ok (.iinc 6 1, 3) := by decide +kernel
theorem dX8_papers_95 : decode cX8_papers 95 = .ok (.iinc 8 1, 3) := by decide +kernel
theorem dX8_papers_98 : decode cX8_papers 98 = .ok (.goto (-74), 3) := by decide +kernel
theorem dX8_papers_101 : decode cX8_papers 101 = .ok (.iload 6, 2) := by decide +kernel
theorem dX8_papers_103 : decode cX8_papers 103 = .ok (.ireturn, 1) := by decide +kernel
theorem dX8_sum_0 : decode cX8_sum 0 = .ok (.aload_n 0, 1) := by decide +kernel
theorem dX8_sum_1 : decode cX8_sum 1 = .ok (.iload_n 1, 1) := by decide +kernel
theorem dX8_sum_2 : decode cX8_sum 2 = .ok (.invokevirtual 289, 3) := by decide +kernel
theorem dX8_sum_5 : decode cX8_sum 5 = .ok (.ifCond .eq 30, 3) := by decide +kernel
theorem dX8_sum_8 : decode cX8_sum 8 = .ok (.aload_n 0, 1) := by decide +kernel
theorem dX8_sum_9 : decode cX8_sum 9 = .ok (.getfield 44, 3) := by decide +kernel
theorem dX8_sum_12 : decode cX8_sum 12 = .ok (.aload_n 0, 1) := by decide +kernel
theorem dX8_sum_13 : decode cX8_sum 13 = .ok (.getfield 50, 3) := by decide +kernel
theorem dX8_sum_16 : decode cX8_sum 16 = .ok (.iload_n 1, 1) := by decide +kernel
theorem dX8_sum_17 : decode cX8_sum 17 = .ok (.iaload, 1) := by decide +kernel
theorem dX8_sum_18 : decode cX8_sum 18 = .ok (.iaload, 1) := by decide +kernel
theorem dX8_sum_19 : decode cX8_sum 19 = .ok (.ifCond .ne 16, 3) := by decide +kernel
theorem dX8_sum_22 : decode cX8_sum 22 = .ok (.iload_n 2, 1) := by decide +kernel
theorem dX8_sum_23 : decode cX8_sum 23 = .ok (.iconst (-1), 1) := by decide +kernel
theorem dX8_sum_24 : decode cX8_sum 24 = .ok (.if_icmp .eq 13, 3) := by decide +kernel
theorem dX8_sum_27 : decode cX8_sum 27 = .ok (.aload_n 0, 1) := by decide +kernel
theorem dX8_sum_28 : decode cX8_sum 28 = .ok (.iload_n 2, 1) := by decide +kernel
theorem dX8_sum_29 : decode cX8_sum 29 = .ok (.invokevirtual 251, 3) := by decide +kernel
theorem dX8_sum_32 : decode cX8_sum 32 = .ok (.ifCond .ne 5, 3) := by decide +kernel
theorem dX8_sum_35 : decode cX8_sum 35 = .ok (.lconst 0, 1) := by decide +kernel
theorem dX8_sum_36 : decode cX8_sum 36 = .ok (.lreturn, 1) := by decide +kernel
theorem dX8_sum_37 : decode cX8_sum 37 = .ok (.aload_n 0, 1) := by decide +kernel
theorem dX8_sum_38 : decode cX8_sum 38 = .ok (.iload_n 1, 1) := by decide +kernel
theorem dX8_sum_39 : decode cX8_sum 39 = .ok (.invokevirtual 292, 3) := by decide +kernel
theorem dX8_sum_42 : decode cX8_sum 42 = .ok (.lconst 0, 1) := by decide +kernel
theorem dX8_sum_43 : decode cX8_sum 43 = .ok (.lstore_n 3, 1) := by decide +kernel
theorem dX8_sum_44 : decode cX8_sum 44 = .ok (.iconst 0, 1) := by decide +kernel
theorem dX8_sum_45 : decode cX8_sum 45 = .ok (.istore 5, 2) := by decide +kernel
theorem dX8_sum_47 : decode cX8_sum 47 = .ok (.iload 5, 2) := by decide +kernel
theorem dX8_sum_49 : decode cX8_sum 49 = .ok (.aload_n 0, 1) := by decide +kernel
theorem dX8_sum_50 : decode cX8_sum 50 = .ok (.getfield 257, 3) := by decide +kernel
theorem dX8_sum_53 : decode cX8_sum 53 = .ok (.if_icmp .ge 45, 3) := by decide +kernel
theorem dX8_sum_56 : decode cX8_sum 56 = .ok (.aload_n 0, 1) := by decide +kernel
theorem dX8_sum_57 : decode cX8_sum 57 = .ok (.getfield 95, 3) := by decide +kernel
theorem dX8_sum_60 : decode cX8_sum 60 = .ok (.iload 5, 2) := by decide +kernel
theorem dX8_sum_62 : decode cX8_sum 62 = .ok (.baload, 1) := by decide +kernel
theorem dX8_sum_63 : decode cX8_sum 63 = .ok (.ifCond .eq 29, 3) := by decide +kernel
theorem dX8_sum_66 : decode cX8_sum 66 = .ok (.iload_n 2, 1) := by decide +kernel
theorem dX8_sum_67 : decode cX8_sum 67 = .ok (.iconst (-1), 1) := by decide +kernel
theorem dX8_sum_68 : decode cX8_sum 68 = .ok (.if_icmp .eq 14, 3) := by decide +kernel
theorem dX8_sum_71 : decode cX8_sum 71 = .ok (.aload_n 0, 1) := by decide +kernel
theorem dX8_sum_72 : decode cX8_sum 72 = .ok (.getfield 102, 3) := by decide +kernel
theorem dX8_sum_75 : decode cX8_sum 75 = .ok (.iload 5, 2) := by decide +kernel
theorem dX8_sum_77 : decode cX8_sum 77 = .ok (.iaload, 1) := by decide +kernel
theorem dX8_sum_78 : decode cX8_sum 78 = .ok (.iload_n 2, 1) := by decide +kernel
theorem dX8_sum_79 : decode cX8_sum 79 = .ok (.if_icmp .ne 13, 3) := by decide +kernel
theorem dX8_sum_82 : decode cX8_sum 82 = .ok (.lload_n 3, 1) := by decide +kernel
theorem dX8_sum_83 : decode cX8_sum 83 = .ok (.aload_n 0, 1) := by decide +kernel
theorem dX8_sum_84 : decode cX8_sum 84 = .ok (.getfield 99, 3) := by decide +kernel
theorem dX8_sum_87 : decode cX8_sum 87 = .ok (.iload 5, 2) := by decide +kernel
theorem dX8_sum_89 : decode cX8_sum 89 = .ok (.laload, 1) := by decide +kernel
theorem dX8_sum_90 : decode cX8_sum 90 = .ok (.ladd, 1) := by decide +kernel
theorem dX8_sum_91 : decode cX8_sum 91 = .ok (.lstore_n 3, 1) := by decide +kernel
theorem dX8_sum_92 : decode cX8_sum 92 = .ok (.iinc 5 1, 3) := by decide +kernel
theorem dX8_sum_95 : decode cX8_sum 95 = .ok (.goto (-48), 3) := by decide +kernel
theorem dX8_sum_98 : decode cX8_sum 98 = .ok (.lload_n 3, 1) := by decide +kernel
theorem dX8_sum_99 : decode cX8_sum 99 = .ok (.lreturn, 1) := by decide +kernel
theorem dX8_isOn_0 : decode cX8_isOn 0 = .ok (.aload_n 0, 1) := by decide +kernel
theorem dX8_isOn_1 : decode cX8_isOn 1 = .ok (.getfield 50, 3) := by decide +kernel
theorem dX8_isOn_4 : decode cX8_isOn 4 = .ok (.iload_n 2, 1) := by decide +kernel
theorem dX8_isOn_5 : decode cX8_isOn 5 = .ok (.iaload, 1) := by decide +kernel
theorem dX8_isOn_6 : decode cX8_isOn 6 = .ok (.istore_n 3, 1) := by decide +kernel
theorem dX8_isOn_7 : decode cX8_isOn 7 = .ok (.iload_n 3, 1) := by decide +kernel
theorem dX8_isOn_8 : decode cX8_isOn 8 = .ok (.iconst (-1), 1) := by decide +kernel
theorem dX8_isOn_9 : decode cX8_isOn 9 = .ok (.if_icmp .eq 20, 3) := by decide +kernel
theorem dX8_isOn_12 : decode cX8_isOn 12 = .ok (.iload_n 3, 1) := by decide +kernel
theorem dX8_isOn_13 : decode cX8_isOn 13 = .ok (.iload_n 1, 1) := by decide +kernel
theorem dX8_isOn_14 : decode cX8_isOn 14 = .ok (.if_icmp .ne 5, 3) := by decide +kernel
theorem dX8_isOn_17 : decode cX8_isOn 17 = .ok (.iconst 1, 1) := by decide +kernel
theorem dX8_isOn_18 : decode cX8_isOn 18 = .ok (.ireturn, 1) := by decide +kernel
theorem dX8_isOn_19 : decode cX8_isOn 19 = .ok (.aload_n 0, 1) := by decide +kernel
theorem dX8_isOn_20 : decode cX8_isOn 20 = .ok (.getfield 37, 3) := by decide +kernel
theorem dX8_isOn_23 : decode cX8_isOn 23 = .ok (.iload_n 3, 1) := by decide +kernel
theorem dX8_isOn_24 : decode cX8_isOn 24 = .ok (.iaload, 1) := by decide +kernel
theorem dX8_isOn_25 : decode cX8_isOn 25 = .ok (.istore_n 3, 1) := by decide +kernel
theorem dX8_isOn_26 : decode cX8_isOn 26 = .ok (.goto (-19), 3) := by decide +kernel
theorem dX8_isOn_29 : decode cX8_isOn 29 = .ok (.iconst 0, 1) := by decide +kernel
theorem dX8_isOn_30 : decode cX8_isOn 30 = .ok (.ireturn, 1) := by decide +kernel
theorem dX8_has_0 : decode cX8_has 0 = .ok (.iload_n 1, 1) := by decide +kernel
theorem dX8_has_1 : decode cX8_has 1 = .ok (.istore 6, 2) := by decide +kernel
theorem dX8_has_3 : decode cX8_has 3 = .ok (.iload 6, 2) := by decide +kernel
theorem dX8_has_5 : decode cX8_has 5 = .ok (.iload_n 2, 1) := by decide +kernel
theorem dX8_has_6 : decode cX8_has 6 = .ok (.if_icmp .ge 71, 3) := by decide +kernel
theorem dX8_has_9 : decode cX8_has 9 = .ok (.aload_n 0, 1) := by decide +kernel
theorem dX8_has_10 : decode cX8_has 10 = .ok (.getfield 77, 3) := by decide +kernel
theorem dX8_has_13 : decode cX8_has 13 = .ok (.iload 6, 2) := by decide +kernel
theorem dX8_has_15 : decode cX8_has 15 = .ok (.iaload, 1) := by decide +kernel
theorem dX8_has_16 : decode cX8_has 16 = .ok (.aload_n 0, 1) := by decide +kernel
theorem dX8_has_17 : decode cX8_has 17 = .ok (.getfield 50, 3) := by decide +kernel
theorem dX8_has_20 : decode cX8_has 20 = .ok (.iload_n 3, 1) := by decide +kernel
theorem dX8_has_21 : decode cX8_has 21 = .ok (.iaload, 1) := by decide +kernel
theorem dX8_has_22 : decode cX8_has 22 = .ok (.if_icmp .ne 49, 3) := by decide +kernel
theorem dX8_has_25 : decode cX8_has 25 = .ok (.aload_n 0, 1) := by decide +kernel
theorem dX8_has_26 : decode cX8_has 26 = .ok (.getfield 83, 3) := by decide +kernel
theorem dX8_has_29 : decode cX8_has 29 = .ok (.iload 6, 2) := by decide +kernel
theorem dX8_has_31 : decode cX8_has 31 = .ok (.laload, 1) := by decide +kernel
theorem dX8_has_32 : decode cX8_has 32 = .ok (.lload 4, 2) := by decide +kernel
theorem dX8_has_34 : decode cX8_has 34 = .ok (.lcmp, 1) := by decide +kernel
theorem dX8_has_35 : decode cX8_has 35 = .ok (.ifCond .eq 6, 3) := by decide +kernel
theorem dX8_has_38 : decode cX8_has 38 = .ok (.goto 33, 3) := by decide +kernel
theorem dX8_has_41 : decode cX8_has 41 = .ok (.iload 6, 2) := by decide +kernel
theorem dX8_has_43 : decode cX8_has 43 = .ok (.istore 7, 2) := by decide +kernel
theorem dX8_has_45 : decode cX8_has 45 = .ok (.iload 7, 2) := by decide +kernel
theorem dX8_has_47 : decode cX8_has 47 = .ok (.iconst (-1), 1) := by decide +kernel
theorem dX8_has_48 : decode cX8_has 48 = .ok (.if_icmp .eq 23, 3) := by decide +kernel
theorem dX8_has_51 : decode cX8_has 51 = .ok (.iload 7, 2) := by decide +kernel
theorem dX8_has_53 : decode cX8_has 53 = .ok (.iload_n 1, 1) := by decide +kernel
theorem dX8_has_54 : decode cX8_has 54 = .ok (.if_icmp .ne 5, 3) := by decide +kernel
theorem dX8_has_57 : decode cX8_has 57 = .ok (.iconst 1, 1) := by decide +kernel
theorem dX8_has_58 : decode cX8_has 58 = .ok (.ireturn, 1) := by decide +kernel
theorem dX8_has_59 : decode cX8_has 59 = .ok (.aload_n 0, 1) := by decide +kernel
theorem dX8_has_60 : decode cX8_has 60 = .ok (.getfield 80, 3) := by decide +kernel
theorem dX8_has_63 : decode cX8_has 63 = .ok (.iload 7, 2) := by decide +kernel
theorem dX8_has_65 : decode cX8_has 65 = .ok (.iaload, 1) := by decide +kernel
theorem dX8_has_66 : decode cX8_has 66 = .ok (.istore 7, 2) := by decide +kernel
theorem dX8_has_68 : decode cX8_has 68 = .ok (.goto (-23), 3) := by decide +kernel
theorem dX8_has_71 : decode cX8_has 71 = .ok (.iinc 6 1, 3) := by decide +kernel
theorem dX8_has_74 : decode cX8_has 74 = .ok (.goto (-71), 3) := by decide +kernel
theorem dX8_has_77 : decode cX8_has 77 = .ok (.iconst 0, 1) := by decide +kernel
theorem dX8_has_78 : decode cX8_has 78 = .ok (.ireturn, 1) := by decide +kernel
theorem dX8_both_0 : decode cX8_both 0 = .ok (.aload_n 0, 1) := by decide +kernel
theorem dX8_both_1 : decode cX8_both 1 = .ok (.iload_n 1, 1) := by decide +kernel
theorem dX8_both_2 : decode cX8_both 2 = .ok (.invokevirtual 289, 3) := by decide +kernel
theorem dX8_both_5 : decode cX8_both 5 = .ok (.ifCond .eq 12, 3) := by decide +kernel
theorem dX8_both_8 : decode cX8_both 8 = .ok (.aload_n 0, 1) := by decide +kernel
theorem dX8_both_9 : decode cX8_both 9 = .ok (.iload 4, 2) := by decide +kernel
theorem dX8_both_11 : decode cX8_both 11 = .ok (.invokevirtual 289, 3) := by decide +kernel
theorem dX8_both_14 : decode cX8_both 14 = .ok (.ifCond .ne 5, 3) := by decide +kernel
theorem dX8_both_17 : decode cX8_both 17 = .ok (.iconst (-1), 1) := by decide +kernel
theorem dX8_both_18 : decode cX8_both 18 = .ok (.ireturn, 1) := by decide +kernel
theorem dX8_both_19 : decode cX8_both 19 = .ok (.iconst (-1), 1) := by decide +kernel
theorem dX8_both_20 : decode cX8_both 20 = .ok (.istore 7, 2) := by decide +kernel
theorem dX8_both_22 : decode cX8_both 22 = .ok (.aload_n 0, 1) := by decide +kernel
theorem dX8_both_23 : decode cX8_both 23 = .ok (.getfield 50, 3) := by decide +kernel
theorem dX8_both_26 : decode cX8_both 26 = .ok (.iload_n 1, 1) := by decide +kernel
theorem dX8_both_27 : decode cX8_both 27 = .ok (.iaload, 1) := by decide +kernel
theorem dX8_both_28 : decode cX8_both 28 = .ok (.istore 8, 2) := by decide +kernel
theorem dX8_both_30 : decode cX8_both 30 = .ok (.iload 8, 2) := by decide +kernel
theorem dX8_both_32 : decode cX8_both 32 = .ok (.iconst (-1), 1) := by decide +kernel
theorem dX8_both_33 : decode cX8_both 33 = .ok (.if_icmp .eq 47, 3) := by decide +kernel
theorem dX8_both_36 : decode cX8_both 36 = .ok (.iload 7, 2) := by decide +kernel
theorem dX8_both_38 : decode cX8_both 38 = .ok (.iconst (-1), 1) := by decide +kernel
theorem dX8_both_39 : decode cX8_both 39 = .ok (.if_icmp .ne 41, 3) := by decide +kernel
theorem dX8_both_42 : decode cX8_both 42 = .ok (.aload_n 0, 1) := by decide +kernel
theorem dX8_both_43 : decode cX8_both 43 = .ok (.getfield 47, 3) := by decide +kernel
theorem dX8_both_46 : decode cX8_both 46 = .ok (.iload 8, 2) := by decide +kernel
theorem dX8_both_48 : decode cX8_both 48 = .ok (.iaload, 1) := by decide +kernel
theorem dX8_both_49 : decode cX8_both 49 = .ok (.iconst 2, 1) := by decide +kernel
theorem dX8_both_50 : decode cX8_both 50 = .ok (.if_icmp .ne 18, 3) := by decide +kernel
theorem dX8_both_53 : decode cX8_both 53 = .ok (.aload_n 0, 1) := by decide +kernel
theorem dX8_both_54 : decode cX8_both 54 = .ok (.iload 8, 2) := by decide +kernel
theorem dX8_both_56 : decode cX8_both 56 = .ok (.iload 4, 2) := by decide +kernel
theorem dX8_both_58 : decode cX8_both 58 = .ok (.invokevirtual 314, 3) := by decide +kernel
theorem dX8_both_61 : decode cX8_both 61 = .ok (.ifCond .eq 7, 3) := by decide +kernel
theorem dX8_both_64 : decode cX8_both 64 = .ok (.iload 8, 2) := by decide +kernel
theorem dX8_both_66 : decode cX8_both 66 = .ok (.istore 7, 2) := by decide +kernel
theorem dX8_both_68 : decode cX8_both 68 = .ok (.aload_n 0, 1) := by decide +kernel
theorem dX8_both_69 : decode cX8_both 69 = .ok (.getfield 37, 3) := by decide +kernel
theorem dX8_both_72 : decode cX8_both 72 = .ok (.iload 8, 2) := by decide +kernel
theorem dX8_both_74 : decode cX8_both 74 = .ok (.iaload, 1) := by decide +kernel
theorem dX8_both_75 : decode cX8_both 75 = .ok (.istore 8, 2) := by decide +kernel
theorem dX8_both_77 : decode cX8_both 77 = .ok (.goto (-47), 3) := by decide +kernel
theorem dX8_both_80 : decode cX8_both 80 = .ok (.iconst 0, 1) := by decide +kernel
theorem dX8_both_81 : decode cX8_both 81 = .ok (.istore 8, 2) := by decide +kernel
theorem dX8_both_83 : decode cX8_both 83 = .ok (.iconst 0, 1) := by decide +kernel
theorem dX8_both_84 : decode cX8_both 84 = .ok (.istore 9, 2) := by decide +kernel
theorem dX8_both_86 : decode cX8_both 86 = .ok (.iload 9, 2) := by decide +kernel
theorem dX8_both_88 : decode cX8_both 88 = .ok (.aload_n 0, 1) := by decide +kernel
theorem dX8_both_89 : decode cX8_both 89 = .ok (.getfield 214, 3) := by decide +kernel
theorem dX8_both_92 : decode cX8_both 92 = .ok (.if_icmp .ge 95, 3) := by decide +kernel
theorem dX8_both_95 : decode cX8_both 95 = .ok (.aload_n 0, 1) := by decide +kernel
theorem dX8_both_96 : decode cX8_both 96 = .ok (.getfield 74, 3) := by decide +kernel
theorem dX8_both_99 : decode cX8_both 99 = .ok (.iload 9, 2) := by decide +kernel
theorem dX8_both_101 : decode cX8_both 101 = .ok (.iaload, 1) := by decide +kernel
theorem dX8_both_102 : decode cX8_both 102 = .ok (.istore 10, 2) := by decide +kernel
theorem dX8_both_104 : decode cX8_both 104 = .ok (.iload 10, 2) := by decide +kernel
theorem dX8_both_106 : decode cX8_both 106 = .ok (.aload_n 0, 1) := by decide +kernel
theorem dX8_both_107 : decode cX8_both 107 = .ok (.getfield 74, 3) := by decide +kernel
theorem dX8_both_110 : decode cX8_both 110 = .ok (.iload 9, 2) := by decide +kernel
theorem dX8_both_112 : decode cX8_both 112 = .ok (.iconst 1, 1) := by decide +kernel
theorem dX8_both_113 : decode cX8_both 113 = .ok (.iadd, 1) := by decide +kernel
theorem dX8_both_114 : decode cX8_both 114 = .ok (.iaload, 1) := by decide +kernel
theorem dX8_both_115 : decode cX8_both 115 = .ok (.if_icmp .ge 66, 3) := by decide +kernel
theorem dX8_both_118 : decode cX8_both 118 = .ok (.aload_n 0, 1) := by decide +kernel
theorem dX8_both_119 : decode cX8_both 119 = .ok (.getfield 77, 3) := by decide +kernel
theorem dX8_both_122 : decode cX8_both 122 = .ok (.iload 10, 2) := by decide +kernel
theorem dX8_both_124 : decode cX8_both 124 = .ok (.iaload, 1) := by decide +kernel
theorem dX8_both_125 : decode cX8_both 125 = .ok (.iload 7, 2) := by decide +kernel
theorem dX8_both_127 : decode cX8_both 127 = .ok (.if_icmp .ne 48, 3) := by decide +kernel
theorem dX8_both_130 : decode cX8_both 130 = .ok (.aload_n 0, 1) := by decide +kernel
theorem dX8_both_131 : decode cX8_both 131 = .ok (.iload 10, 2) := by decide +kernel
theorem dX8_both_133 : decode cX8_both 133 = .ok (.aload_n 0, 1) := by decide +kernel
theorem dX8_both_134 : decode cX8_both 134 = .ok (.getfield 74, 3) := by decide +kernel
theorem dX8_both_137 : decode cX8_both 137 = .ok (.iload 9, 2) := by decide +kernel
theorem dX8_both_139 : decode cX8_both 139 = .ok (.iconst 1, 1) := by decide +kernel
theorem dX8_both_140 : decode cX8_both 140 = .ok (.iadd, 1) := by decide +kernel
theorem dX8_both_141 : decode cX8_both 141 = .ok (.iaload, 1) := by decide +kernel
theorem dX8_both_142 : decode cX8_both 142 = .ok (.iload_n 1, 1) := by decide +kernel
theorem dX8_both_143 : decode cX8_both 143 = .ok (.lload_n 2, 1) := by decide +kernel
theorem dX8_both_144 : decode cX8_both 144 = .ok (.invokevirtual 317, 3) := by decide +kernel
theorem dX8_both_147 : decode cX8_both 147 = .ok (.ifCond .eq 28, 3) := by decide +kernel
theorem dX8_both_150 : decode cX8_both 150 = .ok (.aload_n 0, 1) := by decide +kernel
theorem dX8_both_151 : decode cX8_both 151 = .ok (.iload 10, 2) := by decide +kernel
theorem dX8_both_153 : decode cX8_both 153 = .ok (.aload_n 0, 1) := by decide +kernel
theorem dX8_both_154 : decode cX8_both 154 = .ok (.getfield 74, 3) := by decide +kernel
theorem dX8_both_157 : decode cX8_both 157 = .ok (.iload 9, 2) := by decide +kernel
theorem dX8_both_159 : decode cX8_both 159 = .ok (.iconst 1, 1) := by decide +kernel
theorem dX8_both_160 : decode cX8_both 160 = .ok (.iadd, 1) := by decide +kernel
theorem dX8_both_161 : decode cX8_both 161 = .ok (.iaload, 1) := by decide +kernel
theorem dX8_both_162 : decode cX8_both 162 = .ok (.iload 4, 2) := by decide +kernel
theorem dX8_both_164 : decode cX8_both 164 = .ok (.lload 5, 2) := by decide +kernel
theorem dX8_both_166 : decode cX8_both 166 = .ok (.invokevirtual 317, 3) := by decide +kernel
theorem dX8_both_169 : decode cX8_both 169 = .ok (.ifCond .eq 6, 3) := by decide +kernel
theorem dX8_both_172 : decode cX8_both 172 = .ok (.iinc 8 1, 3) := by decide +kernel
theorem dX8_both_175 : decode cX8_both 175 = .ok (.iinc 10 1, 3) := by decide +kernel
theorem dX8_both_178 : decode cX8_both 178 = .ok (.goto (-74), 3) := by decide +kernel
theorem dX8_both_181 : decode cX8_both 181 = .ok (.iinc 9 1, 3) := by decide +kernel
theorem dX8_both_184 : decode cX8_both 184 = .ok (.goto (-98), 3) := by decide +kernel
theorem dX8_both_187 : decode cX8_both 187 = .ok (.iload 8, 2) := by decide +kernel
theorem dX8_both_189 : decode cX8_both 189 = .ok (.ireturn, 1) := by decide +kernel
theorem dX8_rows_0 : decode cX8_rows 0 = .ok (.aload_n 0, 1) := by decide +kernel
theorem dX8_rows_1 : decode cX8_rows 1 = .ok (.iload_n 1, 1) := by decide +kernel
theorem dX8_rows_2 : decode cX8_rows 2 = .ok (.invokevirtual 289, 3) := by decide +kernel
theorem dX8_rows_5 : decode cX8_rows 5 = .ok (.ifCond .ne 5, 3) := by decide +kernel
theorem dX8_rows_8 : decode cX8_rows 8 = .ok (.iconst (-1), 1) := by decide +kernel
theorem dX8_rows_9 : decode cX8_rows 9 = .ok (.ireturn, 1) := by decide +kernel
theorem dX8_rows_10 : decode cX8_rows 10 = .ok (.aload_n 0, 1) := by decide +kernel
theorem dX8_rows_11 : decode cX8_rows 11 = .ok (.iload_n 1, 1) := by decide +kernel
theorem dX8_rows_12 : decode cX8_rows 12 = .ok (.invokevirtual 292, 3) := by decide +kernel
theorem dX8_rows_15 : decode cX8_rows 15 = .ok (.iconst 0, 1) := by decide +kernel
theorem dX8_rows_16 : decode cX8_rows 16 = .ok (.istore 4, 2) := by decide +kernel
theorem dX8_rows_18 : decode cX8_rows 18 = .ok (.iconst 0, 1) := by decide +kernel
theorem dX8_rows_19 : decode cX8_rows 19 = .ok (.istore 5, 2) := by decide +kernel
theorem dX8_rows_21 : decode cX8_rows 21 = .ok (.iload 5, 2) := by decide +kernel
theorem dX8_rows_23 : decode cX8_rows 23 = .ok (.aload_n 0, 1) := by decide +kernel
theorem dX8_rows_24 : decode cX8_rows 24 = .ok (.getfield 257, 3) := by decide +kernel
theorem dX8_rows_27 : decode cX8_rows 27 = .ok (.if_icmp .ge 44, 3) := by decide +kernel
theorem dX8_rows_30 : decode cX8_rows 30 = .ok (.iload_n 2, 1) := by decide +kernel
theorem dX8_rows_31 : decode cX8_rows 31 = .ok (.iconst (-1), 1) := by decide +kernel
theorem dX8_rows_32 : decode cX8_rows 32 = .ok (.if_icmp .eq 14, 3) := by decide +kernel
theorem dX8_rows_35 : decode cX8_rows 35 = .ok (.aload_n 0, 1) := by decide +kernel
theorem dX8_rows_36 : decode cX8_rows 36 = .ok (.getfield 89, 3) := by decide +kernel
theorem dX8_rows_39 : decode cX8_rows 39 = .ok (.iload 5, 2) := by decide +kernel
theorem dX8_rows_41 : decode cX8_rows 41 = .ok (.iaload, 1) := by decide +kernel
theorem dX8_rows_42 : decode cX8_rows 42 = .ok (.iload_n 2, 1) := by decide +kernel
theorem dX8_rows_43 : decode cX8_rows 43 = .ok (.if_icmp .ne 22, 3) := by decide +kernel
theorem dX8_rows_46 : decode cX8_rows 46 = .ok (.iload_n 3, 1) := by decide +kernel
theorem dX8_rows_47 : decode cX8_rows 47 = .ok (.iconst (-1), 1) := by decide +kernel
theorem dX8_rows_48 : decode cX8_rows 48 = .ok (.if_icmp .eq 14, 3) := by decide +kernel
theorem dX8_rows_51 : decode cX8_rows 51 = .ok (.aload_n 0, 1) := by decide +kernel
theorem dX8_rows_52 : decode cX8_rows 52 = .ok (.getfield 92, 3) := by decide +kernel
theorem dX8_rows_55 : decode cX8_rows 55 = .ok (.iload 5, 2) := by decide +kernel
theorem dX8_rows_57 : decode cX8_rows 57 = .ok (.iaload, 1) := by decide +kernel
theorem dX8_rows_58 : decode cX8_rows 58 = .ok (.iload_n 3, 1) := by decide +kernel
theorem dX8_rows_59 : decode cX8_rows 59 = .ok (.if_icmp .ne 6, 3) := by decide +kernel
theorem dX8_rows_62 : decode cX8_rows 62 = .ok (.iinc 4 1, 3) := by decide +kernel
theorem dX8_rows_65 : decode cX8_rows 65 = .ok (.iinc 5 1, 3) := by decide +kernel
theorem dX8_rows_68 : decode cX8_rows 68 = .ok (.goto (-47), 3) := by decide +kernel
theorem dX8_rows_71 : decode cX8_rows 71 = .ok (.iload 4, 2) := by decide +kernel
theorem dX8_rows_73 : decode cX8_rows 73 = .ok (.ireturn, 1) := by decide +kernel
theorem dJ9_abs_067f4_0 : decode cJ9_abs_067f4 0 = .ok (.lload_n 0, 1) := by decide +kernel
theorem dJ9_abs_067f4_1 : decode cJ9_abs_067f4 1 = .ok (.lconst 0, 1) := by decide +kernel
theorem dJ9_abs_067f4_2 : decode cJ9_abs_067f4 2 = .ok (.lcmp, 1) := by decide +kernel
theorem dJ9_abs_067f4_3 : decode cJ9_abs_067f4 3 = .ok (.ifCond .ge 8, 3) := by decide +kernel
theorem dJ9_abs_067f4_6 : decode cJ9_abs_067f4 6 = .ok (.lload_n 0, 1) := by decide +kernel
theorem dJ9_abs_067f4_7 : decode cJ9_abs_067f4 7 = .ok (.lneg, 1) := by decide +kernel
theorem dJ9_abs_067f4_8 : decode cJ9_abs_067f4 8 = .ok (.goto 4, 3) := by decide +kernel
theorem dJ9_abs_067f4_11 : decode cJ9_abs_067f4 11 = .ok (.lload_n 0, 1) := by decide +kernel
theorem dJ9_abs_067f4_12 : decode cJ9_abs_067f4 12 = .ok (.lreturn, 1) := by decide +kernel
theorem dJ9_max_7cf53_0 : decode cJ9_max_7cf53 0 = .ok (.iload_n 0, 1) := by decide +kernel
theorem dJ9_max_7cf53_1 : decode cJ9_max_7cf53 1 = .ok (.iload_n 1, 1) := by decide +kernel
theorem dJ9_max_7cf53_2 : decode cJ9_max_7cf53 2 = .ok (.if_icmp .lt 7, 3) := by decide +kernel
theorem dJ9_max_7cf53_5 : decode cJ9_max_7cf53 5 = .ok (.iload_n 0, 1) := by decide +kernel
theorem dJ9_max_7cf53_6 : decode cJ9_max_7cf53 6 = .ok (.goto 4, 3) := by decide +kernel
theorem dJ9_max_7cf53_9 : decode cJ9_max_7cf53 9 = .ok (.iload_n 1, 1) := by decide +kernel
theorem dJ9_max_7cf53_10 : decode cJ9_max_7cf53 10 = .ok (.ireturn, 1) := by decide +kernel
theorem dJ9_min_7cf53_0 : decode cJ9_min_7cf53 0 = .ok (.iload_n 0, 1) := by decide +kernel
theorem dJ9_min_7cf53_1 : decode cJ9_min_7cf53 1 = .ok (.iload_n 1, 1) := by decide +kernel
theorem dJ9_min_7cf53_2 : decode cJ9_min_7cf53 2 = .ok (.if_icmp .gt 7, 3) := by decide +kernel
theorem dJ9_min_7cf53_5 : decode cJ9_min_7cf53 5 = .ok (.iload_n 0, 1) := by decide +kernel
theorem dJ9_min_7cf53_6 : decode cJ9_min_7cf53 6 = .ok (.goto 4, 3) := by decide +kernel
theorem dJ9_min_7cf53_9 : decode cJ9_min_7cf53 9 = .ok (.iload_n 1, 1) := by decide +kernel
theorem dJ9_min_7cf53_10 : decode cJ9_min_7cf53 10 = .ok (.ireturn, 1) := by decide +kernel
theorem dJ7_copyOf_59c91_0 : decode cJ7_copyOf_59c91 0 = .ok (.iload_n 1, 1) := by decide +kernel
theorem dJ7_copyOf_59c91_1 : decode cJ7_copyOf_59c91 1 = .ok (.aload_n 0, 1) := by decide +kernel
theorem dJ7_copyOf_59c91_2 : decode cJ7_copyOf_59c91 2 = .ok (.arraylength, 1) := by decide +kernel
theorem dJ7_copyOf_59c91_3 : decode cJ7_copyOf_59c91 3 = .ok (.if_icmp .ne 11, 3) := by decide +kernel
theorem dJ7_copyOf_59c91_6 : decode cJ7_copyOf_59c91 6 = .ok (.aload_n 0, 1) := by decide +kernel
theorem dJ7_copyOf_59c91_7 : decode cJ7_copyOf_59c91 7 = .ok (.invokevirtual 316, 3) := by decide +kernel
theorem dJ7_copyOf_59c91_10 : decode cJ7_copyOf_59c91 10 = .ok (.checkcast 317, 3) := by decide +kernel
theorem dJ7_copyOf_59c91_13 : decode cJ7_copyOf_59c91 13 = .ok (.areturn, 1) := by decide +kernel
theorem dJ7_copyOf_59c91_14 : decode cJ7_copyOf_59c91 14 = .ok (.iload_n 1, 1) := by decide +kernel
theorem dJ7_copyOf_59c91_15 : decode cJ7_copyOf_59c91 15 = .ok (.newarray .int, 2) := by decide +kernel
theorem dJ7_copyOf_59c91_17 : decode cJ7_copyOf_59c91 17 = .ok (.astore_n 2, 1) := by decide +kernel
theorem dJ7_copyOf_59c91_18 : decode cJ7_copyOf_59c91 18 = .ok (.aload_n 0, 1) := by decide +kernel
theorem dJ7_copyOf_59c91_19 : decode cJ7_copyOf_59c91 19 = .ok (.iconst 0, 1) := by decide +kernel
theorem dJ7_copyOf_59c91_20 : decode cJ7_copyOf_59c91 20 = .ok (.aload_n 2, 1) := by decide +kernel
theorem dJ7_copyOf_59c91_21 : decode cJ7_copyOf_59c91 21 = .ok (.iconst 0, 1) := by decide +kernel
theorem dJ7_copyOf_59c91_22 : decode cJ7_copyOf_59c91 22 = .ok (.aload_n 0, 1) := by decide +kernel
theorem dJ7_copyOf_59c91_23 : decode cJ7_copyOf_59c91 23 = .ok (.arraylength, 1) := by decide +kernel
theorem dJ7_copyOf_59c91_24 : decode cJ7_copyOf_59c91 24 = .ok (.iload_n 1, 1) := by decide +kernel
theorem dJ7_copyOf_59c91_25 : decode cJ7_copyOf_59c91 25 = .ok (.invokestatic 304, 3) := by decide +kernel
theorem dJ7_copyOf_59c91_28 : decode cJ7_copyOf_59c91 28 = .ok (.invokestatic 150, 3) := by decide +kernel
theorem dJ7_copyOf_59c91_31 : decode cJ7_copyOf_59c91 31 = .ok (.aload_n 2, 1) := by decide +kernel
theorem dJ7_copyOf_59c91_32 : decode cJ7_copyOf_59c91 32 = .ok (.areturn, 1) := by decide +kernel
theorem dJ7_copyOf_c38d5_0 : decode cJ7_copyOf_c38d5 0 = .ok (.iload_n 1, 1) := by decide +kernel
theorem dJ7_copyOf_c38d5_1 : decode cJ7_copyOf_c38d5 1 = .ok (.aload_n 0, 1) := by decide +kernel
theorem dJ7_copyOf_c38d5_2 : decode cJ7_copyOf_c38d5 2 = .ok (.arraylength, 1) := by decide +kernel
theorem dJ7_copyOf_c38d5_3 : decode cJ7_copyOf_c38d5 3 = .ok (.if_icmp .ne 11, 3) := by decide +kernel
theorem dJ7_copyOf_c38d5_6 : decode cJ7_copyOf_c38d5 6 = .ok (.aload_n 0, 1) := by decide +kernel
theorem dJ7_copyOf_c38d5_7 : decode cJ7_copyOf_c38d5 7 = .ok (.invokevirtual 319, 3) := by decide +kernel
theorem dJ7_copyOf_c38d5_10 : decode cJ7_copyOf_c38d5 10 = .ok (.checkcast 320, 3) := by decide +kernel
theorem dJ7_copyOf_c38d5_13 : decode cJ7_copyOf_c38d5 13 = .ok (.areturn, 1) := by decide +kernel
theorem dJ7_copyOf_c38d5_14 : decode cJ7_copyOf_c38d5 14 = .ok (.iload_n 1, 1) := by decide +kernel
theorem dJ7_copyOf_c38d5_15 : decode cJ7_copyOf_c38d5 15 = .ok (.newarray .long, 2) := by decide +kernel
theorem dJ7_copyOf_c38d5_17 : decode cJ7_copyOf_c38d5 17 = .ok (.astore_n 2, 1) := by decide +kernel
theorem dJ7_copyOf_c38d5_18 : decode cJ7_copyOf_c38d5 18 = .ok (.aload_n 0, 1) := by decide +kernel
theorem dJ7_copyOf_c38d5_19 : decode cJ7_copyOf_c38d5 19 = .ok (.iconst 0, 1) := by decide +kernel
theorem dJ7_copyOf_c38d5_20 : decode cJ7_copyOf_c38d5 20 = .ok (.aload_n 2, 1) := by decide +kernel
theorem dJ7_copyOf_c38d5_21 : decode cJ7_copyOf_c38d5 21 = .ok (.iconst 0, 1) := by decide +kernel
theorem dJ7_copyOf_c38d5_22 : decode cJ7_copyOf_c38d5 22 = .ok (.aload_n 0, 1) := by decide +kernel
theorem dJ7_copyOf_c38d5_23 : decode cJ7_copyOf_c38d5 23 = .ok (.arraylength, 1) := by decide +kernel
theorem dJ7_copyOf_c38d5_24 : decode cJ7_copyOf_c38d5 24 = .ok (.iload_n 1, 1) := by decide +kernel
theorem dJ7_copyOf_c38d5_25 : decode cJ7_copyOf_c38d5 25 = .ok (.invokestatic 304, 3) := by decide +kernel
theorem dJ7_copyOf_c38d5_28 : decode cJ7_copyOf_c38d5 28 = .ok (.invokestatic 150, 3) := by decide +kernel
theorem dJ7_copyOf_c38d5_31 : decode cJ7_copyOf_c38d5 31 = .ok (.aload_n 2, 1) := by decide +kernel
theorem dJ7_copyOf_c38d5_32 : decode cJ7_copyOf_c38d5 32 = .ok (.areturn, 1) := by decide +kernel
theorem dL_law_0 : decode cL_law 0 = .ok (.new 7, 3) := by decide +kernel
theorem dL_law_3 : decode cL_law 3 = .ok (.dup, 1) := by decide +kernel
theorem dL_law_4 : decode cL_law 4 = .ok (.invokespecial 9, 3) := by decide +kernel
theorem dL_law_7 : decode cL_law 7 = .ok (.astore_n 1, 1) := by decide +kernel
theorem dL_law_8 : decode cL_law 8 = .ok (.new 10, 3) := by decide +kernel
theorem dL_law_11 : decode cL_law 11 = .ok (.dup, 1) := by decide +kernel
theorem dL_law_12 : decode cL_law 12 = .ok (.invokespecial 12, 3) := by decide +kernel
theorem dL_law_15 : decode cL_law 15 = .ok (.astore_n 2, 1) := by decide +kernel
theorem dL_law_16 : decode cL_law 16 = .ok (.iconst 0, 1) := by decide +kernel
theorem dL_law_17 : decode cL_law 17 = .ok (.istore_n 3, 1) := by decide +kernel
theorem dL_law_18 : decode cL_law 18 = .ok (.iload_n 3, 1) := by decide +kernel
theorem dL_law_19 : decode cL_law 19 = .ok (.aload_n 0, 1) := by decide +kernel
theorem dL_law_20 : decode cL_law 20 = .ok (.arraylength, 1) := by decide +kernel
theorem dL_law_21 : decode cL_law 21 = .ok (.bipush 7, 2) := by decide +kernel
theorem dL_law_23 : decode cL_law 23 = .ok (.isub, 1) := by decide +kernel
theorem dL_law_24 : decode cL_law 24 = .ok (.if_icmp .gt 816, 3) := by decide +kernel
theorem dL_law_27 : decode cL_law 27 = .ok (.aload_n 0, 1) := by decide +kernel
theorem dL_law_28 : decode cL_law 28 = .ok (.iload_n 3, 1) := by decide +kernel
theorem dL_law_29 : decode cL_law 29 = .ok (.iaload, 1) := by decide +kernel
theorem dL_law_30 : decode cL_law 30 = .ok (.bipush 15, 2) := by decide +kernel
theorem dL_law_32 : decode cL_law 32 = .ok (.iand, 1) := by decide +kernel
theorem dL_law_33 : decode cL_law 33 = .ok (.tableswitch 801 0 15 #[79, 142, 165, 178, 191, 214, 237, 270, 313, 347, 380, 403, 506, 609, 643, 758], 79) := by decide +kernel
theorem dL_law_112 : decode cL_law 112 = .ok (.aload_n 1, 1) := by decide +kernel
theorem dL_law_113 : decode cL_law 113 = .ok (.aload_n 0, 1) := by decide +kernel
theorem dL_law_114 : decode cL_law 114 = .ok (.iload_n 3, 1) := by decide +kernel
theorem dL_law_115 : decode cL_law 115 = .ok (.iconst 1, 1) := by decide +kernel
theorem dL_law_116 : decode cL_law 116 = .ok (.iadd, 1) := by decide +kernel
theorem dL_law_117 : decode cL_law 117 = .ok (.iaload, 1) := by decide +kernel
theorem dL_law_118 : decode cL_law 118 = .ok (.aload_n 0, 1) := by decide +kernel
theorem dL_law_119 : decode cL_law 119 = .ok (.iload_n 3, 1) := by decide +kernel
theorem dL_law_120 : decode cL_law 120 = .ok (.iconst 2, 1) := by decide +kernel
theorem dL_law_121 : decode cL_law 121 = .ok (.iadd, 1) := by decide +kernel
theorem dL_law_122 : decode cL_law 122 = .ok (.iaload, 1) := by decide +kernel
theorem dL_law_123 : decode cL_law 123 = .ok (.aload_n 0, 1) := by decide +kernel
theorem dL_law_124 : decode cL_law 124 = .ok (.iload_n 3, 1) := by decide +kernel
theorem dL_law_125 : decode cL_law 125 = .ok (.iconst 3, 1) := by decide +kernel
theorem dL_law_126 : decode cL_law 126 = .ok (.iadd, 1) := by decide +kernel
theorem dL_law_127 : decode cL_law 127 = .ok (.iaload, 1) := by decide +kernel
theorem dL_law_128 : decode cL_law 128 = .ok (.aload_n 0, 1) := by decide +kernel
theorem dL_law_129 : decode cL_law 129 = .ok (.iload_n 3, 1) := by decide +kernel
theorem dL_law_130 : decode cL_law 130 = .ok (.iconst 4, 1) := by decide +kernel
theorem dL_law_131 : decode cL_law 131 = .ok (.iadd, 1) := by decide +kernel
theorem dL_law_132 : decode cL_law 132 = .ok (.iaload, 1) := by decide +kernel
theorem dL_law_133 : decode cL_law 133 = .ok (.aload_n 0, 1) := by decide +kernel
theorem dL_law_134 : decode cL_law 134 = .ok (.iload_n 3, 1) := by decide +kernel
theorem dL_law_135 : decode cL_law 135 = .ok (.iconst 5, 1) := by decide +kernel
theorem dL_law_136 : decode cL_law 136 = .ok (.iadd, 1) := by decide +kernel
theorem dL_law_137 : decode cL_law 137 = .ok (.iaload, 1) := by decide +kernel
theorem dL_law_138 : decode cL_law 138 = .ok (.invokevirtual 13, 3) := by decide +kernel
theorem dL_law_141 : decode cL_law 141 = .ok (.aload_n 2, 1) := by decide +kernel
theorem dL_law_142 : decode cL_law 142 = .ok (.aload_n 0, 1) := by decide +kernel
theorem dL_law_143 : decode cL_law 143 = .ok (.iload_n 3, 1) := by decide +kernel
theorem dL_law_144 : decode cL_law 144 = .ok (.iconst 1, 1) := by decide +kernel
theorem dL_law_145 : decode cL_law 145 = .ok (.iadd, 1) := by decide +kernel
theorem dL_law_146 : decode cL_law 146 = .ok (.iaload, 1) := by decide +kernel
theorem dL_law_147 : decode cL_law 147 = .ok (.aload_n 0, 1) := by decide +kernel
theorem dL_law_148 : decode cL_law 148 = .ok (.iload_n 3, 1) := by decide +kernel
theorem dL_law_149 : decode cL_law 149 = .ok (.iconst 2, 1) := by decide +kernel
theorem dL_law_150 : decode cL_law 150 = .ok (.iadd, 1) := by decide +kernel
theorem dL_law_151 : decode cL_law 151 = .ok (.iaload, 1) := by decide +kernel
theorem dL_law_152 : decode cL_law 152 = .ok (.aload_n 0, 1) := by decide +kernel
theorem dL_law_153 : decode cL_law 153 = .ok (.iload_n 3, 1) := by decide +kernel
theorem dL_law_154 : decode cL_law 154 = .ok (.iconst 3, 1) := by decide +kernel
theorem dL_law_155 : decode cL_law 155 = .ok (.iadd, 1) := by decide +kernel
theorem dL_law_156 : decode cL_law 156 = .ok (.iaload, 1) := by decide +kernel
theorem dL_law_157 : decode cL_law 157 = .ok (.aload_n 0, 1) := by decide +kernel
theorem dL_law_158 : decode cL_law 158 = .ok (.iload_n 3, 1) := by decide +kernel
theorem dL_law_159 : decode cL_law 159 = .ok (.iconst 4, 1) := by decide +kernel
theorem dL_law_160 : decode cL_law 160 = .ok (.iadd, 1) := by decide +kernel
theorem dL_law_161 : decode cL_law 161 = .ok (.iaload, 1) := by decide +kernel
theorem dL_law_162 : decode cL_law 162 = .ok (.aload_n 0, 1) := by decide +kernel
theorem dL_law_163 : decode cL_law 163 = .ok (.iload_n 3, 1) := by decide +kernel
theorem dL_law_164 : decode cL_law 164 = .ok (.iconst 5, 1) := by decide +kernel
theorem dL_law_165 : decode cL_law 165 = .ok (.iadd, 1) := by decide +kernel
theorem dL_law_166 : decode cL_law 166 = .ok (.iaload, 1) := by decide +kernel
theorem dL_law_167 : decode cL_law 167 = .ok (.invokevirtual 17, 3) := by decide +kernel
theorem dL_law_170 : decode cL_law 170 = .ok (.if_icmp .eq 664, 3) := by decide +kernel
theorem dL_law_173 : decode cL_law 173 = .ok (.iconst 0, 1) := by decide +kernel
theorem dL_law_174 : decode cL_law 174 = .ok (.ireturn, 1) := by decide +kernel
theorem dL_law_175 : decode cL_law 175 = .ok (.aload_n 1, 1) := by decide +kernel
theorem dL_law_176 : decode cL_law 176 = .ok (.aload_n 0, 1) := by decide +kernel
theorem dL_law_177 : decode cL_law 177 = .ok (.iload_n 3, 1) := by decide +kernel
theorem dL_law_178 : decode cL_law 178 = .ok (.iconst 1, 1) := by decide +kernel
theorem dL_law_179 : decode cL_law 179 = .ok (.iadd, 1) := by decide +kernel
theorem dL_law_180 : decode cL_law 180 = .ok (.iaload, 1) := by decide +kernel
theorem dL_law_181 : decode cL_law 181 = .ok (.invokevirtual 18, 3) := by decide +kernel
theorem dL_law_184 : decode cL_law 184 = .ok (.aload_n 2, 1) := by decide +kernel
theorem dL_law_185 : decode cL_law 185 = .ok (.aload_n 0, 1) := by decide +kernel
theorem dL_law_186 : decode cL_law 186 = .ok (.iload_n 3, 1) := by decide +kernel
theorem dL_law_187 : decode cL_law 187 = .ok (.iconst 1, 1) := by decide +kernel
theorem dL_law_188 : decode cL_law 188 = .ok (.iadd, 1) := by decide +kernel
theorem dL_law_189 : decode cL_law 189 = .ok (.iaload, 1) := by decide +kernel
theorem dL_law_190 : decode cL_law 190 = .ok (.invokevirtual 22, 3) := by decide +kernel
theorem dL_law_193 : decode cL_law 193 = .ok (.if_icmp .eq 641, 3) := by decide +kernel
theorem dL_law_196 : decode cL_law 196 = .ok (.iconst 0, 1) := by decide +kernel
theorem dL_law_197 : decode cL_law 197 = .ok (.ireturn, 1) := by decide +kernel
theorem dL_law_198 : decode cL_law 198 = .ok (.aload_n 1, 1) := by decide +kernel
theorem dL_law_199 : decode cL_law 199 = .ok (.invokevirtual 23, 3) := by decide +kernel
theorem dL_law_202 : decode cL_law 202 = .ok (.aload_n 2, 1) := by decide +kernel
theorem dL_law_203 : decode cL_law 203 = .ok (.invokevirtual 27, 3) := by decide +kernel
theorem dL_law_206 : decode cL_law 206 = .ok (.if_icmp .eq 628, 3) := by decide +kernel
theorem dL_law_209 : decode cL_law 209 = .ok (.iconst 0, 1) := by decide +kernel
theorem dL_law_210 : decode cL_law 210 = .ok (.ireturn, 1) := by decide +kernel
theorem dL_law_211 : decode cL_law 211 = .ok (.aload_n 1, 1) := by decide +kernel
theorem dL_law_212 : decode cL_law 212 = .ok (.invokevirtual 28, 3) := by decide +kernel
theorem dL_law_215 : decode cL_law 215 = .ok (.aload_n 2, 1) := by decide +kernel
theorem dL_law_216 : decode cL_law 216 = .ok (.invokevirtual 31, 3) := by decide +kernel
theorem dL_law_219 : decode cL_law 219 = .ok (.if_icmp .eq 615, 3) := by decide +kernel
theorem dL_law_222 : decode cL_law 222 = .ok (.iconst 0, 1) := by decide +kernel
theorem dL_law_223 : decode cL_law 223 = .ok (.ireturn, 1) := by decide +kernel
theorem dL_law_224 : decode cL_law 224 = .ok (.aload_n 1, 1) := by decide +kernel
theorem dL_law_225 : decode cL_law 225 = .ok (.aload_n 0, 1) := by decide +kernel
theorem dL_law_226 : decode cL_law 226 = .ok (.iload_n 3, 1) := by decide +kernel
theorem dL_law_227 : decode cL_law 227 = .ok (.iconst 1, 1) := by decide +kernel
theorem dL_law_228 : decode cL_law 228 = .ok (.iadd, 1) := by decide +kernel
theorem dL_law_229 : decode cL_law 229 = .ok (.iaload, 1) := by decide +kernel
theorem dL_law_230 : decode cL_law 230 = .ok (.invokevirtual 32, 3) := by decide +kernel
theorem dL_law_233 : decode cL_law 233 = .ok (.aload_n 2, 1) := by decide +kernel
theorem dL_law_234 : decode cL_law 234 = .ok (.aload_n 0, 1) := by decide +kernel
theorem dL_law_235 : decode cL_law 235 = .ok (.iload_n 3, 1) := by decide +kernel
theorem dL_law_236 : decode cL_law 236 = .ok (.iconst 1, 1) := by decide +kernel
theorem dL_law_237 : decode cL_law 237 = .ok (.iadd, 1) := by decide +kernel
theorem dL_law_238 : decode cL_law 238 = .ok (.iaload, 1) := by decide +kernel
theorem dL_law_239 : decode cL_law 239 = .ok (.invokevirtual 36, 3) := by decide +kernel
theorem dL_law_242 : decode cL_law 242 = .ok (.if_icmp .eq 592, 3) := by decide +kernel
theorem dL_law_245 : decode cL_law 245 = .ok (.iconst 0, 1) := by decide +kernel
theorem dL_law_246 : decode cL_law 246 = .ok (.ireturn, 1) := by decide +kernel
theorem dL_law_247 : decode cL_law 247 = .ok (.aload_n 1, 1) := by decide +kernel
theorem dL_law_248 : decode cL_law 248 = .ok (.aload_n 0, 1) := by decide +kernel
theorem dL_law_249 : decode cL_law 249 = .ok (.iload_n 3, 1) := by decide +kernel
theorem dL_law_250 : decode cL_law 250 = .ok (.iconst 1, 1) := by decide +kernel
theorem dL_law_251 : decode cL_law 251 = .ok (.iadd, 1) := by decide +kernel
theorem dL_law_252 : decode cL_law 252 = .ok (.iaload, 1) := by decide +kernel
theorem dL_law_253 : decode cL_law 253 = .ok (.invokevirtual 37, 3) := by decide +kernel
theorem dL_law_256 : decode cL_law 256 = .ok (.aload_n 2, 1) := by decide +kernel
theorem dL_law_257 : decode cL_law 257 = .ok (.aload_n 0, 1) := by decide +kernel
theorem dL_law_258 : decode cL_law 258 = .ok (.iload_n 3, 1) := by decide +kernel
theorem dL_law_259 : decode cL_law 259 = .ok (.iconst 1, 1) := by decide +kernel
theorem dL_law_260 : decode cL_law 260 = .ok (.iadd, 1) := by decide +kernel
theorem dL_law_261 : decode cL_law 261 = .ok (.iaload, 1) := by decide +kernel
theorem dL_law_262 : decode cL_law 262 = .ok (.invokevirtual 40, 3) := by decide +kernel
theorem dL_law_265 : decode cL_law 265 = .ok (.if_icmp .eq 569, 3) := by decide +kernel
theorem dL_law_268 : decode cL_law 268 = .ok (.iconst 0, 1) := by decide +kernel
theorem dL_law_269 : decode cL_law 269 = .ok (.ireturn, 1) := by decide +kernel
theorem dL_law_270 : decode cL_law 270 = .ok (.aload_n 1, 1) := by decide +kernel
theorem dL_law_271 : decode cL_law 271 = .ok (.aload_n 0, 1) := by decide +kernel
theorem dL_law_272 : decode cL_law 272 = .ok (.iload_n 3, 1) := by decide +kernel
theorem dL_law_273 : decode cL_law 273 = .ok (.iconst 1, 1) := by decide +kernel
theorem dL_law_274 : decode cL_law 274 = .ok (.iadd, 1) := by decide +kernel
theorem dL_law_275 : decode cL_law 275 = .ok (.iaload, 1) := by decide +kernel
theorem dL_law_276 : decode cL_law 276 = .ok (.aload_n 0, 1) := by decide +kernel
theorem dL_law_277 : decode cL_law 277 = .ok (.iload_n 3, 1) := by decide +kernel
theorem dL_law_278 : decode cL_law 278 = .ok (.iconst 2, 1) := by decide +kernel
theorem dL_law_279 : decode cL_law 279 = .ok (.iadd, 1) := by decide +kernel
theorem dL_law_280 : decode cL_law 280 = .ok (.iaload, 1) := by decide +kernel
theorem dL_law_281 : decode cL_law 281 = .ok (.invokevirtual 41, 3) := by decide +kernel
theorem dL_law_284 : decode cL_law 284 = .ok (.aload_n 2, 1) := by decide +kernel
theorem dL_law_285 : decode cL_law 285 = .ok (.aload_n 0, 1) := by decide +kernel
theorem dL_law_286 : decode cL_law 286 = .ok (.iload_n 3, 1) := by decide +kernel
theorem dL_law_287 : decode cL_law 287 = .ok (.iconst 1, 1) := by decide +kernel
theorem dL_law_288 : decode cL_law 288 = .ok (.iadd, 1) := by decide +kernel
theorem dL_law_289 : decode cL_law 289 = .ok (.iaload, 1) := by decide +kernel
theorem dL_law_290 : decode cL_law 290 = .ok (.aload_n 0, 1) := by decide +kernel
theorem dL_law_291 : decode cL_law 291 = .ok (.iload_n 3, 1) := by decide +kernel
theorem dL_law_292 : decode cL_law 292 = .ok (.iconst 2, 1) := by decide +kernel
theorem dL_law_293 : decode cL_law 293 = .ok (.iadd, 1) := by decide +kernel
theorem dL_law_294 : decode cL_law 294 = .ok (.iaload, 1) := by decide +kernel
theorem dL_law_295 : decode cL_law 295 = .ok (.invokevirtual 45, 3) := by decide +kernel
theorem dL_law_298 : decode cL_law 298 = .ok (.if_icmp .eq 536, 3) := by decide +kernel
theorem dL_law_301 : decode cL_law 301 = .ok (.iconst 0, 1) := by decide +kernel
theorem dL_law_302 : decode cL_law 302 = .ok (.ireturn, 1) := by decide +kernel
theorem dL_law_303 : decode cL_law 303 = .ok (.aload_n 1, 1) := by decide +kernel
theorem dL_law_304 : decode cL_law 304 = .ok (.aload_n 0, 1) := by decide +kernel
theorem dL_law_305 : decode cL_law 305 = .ok (.iload_n 3, 1) := by decide +kernel
theorem dL_law_306 : decode cL_law 306 = .ok (.iconst 1, 1) := by decide +kernel
theorem dL_law_307 : decode cL_law 307 = .ok (.iadd, 1) := by decide +kernel
theorem dL_law_308 : decode cL_law 308 = .ok (.iaload, 1) := by decide +kernel
theorem dL_law_309 : decode cL_law 309 = .ok (.aload_n 0, 1) := by decide +kernel
theorem dL_law_310 : decode cL_law 310 = .ok (.iload_n 3, 1) := by decide +kernel
theorem dL_law_311 : decode cL_law 311 = .ok (.iconst 2, 1) := by decide +kernel
theorem dL_law_312 : decode cL_law 312 = .ok (.iadd, 1) := by decide +kernel
theorem dL_law_313 : decode cL_law 313 = .ok (.iaload, 1) := by decide +kernel
theorem dL_law_314 : decode cL_law 314 = .ok (.aload_n 0, 1) := by decide +kernel
theorem dL_law_315 : decode cL_law 315 = .ok (.iload_n 3, 1) := by decide +kernel
theorem dL_law_316 : decode cL_law 316 = .ok (.iconst 3, 1) := by decide +kernel
theorem dL_law_317 : decode cL_law 317 = .ok (.iadd, 1) := by decide +kernel
theorem dL_law_318 : decode cL_law 318 = .ok (.iaload, 1) := by decide +kernel
theorem dL_law_319 : decode cL_law 319 = .ok (.invokevirtual 46, 3) := by decide +kernel
theorem dL_law_322 : decode cL_law 322 = .ok (.aload_n 2, 1) := by decide +kernel
theorem dL_law_323 : decode cL_law 323 = .ok (.aload_n 0, 1) := by decide +kernel
theorem dL_law_324 : decode cL_law 324 = .ok (.iload_n 3, 1) := by decide +kernel
theorem dL_law_325 : decode cL_law 325 = .ok (.iconst 1, 1) := by decide +kernel
theorem dL_law_326 : decode cL_law 326 = .ok (.iadd, 1) := by decide +kernel
theorem dL_law_327 : decode cL_law 327 = .ok (.iaload, 1) := by decide +kernel
theorem dL_law_328 : decode cL_law 328 = .ok (.aload_n 0, 1) := by decide +kernel
theorem dL_law_329 : decode cL_law 329 = .ok (.iload_n 3, 1) := by decide +kernel
theorem dL_law_330 : decode cL_law 330 = .ok (.iconst 2, 1) := by decide +kernel
theorem dL_law_331 : decode cL_law 331 = .ok (.iadd, 1) := by decide +kernel
theorem dL_law_332 : decode cL_law 332 = .ok (.iaload, 1) := by decide +kernel
theorem dL_law_333 : decode cL_law 333 = .ok (.aload_n 0, 1) := by decide +kernel
theorem dL_law_334 : decode cL_law 334 = .ok (.iload_n 3, 1) := by decide +kernel
theorem dL_law_335 : decode cL_law 335 = .ok (.iconst 3, 1) := by decide +kernel
theorem dL_law_336 : decode cL_law 336 = .ok (.iadd, 1) := by decide +kernel
theorem dL_law_337 : decode cL_law 337 = .ok (.iaload, 1) := by decide +kernel
theorem dL_law_338 : decode cL_law 338 = .ok (.invokevirtual 50, 3) := by decide +kernel
theorem dL_law_341 : decode cL_law 341 = .ok (.if_icmp .eq 493, 3) := by decide +kernel
theorem dL_law_344 : decode cL_law 344 = .ok (.iconst 0, 1) := by decide +kernel
theorem dL_law_345 : decode cL_law 345 = .ok (.ireturn, 1) := by decide +kernel
theorem dL_law_346 : decode cL_law 346 = .ok (.aload_n 1, 1) := by decide +kernel
theorem dL_law_347 : decode cL_law 347 = .ok (.aload_n 0, 1) := by decide +kernel
theorem dL_law_348 : decode cL_law 348 = .ok (.iload_n 3, 1) := by decide +kernel
theorem dL_law_349 : decode cL_law 349 = .ok (.iconst 1, 1) := by decide +kernel
theorem dL_law_350 : decode cL_law 350 = .ok (.iadd, 1) := by decide +kernel
theorem dL_law_351 : decode cL_law 351 = .ok (.iaload, 1) := by decide +kernel
theorem dL_law_352 : decode cL_law 352 = .ok (.aload_n 0, 1) := by decide +kernel
theorem dL_law_353 : decode cL_law 353 = .ok (.iload_n 3, 1) := by decide +kernel
theorem dL_law_354 : decode cL_law 354 = .ok (.iconst 2, 1) := by decide +kernel
theorem dL_law_355 : decode cL_law 355 = .ok (.iadd, 1) := by decide +kernel
theorem dL_law_356 : decode cL_law 356 = .ok (.iaload, 1) := by decide +kernel
theorem dL_law_357 : decode cL_law 357 = .ok (.invokevirtual 51, 3) := by decide +kernel
theorem dL_law_360 : decode cL_law 360 = .ok (.aload_n 2, 1) := by decide +kernel
theorem dL_law_361 : decode cL_law 361 = .ok (.aload_n 0, 1) := by decide +kernel
theorem dL_law_362 : decode cL_law 362 = .ok (.iload_n 3, 1) := by decide +kernel
theorem dL_law_363 : decode cL_law 363 = .ok (.iconst 1, 1) := by decide +kernel
theorem dL_law_364 : decode cL_law 364 = .ok (.iadd, 1) := by decide +kernel
theorem dL_law_365 : decode cL_law 365 = .ok (.iaload, 1) := by decide +kernel
theorem dL_law_366 : decode cL_law 366 = .ok (.aload_n 0, 1) := by decide +kernel
theorem dL_law_367 : decode cL_law 367 = .ok (.iload_n 3, 1) := by decide +kernel
theorem dL_law_368 : decode cL_law 368 = .ok (.iconst 2, 1) := by decide +kernel
theorem dL_law_369 : decode cL_law 369 = .ok (.iadd, 1) := by decide +kernel
theorem dL_law_370 : decode cL_law 370 = .ok (.iaload, 1) := by decide +kernel
theorem dL_law_371 : decode cL_law 371 = .ok (.invokevirtual 55, 3) := by decide +kernel
theorem dL_law_374 : decode cL_law 374 = .ok (.lcmp, 1) := by decide +kernel
theorem dL_law_375 : decode cL_law 375 = .ok (.ifCond .eq 459, 3) := by decide +kernel
theorem dL_law_378 : decode cL_law 378 = .ok (.iconst 0, 1) := by decide +kernel
theorem dL_law_379 : decode cL_law 379 = .ok (.ireturn, 1) := by decide +kernel
theorem dL_law_380 : decode cL_law 380 = .ok (.aload_n 1, 1) := by decide +kernel
theorem dL_law_381 : decode cL_law 381 = .ok (.aload_n 0, 1) := by decide +kernel
theorem dL_law_382 : decode cL_law 382 = .ok (.iload_n 3, 1) := by decide +kernel
theorem dL_law_383 : decode cL_law 383 = .ok (.iconst 1, 1) := by decide +kernel
theorem dL_law_384 : decode cL_law 384 = .ok (.iadd, 1) := by decide +kernel
theorem dL_law_385 : decode cL_law 385 = .ok (.iaload, 1) := by decide +kernel
theorem dL_law_386 : decode cL_law 386 = .ok (.aload_n 0, 1) := by decide +kernel
theorem dL_law_387 : decode cL_law 387 = .ok (.iload_n 3, 1) := by decide +kernel
theorem dL_law_388 : decode cL_law 388 = .ok (.iconst 2, 1) := by decide +kernel
theorem dL_law_389 : decode cL_law 389 = .ok (.iadd, 1) := by decide +kernel
theorem dL_law_390 : decode cL_law 390 = .ok (.iaload, 1) := by decide +kernel
theorem dL_law_391 : decode cL_law 391 = .ok (.invokevirtual 56, 3) := by decide +kernel
theorem dL_law_394 : decode cL_law 394 = .ok (.aload_n 2, 1) := by decide +kernel
theorem dL_law_395 : decode cL_law 395 = .ok (.aload_n 0, 1) := by decide +kernel
theorem dL_law_396 : decode cL_law 396 = .ok (.iload_n 3, 1) := by decide +kernel
theorem dL_law_397 : decode cL_law 397 = .ok (.iconst 1, 1) := by decide +kernel
theorem dL_law_398 : decode cL_law 398 = .ok (.iadd, 1) := by decide +kernel
theorem dL_law_399 : decode cL_law 399 = .ok (.iaload, 1) := by decide +kernel
theorem dL_law_400 : decode cL_law 400 = .ok (.aload_n 0, 1) := by decide +kernel
theorem dL_law_401 : decode cL_law 401 = .ok (.iload_n 3, 1) := by decide +kernel
theorem dL_law_402 : decode cL_law 402 = .ok (.iconst 2, 1) := by decide +kernel
theorem dL_law_403 : decode cL_law 403 = .ok (.iadd, 1) := by decide +kernel
theorem dL_law_404 : decode cL_law 404 = .ok (.iaload, 1) := by decide +kernel
theorem dL_law_405 : decode cL_law 405 = .ok (.invokevirtual 59, 3) := by decide +kernel
theorem dL_law_408 : decode cL_law 408 = .ok (.if_icmp .eq 426, 3) := by decide +kernel
theorem dL_law_411 : decode cL_law 411 = .ok (.iconst 0, 1) := by decide +kernel
theorem dL_law_412 : decode cL_law 412 = .ok (.ireturn, 1) := by decide +kernel
theorem dL_law_413 : decode cL_law 413 = .ok (.aload_n 1, 1) := by decide +kernel
theorem dL_law_414 : decode cL_law 414 = .ok (.aload_n 0, 1) := by decide +kernel
theorem dL_law_415 : decode cL_law 415 = .ok (.iload_n 3, 1) := by decide +kernel
theorem dL_law_416 : decode cL_law 416 = .ok (.iconst 1, 1) := by decide +kernel
theorem dL_law_417 : decode cL_law 417 = .ok (.iadd, 1) := by decide +kernel
theorem dL_law_418 : decode cL_law 418 = .ok (.iaload, 1) := by decide +kernel
theorem dL_law_419 : decode cL_law 419 = .ok (.invokevirtual 60, 3) := by decide +kernel
theorem dL_law_422 : decode cL_law 422 = .ok (.aload_n 2, 1) := by decide +kernel
theorem dL_law_423 : decode cL_law 423 = .ok (.aload_n 0, 1) := by decide +kernel
theorem dL_law_424 : decode cL_law 424 = .ok (.iload_n 3, 1) := by decide +kernel
theorem dL_law_425 : decode cL_law 425 = .ok (.iconst 1, 1) := by decide +kernel
theorem dL_law_426 : decode cL_law 426 = .ok (.iadd, 1) := by decide +kernel
theorem dL_law_427 : decode cL_law 427 = .ok (.iaload, 1) := by decide +kernel
theorem dL_law_428 : decode cL_law 428 = .ok (.invokevirtual 63, 3) := by decide +kernel
theorem dL_law_431 : decode cL_law 431 = .ok (.if_icmp .eq 403, 3) := by decide +kernel
theorem dL_law_434 : decode cL_law 434 = .ok (.iconst 0, 1) := by decide +kernel
theorem dL_law_435 : decode cL_law 435 = .ok (.ireturn, 1) := by decide +kernel
theorem dL_law_436 : decode cL_law 436 = .ok (.aload_n 1, 1) := by decide +kernel
theorem dL_law_437 : decode cL_law 437 = .ok (.aload_n 0, 1) := by decide +kernel
theorem dL_law_438 : decode cL_law 438 = .ok (.iload_n 3, 1) := by decide +kernel
theorem dL_law_439 : decode cL_law 439 = .ok (.iconst 1, 1) := by decide +kernel
theorem dL_law_440 : decode cL_law 440 = .ok (.iadd, 1) := by decide +kernel
theorem dL_law_441 : decode cL_law 441 = .ok (.iaload, 1) := by decide +kernel
theorem dL_law_442 : decode cL_law 442 = .ok (.aload_n 0, 1) := by decide +kernel
theorem dL_law_443 : decode cL_law 443 = .ok (.iload_n 3, 1) := by decide +kernel
theorem dL_law_444 : decode cL_law 444 = .ok (.iconst 2, 1) := by decide +kernel
theorem dL_law_445 : decode cL_law 445 = .ok (.iadd, 1) := by decide +kernel
theorem dL_law_446 : decode cL_law 446 = .ok (.iaload, 1) := by decide +kernel
theorem dL_law_447 : decode cL_law 447 = .ok (.i2l, 1) := by decide +kernel
theorem dL_law_448 : decode cL_law 448 = .ok (.bipush 32, 2) := by decide +kernel
theorem dL_law_450 : decode cL_law 450 = .ok (.lshl, 1) := by decide +kernel
theorem dL_law_451 : decode cL_law 451 = .ok (.aload_n 0, 1) := by decide +kernel
theorem dL_law_452 : decode cL_law 452 = .ok (.iload_n 3, 1) := by decide +kernel
theorem dL_law_453 : decode cL_law 453 = .ok (.iconst 3, 1) := by decide +kernel
theorem dL_law_454 : decode cL_law 454 = .ok (.iadd, 1) := by decide +kernel
theorem dL_law_455 : decode cL_law 455 = .ok (.iaload, 1) := by decide +kernel
theorem dL_law_456 : decode cL_law 456 = .ok (.i2l, 1) := by decide +kernel
theorem dL_law_457 : decode cL_law 457 = .ok (.ldc2_w 64, 3) := by decide +kernel
theorem dL_law_460 : decode cL_law 460 = .ok (.land, 1) := by decide +kernel
theorem dL_law_461 : decode cL_law 461 = .ok (.lor, 1) := by decide +kernel
theorem dL_law_462 : decode cL_law 462 = .ok (.aload_n 0, 1) := by decide +kernel
theorem dL_law_463 : decode cL_law 463 = .ok (.iload_n 3, 1) := by decide +kernel
theorem dL_law_464 : decode cL_law 464 = .ok (.iconst 4, 1) := by decide +kernel
theorem dL_law_465 : decode cL_law 465 = .ok (.iadd, 1) := by decide +kernel
theorem dL_law_466 : decode cL_law 466 = .ok (.iaload, 1) := by decide +kernel
theorem dL_law_467 : decode cL_law 467 = .ok (.i2l, 1) := by decide +kernel
theorem dL_law_468 : decode cL_law 468 = .ok (.bipush 32, 2) := by decide +kernel
theorem dL_law_470 : decode cL_law 470 = .ok (.lshl, 1) := by decide +kernel
theorem dL_law_471 : decode cL_law 471 = .ok (.aload_n 0, 1) := by decide +kernel
theorem dL_law_472 : decode cL_law 472 = .ok (.iload_n 3, 1) := by decide +kernel
theorem dL_law_473 : decode cL_law 473 = .ok (.iconst 5, 1) := by decide +kernel
theorem dL_law_474 : decode cL_law 474 = .ok (.iadd, 1) := by decide +kernel
theorem dL_law_475 : decode cL_law 475 = .ok (.iaload, 1) := by decide +kernel
theorem dL_law_476 : decode cL_law 476 = .ok (.i2l, 1) := by decide +kernel
theorem dL_law_477 : decode cL_law 477 = .ok (.ldc2_w 64, 3) := by decide +kernel
theorem dL_law_480 : decode cL_law 480 = .ok (.land, 1) := by decide +kernel
theorem dL_law_481 : decode cL_law 481 = .ok (.lor, 1) := by decide +kernel
theorem dL_law_482 : decode cL_law 482 = .ok (.invokevirtual 66, 3) := by decide +kernel
theorem dL_law_485 : decode cL_law 485 = .ok (.aload_n 2, 1) := by decide +kernel
theorem dL_law_486 : decode cL_law 486 = .ok (.aload_n 0, 1) := by decide +kernel
theorem dL_law_487 : decode cL_law 487 = .ok (.iload_n 3, 1) := by decide +kernel
theorem dL_law_488 : decode cL_law 488 = .ok (.iconst 1, 1) := by decide +kernel
theorem dL_law_489 : decode cL_law 489 = .ok (.iadd, 1) := by decide +kernel
theorem dL_law_490 : decode cL_law 490 = .ok (.iaload, 1) := by decide +kernel
theorem dL_law_491 : decode cL_law 491 = .ok (.aload_n 0, 1) := by decide +kernel
theorem dL_law_492 : decode cL_law 492 = .ok (.iload_n 3, 1) := by decide +kernel
theorem dL_law_493 : decode cL_law 493 = .ok (.iconst 2, 1) := by decide +kernel
theorem dL_law_494 : decode cL_law 494 = .ok (.iadd, 1) := by decide +kernel
theorem dL_law_495 : decode cL_law 495 = .ok (.iaload, 1) := by decide +kernel
theorem dL_law_496 : decode cL_law 496 = .ok (.i2l, 1) := by decide +kernel
theorem dL_law_497 : decode cL_law 497 = .ok (.bipush 32, 2) := by decide +kernel
theorem dL_law_499 : decode cL_law 499 = .ok (.lshl, 1) := by decide +kernel
theorem dL_law_500 : decode cL_law 500 = .ok (.aload_n 0, 1) := by decide +kernel
theorem dL_law_501 : decode cL_law 501 = .ok (.iload_n 3, 1) := by decide +kernel
theorem dL_law_502 : decode cL_law 502 = .ok (.iconst 3, 1) := by decide +kernel
theorem dL_law_503 : decode cL_law 503 = .ok (.iadd, 1) := by decide +kernel
theorem dL_law_504 : decode cL_law 504 = .ok (.iaload, 1) := by decide +kernel
theorem dL_law_505 : decode cL_law 505 = .ok (.i2l, 1) := by decide +kernel
theorem dL_law_506 : decode cL_law 506 = .ok (.ldc2_w 64, 3) := by decide +kernel
theorem dL_law_509 : decode cL_law 509 = .ok (.land, 1) := by decide +kernel
theorem dL_law_510 : decode cL_law 510 = .ok (.lor, 1) := by decide +kernel
theorem dL_law_511 : decode cL_law 511 = .ok (.aload_n 0, 1) := by decide +kernel
theorem dL_law_512 : decode cL_law 512 = .ok (.iload_n 3, 1) := by decide +kernel
theorem dL_law_513 : decode cL_law 513 = .ok (.iconst 4, 1) := by decide +kernel
theorem dL_law_514 : decode cL_law 514 = .ok (.iadd, 1) := by decide +kernel
theorem dL_law_515 : decode cL_law 515 = .ok (.iaload, 1) := by decide +kernel
theorem dL_law_516 : decode cL_law 516 = .ok (.i2l, 1) := by decide +kernel
theorem dL_law_517 : decode cL_law 517 = .ok (.bipush 32, 2) := by decide +kernel
theorem dL_law_519 : decode cL_law 519 = .ok (.lshl, 1) := by decide +kernel
theorem dL_law_520 : decode cL_law 520 = .ok (.aload_n 0, 1) := by decide +kernel
theorem dL_law_521 : decode cL_law 521 = .ok (.iload_n 3, 1) := by decide +kernel
theorem dL_law_522 : decode cL_law 522 = .ok (.iconst 5, 1) := by decide +kernel
theorem dL_law_523 : decode cL_law 523 = .ok (.iadd, 1) := by decide +kernel
theorem dL_law_524 : decode cL_law 524 = .ok (.iaload, 1) := by decide +kernel
theorem dL_law_525 : decode cL_law 525 = .ok (.i2l, 1) := by decide +kernel
theorem dL_law_526 : decode cL_law 526 = .ok (.ldc2_w 64, 3) := by decide +kernel
theorem dL_law_529 : decode cL_law 529 = .ok (.land, 1) := by decide +kernel
theorem dL_law_530 : decode cL_law 530 = .ok (.lor, 1) := by decide +kernel
theorem dL_law_531 : decode cL_law 531 = .ok (.invokevirtual 70, 3) := by decide +kernel
theorem dL_law_534 : decode cL_law 534 = .ok (.if_icmp .eq 300, 3) := by decide +kernel
theorem dL_law_537 : decode cL_law 537 = .ok (.iconst 0, 1) := by decide +kernel
theorem dL_law_538 : decode cL_law 538 = .ok (.ireturn, 1) := by decide +kernel
theorem dL_law_539 : decode cL_law 539 = .ok (.aload_n 1, 1) := by decide +kernel
theorem dL_law_540 : decode cL_law 540 = .ok (.aload_n 0, 1) := by decide +kernel
theorem dL_law_541 : decode cL_law 541 = .ok (.iload_n 3, 1) := by decide +kernel
theorem dL_law_542 : decode cL_law 542 = .ok (.iconst 1, 1) := by decide +kernel
theorem dL_law_543 : decode cL_law 543 = .ok (.iadd, 1) := by decide +kernel
theorem dL_law_544 : decode cL_law 544 = .ok (.iaload, 1) := by decide +kernel
theorem dL_law_545 : decode cL_law 545 = .ok (.aload_n 0, 1) := by decide +kernel
theorem dL_law_546 : decode cL_law 546 = .ok (.iload_n 3, 1) := by decide +kernel
theorem dL_law_547 : decode cL_law 547 = .ok (.iconst 2, 1) := by decide +kernel
theorem dL_law_548 : decode cL_law 548 = .ok (.iadd, 1) := by decide +kernel
theorem dL_law_549 : decode cL_law 549 = .ok (.iaload, 1) := by decide +kernel
theorem dL_law_550 : decode cL_law 550 = .ok (.i2l, 1) := by decide +kernel
theorem dL_law_551 : decode cL_law 551 = .ok (.bipush 32, 2) := by decide +kernel
theorem dL_law_553 : decode cL_law 553 = .ok (.lshl, 1) := by decide +kernel
theorem dL_law_554 : decode cL_law 554 = .ok (.aload_n 0, 1) := by decide +kernel
theorem dL_law_555 : decode cL_law 555 = .ok (.iload_n 3, 1) := by decide +kernel
theorem dL_law_556 : decode cL_law 556 = .ok (.iconst 3, 1) := by decide +kernel
theorem dL_law_557 : decode cL_law 557 = .ok (.iadd, 1) := by decide +kernel
theorem dL_law_558 : decode cL_law 558 = .ok (.iaload, 1) := by decide +kernel
theorem dL_law_559 : decode cL_law 559 = .ok (.i2l, 1) := by decide +kernel
theorem dL_law_560 : decode cL_law 560 = .ok (.ldc2_w 64, 3) := by decide +kernel
theorem dL_law_563 : decode cL_law 563 = .ok (.land, 1) := by decide +kernel
theorem dL_law_564 : decode cL_law 564 = .ok (.lor, 1) := by decide +kernel
theorem dL_law_565 : decode cL_law 565 = .ok (.aload_n 0, 1) := by decide +kernel
theorem dL_law_566 : decode cL_law 566 = .ok (.iload_n 3, 1) := by decide +kernel
theorem dL_law_567 : decode cL_law 567 = .ok (.iconst 4, 1) := by decide +kernel
theorem dL_law_568 : decode cL_law 568 = .ok (.iadd, 1) := by decide +kernel
theorem dL_law_569 : decode cL_law 569 = .ok (.iaload, 1) := by decide +kernel
theorem dL_law_570 : decode cL_law 570 = .ok (.i2l, 1) := by decide +kernel
theorem dL_law_571 : decode cL_law 571 = .ok (.bipush 32, 2) := by decide +kernel
theorem dL_law_573 : decode cL_law 573 = .ok (.lshl, 1) := by decide +kernel
theorem dL_law_574 : decode cL_law 574 = .ok (.aload_n 0, 1) := by decide +kernel
theorem dL_law_575 : decode cL_law 575 = .ok (.iload_n 3, 1) := by decide +kernel
theorem dL_law_576 : decode cL_law 576 = .ok (.iconst 5, 1) := by decide +kernel
theorem dL_law_577 : decode cL_law 577 = .ok (.iadd, 1) := by decide +kernel
theorem dL_law_578 : decode cL_law 578 = .ok (.iaload, 1) := by decide +kernel
theorem dL_law_579 : decode cL_law 579 = .ok (.i2l, 1) := by decide +kernel
theorem dL_law_580 : decode cL_law 580 = .ok (.ldc2_w 64, 3) := by decide +kernel
theorem dL_law_583 : decode cL_law 583 = .ok (.land, 1) := by decide +kernel
theorem dL_law_584 : decode cL_law 584 = .ok (.lor, 1) := by decide +kernel
theorem dL_law_585 : decode cL_law 585 = .ok (.invokevirtual 71, 3) := by decide +kernel
theorem dL_law_588 : decode cL_law 588 = .ok (.aload_n 2, 1) := by decide +kernel
theorem dL_law_589 : decode cL_law 589 = .ok (.aload_n 0, 1) := by decide +kernel
theorem dL_law_590 : decode cL_law 590 = .ok (.iload_n 3, 1) := by decide +kernel
theorem dL_law_591 : decode cL_law 591 = .ok (.iconst 1, 1) := by decide +kernel
theorem dL_law_592 : decode cL_law 592 = .ok (.iadd, 1) := by decide +kernel
theorem dL_law_593 : decode cL_law 593 = .ok (.iaload, 1) := by decide +kernel
theorem dL_law_594 : decode cL_law 594 = .ok (.aload_n 0, 1) := by decide +kernel
theorem dL_law_595 : decode cL_law 595 = .ok (.iload_n 3, 1) := by decide +kernel
theorem dL_law_596 : decode cL_law 596 = .ok (.iconst 2, 1) := by decide +kernel
theorem dL_law_597 : decode cL_law 597 = .ok (.iadd, 1) := by decide +kernel
theorem dL_law_598 : decode cL_law 598 = .ok (.iaload, 1) := by decide +kernel
theorem dL_law_599 : decode cL_law 599 = .ok (.i2l, 1) := by decide +kernel
theorem dL_law_600 : decode cL_law 600 = .ok (.bipush 32, 2) := by decide +kernel
theorem dL_law_602 : decode cL_law 602 = .ok (.lshl, 1) := by decide +kernel
theorem dL_law_603 : decode cL_law 603 = .ok (.aload_n 0, 1) := by decide +kernel
theorem dL_law_604 : decode cL_law 604 = .ok (.iload_n 3, 1) := by decide +kernel
theorem dL_law_605 : decode cL_law 605 = .ok (.iconst 3, 1) := by decide +kernel
theorem dL_law_606 : decode cL_law 606 = .ok (.iadd, 1) := by decide +kernel
theorem dL_law_607 : decode cL_law 607 = .ok (.iaload, 1) := by decide +kernel
theorem dL_law_608 : decode cL_law 608 = .ok (.i2l, 1) := by decide +kernel
theorem dL_law_609 : decode cL_law 609 = .ok (.ldc2_w 64, 3) := by decide +kernel
theorem dL_law_612 : decode cL_law 612 = .ok (.land, 1) := by decide +kernel
theorem dL_law_613 : decode cL_law 613 = .ok (.lor, 1) := by decide +kernel
theorem dL_law_614 : decode cL_law 614 = .ok (.aload_n 0, 1) := by decide +kernel
theorem dL_law_615 : decode cL_law 615 = .ok (.iload_n 3, 1) := by decide +kernel
theorem dL_law_616 : decode cL_law 616 = .ok (.iconst 4, 1) := by decide +kernel
theorem dL_law_617 : decode cL_law 617 = .ok (.iadd, 1) := by decide +kernel
theorem dL_law_618 : decode cL_law 618 = .ok (.iaload, 1) := by decide +kernel
theorem dL_law_619 : decode cL_law 619 = .ok (.i2l, 1) := by decide +kernel
theorem dL_law_620 : decode cL_law 620 = .ok (.bipush 32, 2) := by decide +kernel
theorem dL_law_622 : decode cL_law 622 = .ok (.lshl, 1) := by decide +kernel
theorem dL_law_623 : decode cL_law 623 = .ok (.aload_n 0, 1) := by decide +kernel
theorem dL_law_624 : decode cL_law 624 = .ok (.iload_n 3, 1) := by decide +kernel
theorem dL_law_625 : decode cL_law 625 = .ok (.iconst 5, 1) := by decide +kernel
theorem dL_law_626 : decode cL_law 626 = .ok (.iadd, 1) := by decide +kernel
theorem dL_law_627 : decode cL_law 627 = .ok (.iaload, 1) := by decide +kernel
theorem dL_law_628 : decode cL_law 628 = .ok (.i2l, 1) := by decide +kernel
theorem dL_law_629 : decode cL_law 629 = .ok (.ldc2_w 64, 3) := by decide +kernel
theorem dL_law_632 : decode cL_law 632 = .ok (.land, 1) := by decide +kernel
theorem dL_law_633 : decode cL_law 633 = .ok (.lor, 1) := by decide +kernel
theorem dL_law_634 : decode cL_law 634 = .ok (.invokevirtual 74, 3) := by decide +kernel
theorem dL_law_637 : decode cL_law 637 = .ok (.if_icmp .eq 197, 3) := by decide +kernel
theorem dL_law_640 : decode cL_law 640 = .ok (.iconst 0, 1) := by decide +kernel
theorem dL_law_641 : decode cL_law 641 = .ok (.ireturn, 1) := by decide +kernel
theorem dL_law_642 : decode cL_law 642 = .ok (.aload_n 1, 1) := by decide +kernel
theorem dL_law_643 : decode cL_law 643 = .ok (.aload_n 0, 1) := by decide +kernel
theorem dL_law_644 : decode cL_law 644 = .ok (.iload_n 3, 1) := by decide +kernel
theorem dL_law_645 : decode cL_law 645 = .ok (.iconst 1, 1) := by decide +kernel
theorem dL_law_646 : decode cL_law 646 = .ok (.iadd, 1) := by decide +kernel
theorem dL_law_647 : decode cL_law 647 = .ok (.iaload, 1) := by decide +kernel
theorem dL_law_648 : decode cL_law 648 = .ok (.aload_n 0, 1) := by decide +kernel
theorem dL_law_649 : decode cL_law 649 = .ok (.iload_n 3, 1) := by decide +kernel
theorem dL_law_650 : decode cL_law 650 = .ok (.iconst 2, 1) := by decide +kernel
theorem dL_law_651 : decode cL_law 651 = .ok (.iadd, 1) := by decide +kernel
theorem dL_law_652 : decode cL_law 652 = .ok (.iaload, 1) := by decide +kernel
theorem dL_law_653 : decode cL_law 653 = .ok (.invokevirtual 75, 3) := by decide +kernel
theorem dL_law_656 : decode cL_law 656 = .ok (.aload_n 2, 1) := by decide +kernel
theorem dL_law_657 : decode cL_law 657 = .ok (.aload_n 0, 1) := by decide +kernel
theorem dL_law_658 : decode cL_law 658 = .ok (.iload_n 3, 1) := by decide +kernel
theorem dL_law_659 : decode cL_law 659 = .ok (.iconst 1, 1) := by decide +kernel
theorem dL_law_660 : decode cL_law 660 = .ok (.iadd, 1) := by decide +kernel
theorem dL_law_661 : decode cL_law 661 = .ok (.iaload, 1) := by decide +kernel
theorem dL_law_662 : decode cL_law 662 = .ok (.aload_n 0, 1) := by decide +kernel
theorem dL_law_663 : decode cL_law 663 = .ok (.iload_n 3, 1) := by decide +kernel
theorem dL_law_664 : decode cL_law 664 = .ok (.iconst 2, 1) := by decide +kernel
theorem dL_law_665 : decode cL_law 665 = .ok (.iadd, 1) := by decide +kernel
theorem dL_law_666 : decode cL_law 666 = .ok (.iaload, 1) := by decide +kernel
theorem dL_law_667 : decode cL_law 667 = .ok (.invokevirtual 78, 3) := by decide +kernel
theorem dL_law_670 : decode cL_law 670 = .ok (.lcmp, 1) := by decide +kernel
theorem dL_law_671 : decode cL_law 671 = .ok (.ifCond .eq 163, 3) := by decide +kernel
theorem dL_law_674 : decode cL_law 674 = .ok (.iconst 0, 1) := by decide +kernel
theorem dL_law_675 : decode cL_law 675 = .ok (.ireturn, 1) := by decide +kernel
theorem dL_law_676 : decode cL_law 676 = .ok (.aload_n 1, 1) := by decide +kernel
theorem dL_law_677 : decode cL_law 677 = .ok (.aload_n 0, 1) := by decide +kernel
theorem dL_law_678 : decode cL_law 678 = .ok (.iload_n 3, 1) := by decide +kernel
theorem dL_law_679 : decode cL_law 679 = .ok (.iconst 1, 1) := by decide +kernel
theorem dL_law_680 : decode cL_law 680 = .ok (.iadd, 1) := by decide +kernel
theorem dL_law_681 : decode cL_law 681 = .ok (.iaload, 1) := by decide +kernel
theorem dL_law_682 : decode cL_law 682 = .ok (.aload_n 0, 1) := by decide +kernel
theorem dL_law_683 : decode cL_law 683 = .ok (.iload_n 3, 1) := by decide +kernel
theorem dL_law_684 : decode cL_law 684 = .ok (.iconst 2, 1) := by decide +kernel
theorem dL_law_685 : decode cL_law 685 = .ok (.iadd, 1) := by decide +kernel
theorem dL_law_686 : decode cL_law 686 = .ok (.iaload, 1) := by decide +kernel
theorem dL_law_687 : decode cL_law 687 = .ok (.i2l, 1) := by decide +kernel
theorem dL_law_688 : decode cL_law 688 = .ok (.bipush 32, 2) := by decide +kernel
theorem dL_law_690 : decode cL_law 690 = .ok (.lshl, 1) := by decide +kernel
theorem dL_law_691 : decode cL_law 691 = .ok (.aload_n 0, 1) := by decide +kernel
theorem dL_law_692 : decode cL_law 692 = .ok (.iload_n 3, 1) := by decide +kernel
theorem dL_law_693 : decode cL_law 693 = .ok (.iconst 3, 1) := by decide +kernel
theorem dL_law_694 : decode cL_law 694 = .ok (.iadd, 1) := by decide +kernel
theorem dL_law_695 : decode cL_law 695 = .ok (.iaload, 1) := by decide +kernel
theorem dL_law_696 : decode cL_law 696 = .ok (.i2l, 1) := by decide +kernel
theorem dL_law_697 : decode cL_law 697 = .ok (.ldc2_w 64, 3) := by decide +kernel
theorem dL_law_700 : decode cL_law 700 = .ok (.land, 1) := by decide +kernel
theorem dL_law_701 : decode cL_law 701 = .ok (.lor, 1) := by decide +kernel
theorem dL_law_702 : decode cL_law 702 = .ok (.aload_n 0, 1) := by decide +kernel
theorem dL_law_703 : decode cL_law 703 = .ok (.iload_n 3, 1) := by decide +kernel
theorem dL_law_704 : decode cL_law 704 = .ok (.iconst 4, 1) := by decide +kernel
theorem dL_law_705 : decode cL_law 705 = .ok (.iadd, 1) := by decide +kernel
theorem dL_law_706 : decode cL_law 706 = .ok (.iaload, 1) := by decide +kernel
theorem dL_law_707 : decode cL_law 707 = .ok (.aload_n 0, 1) := by decide +kernel
theorem dL_law_708 : decode cL_law 708 = .ok (.iload_n 3, 1) := by decide +kernel
theorem dL_law_709 : decode cL_law 709 = .ok (.iconst 5, 1) := by decide +kernel
theorem dL_law_710 : decode cL_law 710 = .ok (.iadd, 1) := by decide +kernel
theorem dL_law_711 : decode cL_law 711 = .ok (.iaload, 1) := by decide +kernel
theorem dL_law_712 : decode cL_law 712 = .ok (.i2l, 1) := by decide +kernel
theorem dL_law_713 : decode cL_law 713 = .ok (.bipush 32, 2) := by decide +kernel
theorem dL_law_715 : decode cL_law 715 = .ok (.lshl, 1) := by decide +kernel
theorem dL_law_716 : decode cL_law 716 = .ok (.aload_n 0, 1) := by decide +kernel
theorem dL_law_717 : decode cL_law 717 = .ok (.iload_n 3, 1) := by decide +kernel
theorem dL_law_718 : decode cL_law 718 = .ok (.bipush 6, 2) := by decide +kernel
theorem dL_law_720 : decode cL_law 720 = .ok (.iadd, 1) := by decide +kernel
theorem dL_law_721 : decode cL_law 721 = .ok (.iaload, 1) := by decide +kernel
theorem dL_law_722 : decode cL_law 722 = .ok (.i2l, 1) := by decide +kernel
theorem dL_law_723 : decode cL_law 723 = .ok (.ldc2_w 64, 3) := by decide +kernel
theorem dL_law_726 : decode cL_law 726 = .ok (.land, 1) := by decide +kernel
theorem dL_law_727 : decode cL_law 727 = .ok (.lor, 1) := by decide +kernel
theorem dL_law_728 : decode cL_law 728 = .ok (.invokevirtual 79, 3) := by decide +kernel
theorem dL_law_731 : decode cL_law 731 = .ok (.aload_n 2, 1) := by decide +kernel
theorem dL_law_732 : decode cL_law 732 = .ok (.aload_n 0, 1) := by decide +kernel
theorem dL_law_733 : decode cL_law 733 = .ok (.iload_n 3, 1) := by decide +kernel
theorem dL_law_734 : decode cL_law 734 = .ok (.iconst 1, 1) := by decide +kernel
theorem dL_law_735 : decode cL_law 735 = .ok (.iadd, 1) := by decide +kernel
theorem dL_law_736 : decode cL_law 736 = .ok (.iaload, 1) := by decide +kernel
theorem dL_law_737 : decode cL_law 737 = .ok (.aload_n 0, 1) := by decide +kernel
theorem dL_law_738 : decode cL_law 738 = .ok (.iload_n 3, 1) := by decide +kernel
theorem dL_law_739 : decode cL_law 739 = .ok (.iconst 2, 1) := by decide +kernel
theorem dL_law_740 : decode cL_law 740 = .ok (.iadd, 1) := by decide +kernel
theorem dL_law_741 : decode cL_law 741 = .ok (.iaload, 1) := by decide +kernel
theorem dL_law_742 : decode cL_law 742 = .ok (.i2l, 1) := by decide +kernel
theorem dL_law_743 : decode cL_law 743 = .ok (.bipush 32, 2) := by decide +kernel
theorem dL_law_745 : decode cL_law 745 = .ok (.lshl, 1) := by decide +kernel
theorem dL_law_746 : decode cL_law 746 = .ok (.aload_n 0, 1) := by decide +kernel
theorem dL_law_747 : decode cL_law 747 = .ok (.iload_n 3, 1) := by decide +kernel
theorem dL_law_748 : decode cL_law 748 = .ok (.iconst 3, 1) := by decide +kernel
theorem dL_law_749 : decode cL_law 749 = .ok (.iadd, 1) := by decide +kernel
theorem dL_law_750 : decode cL_law 750 = .ok (.iaload, 1) := by decide +kernel
theorem dL_law_751 : decode cL_law 751 = .ok (.i2l, 1) := by decide +kernel
theorem dL_law_752 : decode cL_law 752 = .ok (.ldc2_w 64, 3) := by decide +kernel
theorem dL_law_755 : decode cL_law 755 = .ok (.land, 1) := by decide +kernel
theorem dL_law_756 : decode cL_law 756 = .ok (.lor, 1) := by decide +kernel
theorem dL_law_757 : decode cL_law 757 = .ok (.aload_n 0, 1) := by decide +kernel
theorem dL_law_758 : decode cL_law 758 = .ok (.iload_n 3, 1) := by decide +kernel
theorem dL_law_759 : decode cL_law 759 = .ok (.iconst 4, 1) := by decide +kernel
theorem dL_law_760 : decode cL_law 760 = .ok (.iadd, 1) := by decide +kernel
theorem dL_law_761 : decode cL_law 761 = .ok (.iaload, 1) := by decide +kernel
theorem dL_law_762 : decode cL_law 762 = .ok (.aload_n 0, 1) := by decide +kernel
theorem dL_law_763 : decode cL_law 763 = .ok (.iload_n 3, 1) := by decide +kernel
theorem dL_law_764 : decode cL_law 764 = .ok (.iconst 5, 1) := by decide +kernel
theorem dL_law_765 : decode cL_law 765 = .ok (.iadd, 1) := by decide +kernel
theorem dL_law_766 : decode cL_law 766 = .ok (.iaload, 1) := by decide +kernel
theorem dL_law_767 : decode cL_law 767 = .ok (.i2l, 1) := by decide +kernel
theorem dL_law_768 : decode cL_law 768 = .ok (.bipush 32, 2) := by decide +kernel
theorem dL_law_770 : decode cL_law 770 = .ok (.lshl, 1) := by decide +kernel
theorem dL_law_771 : decode cL_law 771 = .ok (.aload_n 0, 1) := by decide +kernel
theorem dL_law_772 : decode cL_law 772 = .ok (.iload_n 3, 1) := by decide +kernel
theorem dL_law_773 : decode cL_law 773 = .ok (.bipush 6, 2) := by decide +kernel
theorem dL_law_775 : decode cL_law 775 = .ok (.iadd, 1) := by decide +kernel
theorem dL_law_776 : decode cL_law 776 = .ok (.iaload, 1) := by decide +kernel
theorem dL_law_777 : decode cL_law 777 = .ok (.i2l, 1) := by decide +kernel
theorem dL_law_778 : decode cL_law 778 = .ok (.ldc2_w 64, 3) := by decide +kernel
theorem dL_law_781 : decode cL_law 781 = .ok (.land, 1) := by decide +kernel
theorem dL_law_782 : decode cL_law 782 = .ok (.lor, 1) := by decide +kernel
theorem dL_law_783 : decode cL_law 783 = .ok (.invokevirtual 83, 3) := by decide +kernel
theorem dL_law_786 : decode cL_law 786 = .ok (.if_icmp .eq 48, 3) := by decide +kernel
theorem dL_law_789 : decode cL_law 789 = .ok (.iconst 0, 1) := by decide +kernel
theorem dL_law_790 : decode cL_law 790 = .ok (.ireturn, 1) := by decide +kernel
theorem dL_law_791 : decode cL_law 791 = .ok (.aload_n 1, 1) := by decide +kernel
theorem dL_law_792 : decode cL_law 792 = .ok (.aload_n 0, 1) := by decide +kernel
theorem dL_law_793 : decode cL_law 793 = .ok (.iload_n 3, 1) := by decide +kernel
theorem dL_law_794 : decode cL_law 794 = .ok (.iconst 1, 1) := by decide +kernel
theorem dL_law_795 : decode cL_law 795 = .ok (.iadd, 1) := by decide +kernel
theorem dL_law_796 : decode cL_law 796 = .ok (.iaload, 1) := by decide +kernel
theorem dL_law_797 : decode cL_law 797 = .ok (.aload_n 0, 1) := by decide +kernel
theorem dL_law_798 : decode cL_law 798 = .ok (.iload_n 3, 1) := by decide +kernel
theorem dL_law_799 : decode cL_law 799 = .ok (.iconst 2, 1) := by decide +kernel
theorem dL_law_800 : decode cL_law 800 = .ok (.iadd, 1) := by decide +kernel
theorem dL_law_801 : decode cL_law 801 = .ok (.iaload, 1) := by decide +kernel
theorem dL_law_802 : decode cL_law 802 = .ok (.aload_n 0, 1) := by decide +kernel
theorem dL_law_803 : decode cL_law 803 = .ok (.iload_n 3, 1) := by decide +kernel
theorem dL_law_804 : decode cL_law 804 = .ok (.iconst 3, 1) := by decide +kernel
theorem dL_law_805 : decode cL_law 805 = .ok (.iadd, 1) := by decide +kernel
theorem dL_law_806 : decode cL_law 806 = .ok (.iaload, 1) := by decide +kernel
theorem dL_law_807 : decode cL_law 807 = .ok (.invokevirtual 84, 3) := by decide +kernel
theorem dL_law_810 : decode cL_law 810 = .ok (.aload_n 2, 1) := by decide +kernel
theorem dL_law_811 : decode cL_law 811 = .ok (.aload_n 0, 1) := by decide +kernel
theorem dL_law_812 : decode cL_law 812 = .ok (.iload_n 3, 1) := by decide +kernel
theorem dL_law_813 : decode cL_law 813 = .ok (.iconst 1, 1) := by decide +kernel
theorem dL_law_814 : decode cL_law 814 = .ok (.iadd, 1) := by decide +kernel
theorem dL_law_815 : decode cL_law 815 = .ok (.iaload, 1) := by decide +kernel
theorem dL_law_816 : decode cL_law 816 = .ok (.aload_n 0, 1) := by decide +kernel
theorem dL_law_817 : decode cL_law 817 = .ok (.iload_n 3, 1) := by decide +kernel
theorem dL_law_818 : decode cL_law 818 = .ok (.iconst 2, 1) := by decide +kernel
theorem dL_law_819 : decode cL_law 819 = .ok (.iadd, 1) := by decide +kernel
theorem dL_law_820 : decode cL_law 820 = .ok (.iaload, 1) := by decide +kernel
theorem dL_law_821 : decode cL_law 821 = .ok (.aload_n 0, 1) := by decide +kernel
theorem dL_law_822 : decode cL_law 822 = .ok (.iload_n 3, 1) := by decide +kernel
theorem dL_law_823 : decode cL_law 823 = .ok (.iconst 3, 1) := by decide +kernel
theorem dL_law_824 : decode cL_law 824 = .ok (.iadd, 1) := by decide +kernel
theorem dL_law_825 : decode cL_law 825 = .ok (.iaload, 1) := by decide +kernel
theorem dL_law_826 : decode cL_law 826 = .ok (.invokevirtual 87, 3) := by decide +kernel
theorem dL_law_829 : decode cL_law 829 = .ok (.if_icmp .eq 5, 3) := by decide +kernel
theorem dL_law_832 : decode cL_law 832 = .ok (.iconst 0, 1) := by decide +kernel
theorem dL_law_833 : decode cL_law 833 = .ok (.ireturn, 1) := by decide +kernel
theorem dL_law_834 : decode cL_law 834 = .ok (.iinc 3 7, 3) := by decide +kernel
theorem dL_law_837 : decode cL_law 837 = .ok (.goto (-819), 3) := by decide +kernel
theorem dL_law_840 : decode cL_law 840 = .ok (.iconst 1, 1) := by decide +kernel
theorem dL_law_841 : decode cL_law 841 = .ok (.ireturn, 1) := by decide +kernel
end
section
def lw_g : List Cond := lw_tbl.filter goodWord
theorem inG {w : Cond} (h : w ∈ lw_tbl) (hg : goodWord w = true) : w ∈ lw_g := List.mem_filter.mpr ⟨h, hg⟩
theorem inGs {ws : List Cond} (h : ∀ w ∈ ws, w ∈ lw_tbl) (hg : ws.all goodWord = true) : ∀ w ∈ ws, w ∈ lw_g := fun w hw => inG (h w hw) (List.all_eq_true.mp hg w hw)
theorem good_g {ws : List Cond} (h : ∀ w ∈ ws, w ∈ lw_g) : GoodIn lw_g ws := fun w hw => ⟨h w hw, good_of_word (List.mem_filter.mp (h w hw)).2⟩
/-- the links between nest mates -/
def nests : List (String × Nat × MethodName) := [(RX7, 11, yX4_init), (RX7, 22, yX3_init), (RX7, 25, yX5_init), (RX7, 32, yX1_init), (RX4, 53, yX7_isLetter), (RX0, 127, yX7_isDigit), (RX0, 130, yX7_isLetter)]
/-! THE ENGINE, part a: a typed heap, what it says of the machine's heap, the judgement X -/
def up2 {α : Type} (f : Nat → Nat → α) (g a : Nat) (v : α) : Nat → Nat → α := fun g' a' => if g' = g ∧ a' = a then v else f g' a'
theorem up2_s {α : Type} (f : Nat → Nat → α) (g a : Nat) (v : α) : up2 f g a v g a = v := by simp [up2]
theorem up2_g {α : Type} (f : Nat → Nat → α) {g a g' a' : Nat} (v : α) (h : g' ≠ g) : up2 f g a v g' a' = f g' a' := by simp [up2, h]
theorem up2_a {α : Type} (f : Nat → Nat → α) {g a g' a' : Nat} (v : α) (h : a' ≠ a) : up2 f g a v g' a' = f g' a' := by simp [up2, h]
/-- kinds, int fields, long fields, reference fields (by field and cell), int rows, long rows, reference rows (by cell and place), lengths, how many cells, how many slots, the script -/
abbrev TH : Type := (Nat → Nat) × (Nat → Nat → Int32) × (Nat → Nat → Int64) × (Nat → Nat → Option Nat) × (Nat → Nat → Int32) × (Nat → Nat → Int64) × (Nat → Nat → Option Nat) × (Nat → Nat) × Nat × Nat × (Nat × (Nat → Int32))
def e_K (T : TH) : Nat → Nat := T.1
def e_i (T : TH) : Nat → Nat → Int32 := T.2.1
def e_l (T : TH) : Nat → Nat → Int64 := T.2.2.1
def e_r (T : TH) : Nat → Nat → Option Nat := T.2.2.2.1
def e_ai (T : TH) : Nat → Nat → Int32 := T.2.2.2.2.1
def e_al (T : TH) : Nat → Nat → Int64 := T.2.2.2.2.2.1
def e_ar (T : TH) : Nat → Nat → Option Nat := T.2.2.2.2.2.2.1
def e_len (T : TH) : Nat → Nat := T.2.2.2.2.2.2.2.1
def e_n (T : TH) : Nat := T.2.2.2.2.2.2.2.2.1
def e_s (T : TH) : Nat := T.2.2.2.2.2.2.2.2.2.1
def e_sc (T : TH) : Nat × (Nat → Int32) := T.2.2.2.2.2.2.2.2.2.2
def s_i (T : TH) (g a : Nat) (v : Int32) : TH := (T.1, up2 T.2.1 g a v, T.2.2)
def s_l (T : TH) (g a : Nat) (v : Int64) : TH := (T.1, T.2.1, up2 T.2.2.1 g a v, T.2.2.2)
def s_r (T : TH) (g a : Nat) (v : Option Nat) : TH := (T.1, T.2.1, T.2.2.1, up2 T.2.2.2.1 g a v, T.2.2.2.2)
def s_ai (T : TH) (a j : Nat) (v : Int32) : TH := (T.1, T.2.1, T.2.2.1, T.2.2.2.1, up2 T.2.2.2.2.1 a j v, T.2.2.2.2.2)
def s_al (T : TH) (a j : Nat) (v : Int64) : TH := (T.1, T.2.1, T.2.2.1, T.2.2.2.1, T.2.2.2.2.1, up2 T.2.2.2.2.2.1 a j v, T.2.2.2.2.2.2)
def s_ar (T : TH) (a j : Nat) (v : Option Nat) : TH := (T.1, T.2.1, T.2.2.1, T.2.2.2.1, T.2.2.2.2.1, T.2.2.2.2.2.1, up2 T.2.2.2.2.2.2.1 a j v, T.2.2.2.2.2.2.2)
/-- whole rows at once -/
def s_ais (T : TH) (a : Nat) (f : Nat → Int32) : TH := (T.1, T.2.1, T.2.2.1, T.2.2.2.1, va_up T.2.2.2.2.1 a f, T.2.2.2.2.2)
def s_als (T : TH) (a : Nat) (f : Nat → Int64) : TH := (T.1, T.2.1, T.2.2.1, T.2.2.2.1, T.2.2.2.2.1, va_up T.2.2.2.2.2.1 a f, T.2.2.2.2.2.2)
/-- a new cell of kind k with N slots: all that was told of its number is forgotten -/
def s_new (T : TH) (k N : Nat) : TH := (va_up (e_K T) (e_n T) k, fun g => va_up (e_i T g) (e_n T) 0, fun g => va_up (e_l T g) (e_n T) 0, fun g => va_up (e_r T g) (e_n T) none, va_up (e_ai T) (e_n T) (fun _ => 0), va_up (e_al T) (e_n T) (fun _ => 0), va_up (e_ar T) (e_n T) (fun _ => none), va_up (e_len T) (e_n T) N, e_n T + 1, e_s T + N, e_sc T)
/-- base, the script's cell, the classes' numbers and slots, the array classes (int, byte, boolean, long, Table) -/
abbrev EV : Type := Nat × Nat × va_G × ClassId × ClassId × ClassId × ClassId × ClassId
def rv (E : EV) : Value → Value
  | .ref a => .ref (E.1 + a)
  | .float _ => .ref E.2.1
  | v => v
theorem rv_cat (E : EV) (v : Value) : (rv E v).category = v.category := by cases v <;> rfl
theorem rv_rf (E : EV) (o : Option Nat) : rv E (va_rf o) = va_rf (o.map (E.1 + ·)) := by cases o <;> rfl
def kCl (E : EV) (k : Nat) : ClassId := if k = 20 then E.2.2.2.1 else if k = 21 then E.2.2.2.2.1 else if k = 22 then E.2.2.2.2.2.1 else if k = 23 then E.2.2.2.2.2.2.1 else E.2.2.2.2.2.2.2
def eTys (E : EV) : List (ClassId × FieldType) := [(E.2.2.2.1, .int), (E.2.2.2.2.1, .byte), (E.2.2.2.2.2.1, .boolean), (E.2.2.2.2.2.2.1, .long), (E.2.2.2.2.2.2.2, .object RX3)]
/-- of each field: 0 int, 1 long, 2 a reference, 3 boolean -/
def ftab : List (List Nat) := [[2, 2, 2, 0, 2, 2, 0, 0], [2, 2, 2, 2, 2, 2, 2, 2, 2, 2, 0, 0], [2, 2, 0, 0], [2, 2, 2, 2, 0, 0, 0, 3, 0], [2, 0, 0, 0, 0, 0, 0, 1], [2, 0], [2, 2, 0, 2, 2], [2, 2, 2, 2, 2, 0], [2, 0, 0, 0, 0, 0, 0, 0, 1, 1, 1, 1, 1, 3, 0, 0, 2, 2, 2, 2, 2, 0, 0, 2, 2, 2, 2, 2, 2, 2, 0, 0, 2, 2, 2, 2, 0, 0, 2, 0, 2, 2, 2, 2, 2, 2, 2, 2, 2, 2, 0, 2, 2, 2]]
def ftc (ci k : Nat) : Nat := (ftab.getD ci []).getD k 0
def nfd (ci : Nat) : Nat := (ftab.getD ci []).length
/-- what field k of cell a holds, as the program sees it -/
def gvl (T : TH) (ci k a : Nat) : Value := if ftc ci k = 1 then .long (e_l T (64 * ci + k) a) else if ftc ci k = 2 then va_rf (e_r T (64 * ci + k) a) else .int (e_i T (64 * ci + k) a)
def kDat (E : EV) (T : TH) (k a : Nat) : (Nat → Int32) ⊕ (Nat → Int64) ⊕ (Nat → UInt32) ⊕ (Nat → UInt64) ⊕ (Nat → Option Nat) := if k = 24 then .inr (.inr (.inr (.inr (fun j => (e_ar T a j).map (E.1 + ·))))) else if k = 23 then .inr (.inl (e_al T a)) else .inl (e_ai T a)
def cellE (E : EV) (T : TH) (a : Nat) : va_E := if e_K T a < 20 then .inr (e_K T a - 1, (List.range (nfd (e_K T a - 1))).map (fun k => rv E (gvl T (e_K T a - 1) k a))) else .inl (kCl E (e_K T a), e_len T a, kDat E T (e_K T a) a)
def wsE (E : EV) (T : TH) : va_W := (List.range (e_n T)).map (fun a => (E.1 + a, cellE E T a))
def AA (E : EV) : Nat → Prop := fun q => E.1 ≤ q
def Hp (E : EV) (T : TH) (H : Heap) : Prop := H.size = E.1 + e_n T ∧ va_P E.2.2.1 vwCl (wsE E T) H ∧ (∀ a, e_n T ≤ a → e_K T a = 0) ∧ ∀ a, e_len T a < 2147483648
theorem wsE_at (E : EV) (T : TH) {a : Nat} (h : a < e_n T) : (wsE E T)[a]? = some (E.1 + a, cellE E T a) := by
  simp [wsE, h]
theorem wsE_len (E : EV) (T : TH) : (wsE E T).length = e_n T := by simp [wsE]
theorem wsE_D (E : EV) (T : TH) : va_D (AA E) (wsE E T) := by
  refine ⟨fun i j p q hi hj e => ?_, fun k q hk => ?_⟩
  · have h1 : i < e_n T := by have := (List.getElem?_eq_some_iff.mp hi).1; rwa [wsE_len] at this
    have h2 : j < e_n T := by have := (List.getElem?_eq_some_iff.mp hj).1; rwa [wsE_len] at this
    rw [wsE_at E T h1] at hi
    rw [wsE_at E T h2] at hj
    cases hi; cases hj
    exact Nat.add_left_cancel e
  · have h1 : k < e_n T := by have := (List.getElem?_eq_some_iff.mp hk).1; rwa [wsE_len] at this
    rw [wsE_at E T h1] at hk
    cases hk
    exact Nat.le_add_right _ _
theorem Hp.lt {E : EV} {T : TH} {H : Heap} (h : Hp E T H) {a : Nat} (hk : e_K T a ≠ 0) : a < e_n T := by
  rcases Nat.lt_or_ge a (e_n T) with q | q
  · exact q
  · exact absurd (h.2.2.1 a q) hk
/-- one cell changed -/
theorem wsE_set (E : EV) {T T' : TH} {a : Nat} {c : va_E} (hn : e_n T' = e_n T) (ha : cellE E T' a = c) (ho : ∀ b, b ≠ a → cellE E T' b = cellE E T b) : (wsE E T).set a (E.1 + a, c) = wsE E T' := by
  apply List.ext_getElem?
  intro i
  rw [List.getElem?_set]
  by_cases hi : a = i
  · subst hi
    rcases Nat.lt_or_ge a (e_n T) with q | q
    · rw [wsE_at E T' (by rw [hn]; exact q), ha]; simp [wsE_len, q]
    · simp [wsE_len, Nat.not_lt.mpr q, wsE, hn, q]
  · rw [if_neg hi]
    simp only [wsE, hn, List.getElem?_map]
    by_cases q : i < e_n T
    · simp [q, ho i (fun e => hi e.symm)]
    · simp [q]
/-- a method: its class, its name, its bytes, its locals, what it returns -/
abbrev MR : Type := String × MethodName × ByteArray × Nat × Option FieldType
def retI : Option FieldType → Instr
  | none => .return_
  | some .long => .lreturn
  | some (.object _) => .areturn
  | some (.array _) => .areturn
  | some _ => .ireturn
def rOk : Option FieldType → Option Value → Prop
  | none, none => True
  | some .int, some (.int _) => True
  | some .boolean, some (.int v) => v = 0 ∨ v = 1
  | some .long, some (.long _) => True
  | some (.object _), some (.ref _) => True
  | some (.object _), some .null => True
  | some (.array _), some (.ref _) => True
  | _, _ => False
/-- what the tables say: classes, array classes, links between nest mates -/
def vK (E : EV) (s : State) : Prop := va_K E.2.2.1 vwCl (eTys E) s ∧ va_AO RX3 s ∧ ∀ q ∈ nests, va_Nw (.methodLinkNest q.1 q.2.1 q.2.2 RX7) s
def Cx (E : EV) (mm : MR) (d : Nat) (p : Program) (R : Room) (s : State) (m : MethodId) (args : Array Value) (meth : Method) (c : Code) (n0 s0 : Nat) (T Tf : TH) : Prop :=
  p.tables.exec = Jvm.exec ∧ c.code = mm.2.2.1 ∧ c.maxLocals = mm.2.2.2.1 ∧ meth.sig.returnType = mm.2.2.2.2 ∧ meth.locks = false ∧ s.vm.findClass mm.1 = some m.cls ∧ (∀ w ∈ lw_g, w.before args s = true) ∧ (mm.2.1.name = "<init>" → meth.name = "<init>") ∧ vK E s ∧ s.heap.size = E.1 + n0 ∧ (d ≤ R.frames ∧ 64 * d ≤ R.locals ∧ e_n Tf - n0 ≤ R.cells ∧ e_s Tf - s0 ≤ R.slots) ∧ (mm.1 = RL → va_X E.2.1 (e_sc T).1 (e_sc T).2 s s.heap ∧ E.2.1 < s.heap.size ∧ ¬ AA E E.2.1)
def Rl (E : EV) (mm : MR) (L : List (Nat × Value)) (ls : Array Slot) : Prop := lv_has ls mm.2.2.2.1 (L.map (fun q => (q.1, rv E q.2)))
def RetOk (E : EV) (mm : MR) (p : Program) (l : Launch) (e : Env) (R : Room) (s : State) (m : MethodId) (args : Array Value) (below : List Frame) (meth : Method) (c : Code) (n0 s0 : Nat) (r : Option Value) (Tf : TH) (Z : State → Prop) : Prop :=
  ∀ (H : Heap) (locs : List Loc) (pc : Nat) (ls : Array Slot), Hp E Tf H → va_S (AA E) s.heap H locs → decode mm.2.2.1 pc = .ok (retI mm.2.2.2.2, 1) → W p l e R s m args below meth c H locs (e_n Tf - n0) (e_s Tf - s0) Z (F0 m pc ls ((r.map (rv E)).toList))
/-- FROM HERE THE METHOD ENDS: at pc, with locals L, operands st and heap T it comes to its return, with answer r and heap Tf -/
def X (mm : MR) (d pc : Nat) (L : List (Nat × Value)) (st : List Value) (T : TH) (r : Option Value) (Tf : TH) : Prop :=
  (e_n T ≤ e_n Tf ∧ e_s T ≤ e_s Tf ∧ e_sc Tf = e_sc T ∧ rOk mm.2.2.2.2 r) ∧ ∀ (E : EV) (p : Program) (l : Launch) (e : Env) (R : Room) (s : State) (m : MethodId) (args : Array Value) (below : List Frame) (meth : Method) (c : Code) (H : Heap) (locs : List Loc) (ls : Array Slot) (n0 s0 : Nat) (Z : State → Prop),
    Cx E mm d p R s m args meth c n0 s0 T Tf → n0 ≤ e_n T ∧ s0 ≤ e_s T → Rl E mm L ls → Hp E T H → va_S (AA E) s.heap H locs → RetOk E mm p l e R s m args below meth c n0 s0 r Tf Z →
    W p l e R s m args below meth c H locs (e_n T - n0) (e_s T - s0) Z (F0 m pc ls (st.map (rv E)))
theorem W_sz {p : Program} {l : Launch} {e : Env} {R : Room} {s : State} {m : MethodId} {args : Array Value} {below : List Frame} {meth : Method} {c : Code} {H : Heap} {locs : List Loc} {cells slots : Nat} {Z : State → Prop} {g : JFrame} (h : H.size ≤ s.heap.size + cells → W p l e R s m args below meth c H locs cells slots Z g) : W p l e R s m args below meth c H locs cells slots Z g := by
  intro T hT X
  refine h ?_ T hT X
  have h2 : (T.setVm s.vm).heap.size ≤ s.heap.size + cells := X.same.2.2.1
  rw [← hT]
  exact h2
section Rules
variable {mm : MR} {d pc pc' : Nat} {L : List (Nat × Value)} {st st' : List Value} {T Tf : TH} {r : Option Value}
/-- fewer locals told -/
theorem x_loc {L' : List (Nat × Value)} (h : ∀ q ∈ L', q ∈ L) (k : X mm d pc L' st T r Tf) : X mm d pc L st T r Tf :=
  ⟨k.1, fun E p l e R s m args below meth c H locs ls n0 s0 Z C h1 hl => k.2 E p l e R s m args below meth c H locs ls n0 s0 Z C h1 ⟨hl.1, hl.2.1, fun q hq => by
    obtain ⟨q0, h0, rfl⟩ := List.mem_map.mp hq
    exact hl.2.2 _ (List.mem_map.mpr ⟨q0, h q0 h0, rfl⟩)⟩⟩
/-- an instruction that leaves heap and locals -/
theorem x_pure (k : X mm d pc' L st' T r Tf)
    (h : ∀ (E : EV) (p : Program) (l : Launch) (e : Env) (R : Room) (s : State) (m : MethodId) (args : Array Value) (below : List Frame) (meth : Method) (c : Code) (H : Heap) (locs : List Loc) (ls : Array Slot) (cells slots : Nat) (Z : State → Prop), p.tables.exec = Jvm.exec → c.code = mm.2.2.1 → s.vm.findClass mm.1 = some m.cls → (∀ w ∈ lw_g, w.before args s = true) → Rl E mm L ls →
      W p l e R s m args below meth c H locs cells slots Z (F0 m pc' ls (st'.map (rv E))) → W p l e R s m args below meth c H locs cells slots Z (F0 m pc ls (st.map (rv E)))) : X mm d pc L st T r Tf :=
  ⟨k.1, fun E p l e R s m args below meth c H locs ls n0 s0 Z C h1 hl hp hs hz => h E p l e R s m args below meth c H locs ls _ _ Z C.1 C.2.1 C.2.2.2.2.2.1 C.2.2.2.2.2.2.1 hl (k.2 E p l e R s m args below meth c H locs ls n0 s0 Z C h1 hl hp hs hz)⟩
theorem x_iconst {n : Int} {v : Int32} (hd : decode mm.2.2.1 pc = .ok (.iconst n, 1)) (hv : Int32.ofInt n = v) (k : X mm d (pc + 1) L (.int v :: st) T r Tf) : X mm d pc L st T r Tf := x_pure k (fun _ _ _ _ _ _ _ _ _ _ _ _ _ _ _ _ _ hx hb _ _ _ w => lv_iconst hx hb hd hv w)
theorem x_bipush {n : Int} {v : Int32} (hd : decode mm.2.2.1 pc = .ok (.bipush n, 2)) (hv : (Int8.ofInt n).toInt32 = v) (k : X mm d (pc + 2) L (.int v :: st) T r Tf) : X mm d pc L st T r Tf := x_pure k (fun _ _ _ _ _ _ _ _ _ _ _ _ _ _ _ _ _ hx hb _ _ _ w => lv_bipush hx hb hd hv w)
theorem x_sipush {n : Int} {v : Int32} (hd : decode mm.2.2.1 pc = .ok (.sipush n, 3)) (hv : (Int16.ofInt n).toInt32 = v) (k : X mm d (pc + 3) L (.int v :: st) T r Tf) : X mm d pc L st T r Tf := x_pure k (fun _ _ _ _ _ _ _ _ _ _ _ _ _ _ _ _ _ hx hb _ _ _ w => lv_sipush hx hb hd hv w)
theorem x_lconst {n : Fin 2} {v : Int64} (hd : decode mm.2.2.1 pc = .ok (.lconst n, 1)) (hv : Int64.ofNat (n : Nat) = v) (k : X mm d (pc + 1) L (.long v :: st) T r Tf) : X mm d pc L st T r Tf := x_pure k (fun _ _ _ _ _ _ _ _ _ _ _ _ _ _ _ _ _ hx hb _ _ _ w => lv_lconst hx hb hd hv w)
theorem x_null (hd : decode mm.2.2.1 pc = .ok (.aconst_null, 1)) (k : X mm d (pc + 1) L (.null :: st) T r Tf) : X mm d pc L st T r Tf := x_pure k (fun _ _ _ _ _ _ _ _ _ _ _ _ _ _ _ _ _ hx hb _ _ _ w => lv_null hx hb hd w)
theorem x_ldc2 {index : Nat} {v : Int64} (hd : decode mm.2.2.1 pc = .ok (.ldc2_w index, 3)) (hc : Cond.constantLong mm.1 index v ∈ lw_g) (k : X mm d (pc + 3) L (.long v :: st) T r Tf) : X mm d pc L st T r Tf := x_pure k (fun _ _ _ _ _ _ _ _ _ _ _ _ _ _ _ _ _ hx hb ho hts _ w => lv_ldc2 hx hb ho (hts _ hc) hd w)
theorem Rl.get {E : EV} {ls : Array Slot} (h : Rl E mm L ls) (k : Nat) {i : Nat} {v : Value} (hk : L[k]? = some (i, v)) : ls[i]? = some (.val (rv E v)) := lv_at h k (by rw [List.getElem?_map, hk]; rfl)
theorem x_iload_n {q : Fin 4} {i : Nat} {x : Int32} (hd : decode mm.2.2.1 pc = .ok (.iload_n q, 1)) (hi : (q : Nat) = i) (j : Nat) (hj : L[j]? = some (i, .int x)) (k : X mm d (pc + 1) L (.int x :: st) T r Tf) : X mm d pc L st T r Tf := x_pure k (fun _ _ _ _ _ _ _ _ _ _ _ _ _ _ _ _ _ hx hb _ _ hl w => lv_iload_n hx hb hd hi (hl.get j hj) w)
theorem x_iload {i : Nat} {x : Int32} (hd : decode mm.2.2.1 pc = .ok (.iload i, 2)) (j : Nat) (hj : L[j]? = some (i, .int x)) (k : X mm d (pc + 2) L (.int x :: st) T r Tf) : X mm d pc L st T r Tf := x_pure k (fun _ _ _ _ _ _ _ _ _ _ _ _ _ _ _ _ _ hx hb _ _ hl w => lv_iload hx hb hd (hl.get j hj) w)
theorem x_lload_n {q : Fin 4} {i : Nat} {x : Int64} (hd : decode mm.2.2.1 pc = .ok (.lload_n q, 1)) (hi : (q : Nat) = i) (j : Nat) (hj : L[j]? = some (i, .long x)) (k : X mm d (pc + 1) L (.long x :: st) T r Tf) : X mm d pc L st T r Tf := x_pure k (fun _ _ _ _ _ _ _ _ _ _ _ _ _ _ _ _ _ hx hb _ _ hl w => lv_lload_n hx hb hd hi (hl.get j hj) w)
theorem x_lload {i : Nat} {x : Int64} (hd : decode mm.2.2.1 pc = .ok (.lload i, 2)) (j : Nat) (hj : L[j]? = some (i, .long x)) (k : X mm d (pc + 2) L (.long x :: st) T r Tf) : X mm d pc L st T r Tf := x_pure k (fun _ _ _ _ _ _ _ _ _ _ _ _ _ _ _ _ _ hx hb _ _ hl w => lv_lload hx hb hd (hl.get j hj) w)
theorem x_aload_n {q : Fin 4} {i a : Nat} (hd : decode mm.2.2.1 pc = .ok (.aload_n q, 1)) (hi : (q : Nat) = i) (j : Nat) (hj : L[j]? = some (i, .ref a)) (k : X mm d (pc + 1) L (.ref a :: st) T r Tf) : X mm d pc L st T r Tf := x_pure k (fun _ _ _ _ _ _ _ _ _ _ _ _ _ _ _ _ _ hx hb _ _ hl w => lv_aload_n hx hb hd hi (hl.get j hj) w)
theorem x_aload_nS {q : Fin 4} {i : Nat} {a : UInt32} (hd : decode mm.2.2.1 pc = .ok (.aload_n q, 1)) (hi : (q : Nat) = i) (j : Nat) (hj : L[j]? = some (i, .float a)) (k : X mm d (pc + 1) L (.float a :: st) T r Tf) : X mm d pc L st T r Tf := x_pure k (fun _ _ _ _ _ _ _ _ _ _ _ _ _ _ _ _ _ hx hb _ _ hl w => lv_aload_n hx hb hd hi (hl.get j hj) w)
theorem x_aload_nN {q : Fin 4} {i : Nat} (hd : decode mm.2.2.1 pc = .ok (.aload_n q, 1)) (hi : (q : Nat) = i) (j : Nat) (hj : L[j]? = some (i, .null)) (k : X mm d (pc + 1) L (.null :: st) T r Tf) : X mm d pc L st T r Tf := x_pure k (fun _ _ _ _ _ _ _ _ _ _ _ _ _ _ _ _ _ hx hb _ _ hl w => lv_aload_nN hx hb hd hi (hl.get j hj) w)
theorem x_aload {i a : Nat} (hd : decode mm.2.2.1 pc = .ok (.aload i, 2)) (j : Nat) (hj : L[j]? = some (i, .ref a)) (k : X mm d (pc + 2) L (.ref a :: st) T r Tf) : X mm d pc L st T r Tf := x_pure k (fun _ _ _ _ _ _ _ _ _ _ _ _ _ _ _ _ _ hx hb _ _ hl w => lv_aload hx hb hd (hl.get j hj) w)
theorem x_aloadN {i : Nat} (hd : decode mm.2.2.1 pc = .ok (.aload i, 2)) (j : Nat) (hj : L[j]? = some (i, .null)) (k : X mm d (pc + 2) L (.null :: st) T r Tf) : X mm d pc L st T r Tf := x_pure k (fun _ _ _ _ _ _ _ _ _ _ _ _ _ _ _ _ _ hx hb _ _ hl w => lv_aloadN hx hb hd (hl.get j hj) w)
theorem x_iadd {x y : Int32} (hd : decode mm.2.2.1 pc = .ok (.iadd, 1)) (k : X mm d (pc + 1) L (.int (x + y) :: st) T r Tf) : X mm d pc L (.int y :: .int x :: st) T r Tf := x_pure k (fun _ _ _ _ _ _ _ _ _ _ _ _ _ _ _ _ _ hx hb _ _ _ w => lv_iadd hx hb hd w)
theorem x_isub {x y : Int32} (hd : decode mm.2.2.1 pc = .ok (.isub, 1)) (k : X mm d (pc + 1) L (.int (x - y) :: st) T r Tf) : X mm d pc L (.int y :: .int x :: st) T r Tf := x_pure k (fun _ _ _ _ _ _ _ _ _ _ _ _ _ _ _ _ _ hx hb _ _ _ w => lv_isub hx hb hd w)
theorem x_imul {x y : Int32} (hd : decode mm.2.2.1 pc = .ok (.imul, 1)) (k : X mm d (pc + 1) L (.int (x * y) :: st) T r Tf) : X mm d pc L (.int y :: .int x :: st) T r Tf := x_pure k (fun _ _ _ _ _ _ _ _ _ _ _ _ _ _ _ _ _ hx hb _ _ _ w => lv_imul hx hb hd w)
theorem x_iand {x y : Int32} (hd : decode mm.2.2.1 pc = .ok (.iand, 1)) (k : X mm d (pc + 1) L (.int (x &&& y) :: st) T r Tf) : X mm d pc L (.int y :: .int x :: st) T r Tf := x_pure k (fun _ _ _ _ _ _ _ _ _ _ _ _ _ _ _ _ _ hx hb _ _ _ w => lv_iand hx hb hd w)
theorem x_ior {x y : Int32} (hd : decode mm.2.2.1 pc = .ok (.ior, 1)) (k : X mm d (pc + 1) L (.int (x ||| y) :: st) T r Tf) : X mm d pc L (.int y :: .int x :: st) T r Tf := x_pure k (fun _ _ _ _ _ _ _ _ _ _ _ _ _ _ _ _ _ hx hb _ _ _ w => lv_ior hx hb hd w)
theorem x_ishl {x y : Int32} (hd : decode mm.2.2.1 pc = .ok (.ishl, 1)) (k : X mm d (pc + 1) L (.int (x <<< (y &&& 31)) :: st) T r Tf) : X mm d pc L (.int y :: .int x :: st) T r Tf := x_pure k (fun _ _ _ _ _ _ _ _ _ _ _ _ _ _ _ _ _ hx hb _ _ _ w => lv_ishl hx hb hd w)
theorem x_ishr {x y : Int32} (hd : decode mm.2.2.1 pc = .ok (.ishr, 1)) (k : X mm d (pc + 1) L (.int (x >>> (y &&& 31)) :: st) T r Tf) : X mm d pc L (.int y :: .int x :: st) T r Tf := x_pure k (fun _ _ _ _ _ _ _ _ _ _ _ _ _ _ _ _ _ hx hb _ _ _ w => lv_ishr hx hb hd w)
theorem x_idiv {x y : Int32} (hd : decode mm.2.2.1 pc = .ok (.idiv, 1)) (hne : ¬ y = 0) (k : X mm d (pc + 1) L (.int (x / y) :: st) T r Tf) : X mm d pc L (.int y :: .int x :: st) T r Tf := x_pure k (fun _ _ _ _ _ _ _ _ _ _ _ _ _ _ _ _ _ hx hb _ _ _ w => lv_idiv hx hb hd hne w)
theorem x_irem {x y : Int32} (hd : decode mm.2.2.1 pc = .ok (.irem, 1)) (hne : ¬ y = 0) (k : X mm d (pc + 1) L (.int (x - x / y * y) :: st) T r Tf) : X mm d pc L (.int y :: .int x :: st) T r Tf := x_pure k (fun _ _ _ _ _ _ _ _ _ _ _ _ _ _ _ _ _ hx hb _ _ _ w => lv_irem hx hb hd hne w)
theorem x_ladd {x y : Int64} (hd : decode mm.2.2.1 pc = .ok (.ladd, 1)) (k : X mm d (pc + 1) L (.long (x + y) :: st) T r Tf) : X mm d pc L (.long y :: .long x :: st) T r Tf := x_pure k (fun _ _ _ _ _ _ _ _ _ _ _ _ _ _ _ _ _ hx hb _ _ _ w => lv_ladd hx hb hd w)
theorem x_lsub {x y : Int64} (hd : decode mm.2.2.1 pc = .ok (.lsub, 1)) (k : X mm d (pc + 1) L (.long (x - y) :: st) T r Tf) : X mm d pc L (.long y :: .long x :: st) T r Tf := x_pure k (fun _ _ _ _ _ _ _ _ _ _ _ _ _ _ _ _ _ hx hb _ _ _ w => lv_lsub hx hb hd w)
theorem x_lmul {x y : Int64} (hd : decode mm.2.2.1 pc = .ok (.lmul, 1)) (k : X mm d (pc + 1) L (.long (x * y) :: st) T r Tf) : X mm d pc L (.long y :: .long x :: st) T r Tf := x_pure k (fun _ _ _ _ _ _ _ _ _ _ _ _ _ _ _ _ _ hx hb _ _ _ w => lv_lmul hx hb hd w)
theorem x_land {x y : Int64} (hd : decode mm.2.2.1 pc = .ok (.land, 1)) (k : X mm d (pc + 1) L (.long (x &&& y) :: st) T r Tf) : X mm d pc L (.long y :: .long x :: st) T r Tf := x_pure k (fun _ _ _ _ _ _ _ _ _ _ _ _ _ _ _ _ _ hx hb _ _ _ w => lv_land hx hb hd w)
theorem x_lor {x y : Int64} (hd : decode mm.2.2.1 pc = .ok (.lor, 1)) (k : X mm d (pc + 1) L (.long (x ||| y) :: st) T r Tf) : X mm d pc L (.long y :: .long x :: st) T r Tf := x_pure k (fun _ _ _ _ _ _ _ _ _ _ _ _ _ _ _ _ _ hx hb _ _ _ w => lv_lor hx hb hd w)
theorem x_ldiv {x y : Int64} (hd : decode mm.2.2.1 pc = .ok (.ldiv, 1)) (hne : ¬ y = 0) (k : X mm d (pc + 1) L (.long (x / y) :: st) T r Tf) : X mm d pc L (.long y :: .long x :: st) T r Tf := x_pure k (fun _ _ _ _ _ _ _ _ _ _ _ _ _ _ _ _ _ hx hb _ _ _ w => lv_ldiv hx hb hd hne w)
theorem x_lrem {x y : Int64} (hd : decode mm.2.2.1 pc = .ok (.lrem, 1)) (hne : ¬ y = 0) (k : X mm d (pc + 1) L (.long (x - x / y * y) :: st) T r Tf) : X mm d pc L (.long y :: .long x :: st) T r Tf := x_pure k (fun _ _ _ _ _ _ _ _ _ _ _ _ _ _ _ _ _ hx hb _ _ _ w => lv_lrem hx hb hd hne w)
theorem x_iushr {x y : Int32} (hd : decode mm.2.2.1 pc = .ok (.iushr, 1)) (k : X mm d (pc + 1) L (.int ((x.toUInt32 >>> (y.toUInt32 &&& Int32.toUInt32 31)).toInt32) :: st) T r Tf) : X mm d pc L (.int y :: .int x :: st) T r Tf := x_pure k (fun _ _ _ _ _ _ _ _ _ _ _ _ _ _ _ _ _ hx hb _ _ _ w => lv_iushr hx hb hd rfl w)
theorem x_lshl {x : Int64} {y : Int32} (hd : decode mm.2.2.1 pc = .ok (.lshl, 1)) (k : X mm d (pc + 1) L (.long (x <<< (y.toInt64 &&& 63)) :: st) T r Tf) : X mm d pc L (.int y :: .long x :: st) T r Tf := x_pure k (fun _ _ _ _ _ _ _ _ _ _ _ _ _ _ _ _ _ hx hb _ _ _ w => lv_lshl hx hb hd rfl w)
theorem x_lneg {x : Int64} (hd : decode mm.2.2.1 pc = .ok (.lneg, 1)) (k : X mm d (pc + 1) L (.long (-x) :: st) T r Tf) : X mm d pc L (.long x :: st) T r Tf := x_pure k (fun _ _ _ _ _ _ _ _ _ _ _ _ _ _ _ _ _ hx hb _ _ _ w => lv_lneg hx hb hd w)
theorem x_i2l {x : Int32} (hd : decode mm.2.2.1 pc = .ok (.i2l, 1)) (k : X mm d (pc + 1) L (.long x.toInt64 :: st) T r Tf) : X mm d pc L (.int x :: st) T r Tf := x_pure k (fun _ _ _ _ _ _ _ _ _ _ _ _ _ _ _ _ _ hx hb _ _ _ w => lv_i2l hx hb hd rfl w)
theorem x_l2i {x : Int64} (hd : decode mm.2.2.1 pc = .ok (.l2i, 1)) (k : X mm d (pc + 1) L (.int x.toInt32 :: st) T r Tf) : X mm d pc L (.long x :: st) T r Tf := x_pure k (fun _ _ _ _ _ _ _ _ _ _ _ _ _ _ _ _ _ hx hb _ _ _ w => lv_l2i hx hb hd rfl w)
theorem x_i2b {x : Int32} (hd : decode mm.2.2.1 pc = .ok (.i2b, 1)) (k : X mm d (pc + 1) L (.int x.toInt8.toInt32 :: st) T r Tf) : X mm d pc L (.int x :: st) T r Tf := x_pure k (fun _ _ _ _ _ _ _ _ _ _ _ _ _ _ _ _ _ hx hb _ _ _ w => lv_i2b hx hb hd rfl w)
theorem x_lcmp {x y : Int64} (hd : decode mm.2.2.1 pc = .ok (.lcmp, 1)) (k : X mm d (pc + 1) L (.int (lg_cmp x y) :: st) T r Tf) : X mm d pc L (.long y :: .long x :: st) T r Tf := x_pure k (fun _ _ _ _ _ _ _ _ _ _ _ _ _ _ _ _ _ hx hb _ _ _ w => W.lcmp hx hb hd w)
theorem x_dup {v : Value} (hd : decode mm.2.2.1 pc = .ok (.dup, 1)) (hv : v.category = 1) (k : X mm d (pc + 1) L (v :: v :: st) T r Tf) : X mm d pc L (v :: st) T r Tf := x_pure k (fun E _ _ _ _ _ _ _ _ _ _ _ _ _ _ _ _ hx hb _ _ _ w => lv_dup hx hb hd ((rv_cat E v).trans hv) w)
theorem x_pop {v : Value} (hd : decode mm.2.2.1 pc = .ok (.pop, 1)) (hv : v.category = 1) (k : X mm d (pc + 1) L st T r Tf) : X mm d pc L (v :: st) T r Tf := x_pure k (fun E _ _ _ _ _ _ _ _ _ _ _ _ _ _ _ _ hx hb _ _ _ w => lv_pop hx hb hd ((rv_cat E v).trans hv) w)
theorem x_dup2 {v u : Value} (hd : decode mm.2.2.1 pc = .ok (.dup2, 1)) (hv : v.category = 1) (hu : u.category = 1) (k : X mm d (pc + 1) L (v :: u :: v :: u :: st) T r Tf) : X mm d pc L (v :: u :: st) T r Tf := x_pure k (fun E _ _ _ _ _ _ _ _ _ _ _ _ _ _ _ _ hx hb _ _ _ w => lv_dup2_11 hx hb hd ((rv_cat E v).trans hv) ((rv_cat E u).trans hu) w)
theorem x_goto {off : Int} {tgt : Nat} (hd : decode mm.2.2.1 pc = .ok (.goto off, 3)) (ht : (pc : Int) + off = (tgt : Int)) (k : X mm d tgt L st T r Tf) : X mm d pc L st T r Tf := x_pure k (fun _ _ _ _ _ _ _ _ _ _ _ _ _ _ _ _ _ hx hb _ _ _ w => lv_goto hx hb hd ht w)
theorem x_ifnull {a : Nat} {off : Int} (hd : decode mm.2.2.1 pc = .ok (.ifnull off, 3)) (k : X mm d (pc + 3) L st T r Tf) : X mm d pc L (.ref a :: st) T r Tf := x_pure k (fun _ _ _ _ _ _ _ _ _ _ _ _ _ _ _ _ _ hx hb _ _ _ w => lv_ifnull hx hb hd w)
theorem x_ifnullN {off : Int} {tgt : Nat} (hd : decode mm.2.2.1 pc = .ok (.ifnull off, 3)) (ht : (pc : Int) + off = (tgt : Int)) (k : X mm d tgt L st T r Tf) : X mm d pc L (.null :: st) T r Tf := x_pure k (fun _ _ _ _ _ _ _ _ _ _ _ _ _ _ _ _ _ hx hb _ _ _ w => lv_ifnullN hx hb hd ht w)
theorem x_ifnonnull {a : Nat} {off : Int} {tgt : Nat} (hd : decode mm.2.2.1 pc = .ok (.ifnonnull off, 3)) (ht : (pc : Int) + off = (tgt : Int)) (k : X mm d tgt L st T r Tf) : X mm d pc L (.ref a :: st) T r Tf := x_pure k (fun _ _ _ _ _ _ _ _ _ _ _ _ _ _ _ _ _ hx hb _ _ _ w => lv_ifnonnull hx hb hd ht w)
theorem x_ifnonnullN {off : Int} (hd : decode mm.2.2.1 pc = .ok (.ifnonnull off, 3)) (k : X mm d (pc + 3) L st T r Tf) : X mm d pc L (.null :: st) T r Tf := x_pure k (fun _ _ _ _ _ _ _ _ _ _ _ _ _ _ _ _ _ hx hb _ _ _ w => lv_ifnonnullN hx hb hd w)
theorem x_tableIn {dflt lo hi : Int} {offs : Array Int} {len : Nat} {x : Int32} {off : Int} {tgt : Nat} (hd : decode mm.2.2.1 pc = .ok (.tableswitch dflt lo hi offs, len)) (h1 : ¬ x.toInt < lo) (h2 : ¬ hi < x.toInt) (ho : offs[(x.toInt - lo).toNat]? = some off) (ht : (pc : Int) + off = (tgt : Int)) (k : X mm d tgt L st T r Tf) : X mm d pc L (.int x :: st) T r Tf := x_pure k (fun _ _ _ _ _ _ _ _ _ _ _ _ _ _ _ _ _ hx hb _ _ _ w => lv_tableIn hx hb hd h1 h2 ho ht w)
theorem x_tableOut {dflt lo hi : Int} {offs : Array Int} {len : Nat} {x : Int32} {tgt : Nat} (hd : decode mm.2.2.1 pc = .ok (.tableswitch dflt lo hi offs, len)) (h : x.toInt < lo ∨ hi < x.toInt) (ht : (pc : Int) + dflt = (tgt : Int)) (k : X mm d tgt L st T r Tf) : X mm d pc L (.int x :: st) T r Tf := x_pure k (fun _ _ _ _ _ _ _ _ _ _ _ _ _ _ _ _ _ hx hb _ _ _ w => lv_tableOut hx hb hd h ht w)
theorem x_lookup {dflt : Int} {ps : Array (Int × Int)} {len : Nat} {x : Int32} {off : Int} {tgt : Nat} (hd : decode mm.2.2.1 pc = .ok (.lookupswitch dflt ps, len)) (hp : (ps.toList.zip (ps.toList.drop 1)).all (fun (a, next) => a.1 < next.1) = true) (ho : Op.lookupswitch.offset ps.toList dflt x.toInt = off) (ht : (pc : Int) + off = (tgt : Int)) (k : X mm d tgt L st T r Tf) : X mm d pc L (.int x :: st) T r Tf := x_pure k (fun _ _ _ _ _ _ _ _ _ _ _ _ _ _ _ _ _ hx hb _ _ _ w => lv_lookup hx hb hd hp ho ht w)
theorem x_icmp_eqT {x y : Int32} {off : Int} {tgt : Nat} (hd : decode mm.2.2.1 pc = .ok (.if_icmp .eq off, 3)) (ht : (pc : Int) + off = (tgt : Int)) (h : x = y) (k : X mm d tgt L st T r Tf) : X mm d pc L (.int y :: .int x :: st) T r Tf := x_pure k (fun _ _ _ _ _ _ _ _ _ _ _ _ _ _ _ _ _ hx hb _ _ _ w => lv_icmp_eq hx hb hd ht (fun _ => w) (fun hn => absurd h hn))
theorem x_icmp_eqF {x y : Int32} {off : Int} {tgt : Nat} (hd : decode mm.2.2.1 pc = .ok (.if_icmp .eq off, 3)) (ht : (pc : Int) + off = (tgt : Int)) (h : ¬ x = y) (k : X mm d (pc + 3) L st T r Tf) : X mm d pc L (.int y :: .int x :: st) T r Tf := x_pure k (fun _ _ _ _ _ _ _ _ _ _ _ _ _ _ _ _ _ hx hb _ _ _ w => lv_icmp_eq hx hb hd ht (fun hn => absurd hn h) (fun _ => w))
theorem x_icmp_eq {x y : Int32} {off : Int} {tgt : Nat} (hd : decode mm.2.2.1 pc = .ok (.if_icmp .eq off, 3)) (ht : (pc : Int) + off = (tgt : Int)) (kt : x = y → X mm d tgt L st T r Tf) (kf : ¬ x = y → X mm d (pc + 3) L st T r Tf) : X mm d pc L (.int y :: .int x :: st) T r Tf := by
  by_cases h : x = y
  · exact x_icmp_eqT hd ht h (kt h)
  · exact x_icmp_eqF hd ht h (kf h)
theorem x_if_eqT {x : Int32} {off : Int} {tgt : Nat} (hd : decode mm.2.2.1 pc = .ok (.ifCond .eq off, 3)) (ht : (pc : Int) + off = (tgt : Int)) (h : x = 0) (k : X mm d tgt L st T r Tf) : X mm d pc L (.int x :: st) T r Tf := x_pure k (fun _ _ _ _ _ _ _ _ _ _ _ _ _ _ _ _ _ hx hb _ _ _ w => lv_if_eq hx hb hd ht (fun _ => w) (fun hn => absurd h hn))
theorem x_if_eqF {x : Int32} {off : Int} {tgt : Nat} (hd : decode mm.2.2.1 pc = .ok (.ifCond .eq off, 3)) (ht : (pc : Int) + off = (tgt : Int)) (h : ¬ x = 0) (k : X mm d (pc + 3) L st T r Tf) : X mm d pc L (.int x :: st) T r Tf := x_pure k (fun _ _ _ _ _ _ _ _ _ _ _ _ _ _ _ _ _ hx hb _ _ _ w => lv_if_eq hx hb hd ht (fun hn => absurd hn h) (fun _ => w))
theorem x_if_eq {x : Int32} {off : Int} {tgt : Nat} (hd : decode mm.2.2.1 pc = .ok (.ifCond .eq off, 3)) (ht : (pc : Int) + off = (tgt : Int)) (kt : x = 0 → X mm d tgt L st T r Tf) (kf : ¬ x = 0 → X mm d (pc + 3) L st T r Tf) : X mm d pc L (.int x :: st) T r Tf := by
  by_cases h : x = 0
  · exact x_if_eqT hd ht h (kt h)
  · exact x_if_eqF hd ht h (kf h)
theorem x_icmp_neT {x y : Int32} {off : Int} {tgt : Nat} (hd : decode mm.2.2.1 pc = .ok (.if_icmp .ne off, 3)) (ht : (pc : Int) + off = (tgt : Int)) (h : ¬ x = y) (k : X mm d tgt L st T r Tf) : X mm d pc L (.int y :: .int x :: st) T r Tf := x_pure k (fun _ _ _ _ _ _ _ _ _ _ _ _ _ _ _ _ _ hx hb _ _ _ w => lv_icmp_ne hx hb hd ht (fun _ => w) (fun hn => absurd hn h))
theorem x_icmp_neF {x y : Int32} {off : Int} {tgt : Nat} (hd : decode mm.2.2.1 pc = .ok (.if_icmp .ne off, 3)) (ht : (pc : Int) + off = (tgt : Int)) (h : x = y) (k : X mm d (pc + 3) L st T r Tf) : X mm d pc L (.int y :: .int x :: st) T r Tf := x_pure k (fun _ _ _ _ _ _ _ _ _ _ _ _ _ _ _ _ _ hx hb _ _ _ w => lv_icmp_ne hx hb hd ht (fun hn => absurd h hn) (fun _ => w))
theorem x_icmp_ne {x y : Int32} {off : Int} {tgt : Nat} (hd : decode mm.2.2.1 pc = .ok (.if_icmp .ne off, 3)) (ht : (pc : Int) + off = (tgt : Int)) (kt : ¬ x = y → X mm d tgt L st T r Tf) (kf : x = y → X mm d (pc + 3) L st T r Tf) : X mm d pc L (.int y :: .int x :: st) T r Tf := by
  by_cases h : x = y
  · exact x_icmp_neF hd ht h (kf h)
  · exact x_icmp_neT hd ht h (kt h)
theorem x_if_neT {x : Int32} {off : Int} {tgt : Nat} (hd : decode mm.2.2.1 pc = .ok (.ifCond .ne off, 3)) (ht : (pc : Int) + off = (tgt : Int)) (h : ¬ x = 0) (k : X mm d tgt L st T r Tf) : X mm d pc L (.int x :: st) T r Tf := x_pure k (fun _ _ _ _ _ _ _ _ _ _ _ _ _ _ _ _ _ hx hb _ _ _ w => lv_if_ne hx hb hd ht (fun _ => w) (fun hn => absurd hn h))
theorem x_if_neF {x : Int32} {off : Int} {tgt : Nat} (hd : decode mm.2.2.1 pc = .ok (.ifCond .ne off, 3)) (ht : (pc : Int) + off = (tgt : Int)) (h : x = 0) (k : X mm d (pc + 3) L st T r Tf) : X mm d pc L (.int x :: st) T r Tf := x_pure k (fun _ _ _ _ _ _ _ _ _ _ _ _ _ _ _ _ _ hx hb _ _ _ w => lv_if_ne hx hb hd ht (fun hn => absurd h hn) (fun _ => w))
theorem x_if_ne {x : Int32} {off : Int} {tgt : Nat} (hd : decode mm.2.2.1 pc = .ok (.ifCond .ne off, 3)) (ht : (pc : Int) + off = (tgt : Int)) (kt : ¬ x = 0 → X mm d tgt L st T r Tf) (kf : x = 0 → X mm d (pc + 3) L st T r Tf) : X mm d pc L (.int x :: st) T r Tf := by
  by_cases h : x = 0
  · exact x_if_neF hd ht h (kf h)
  · exact x_if_neT hd ht h (kt h)
theorem x_icmp_ltT {x y : Int32} {off : Int} {tgt : Nat} (hd : decode mm.2.2.1 pc = .ok (.if_icmp .lt off, 3)) (ht : (pc : Int) + off = (tgt : Int)) (h : x < y) (k : X mm d tgt L st T r Tf) : X mm d pc L (.int y :: .int x :: st) T r Tf := x_pure k (fun _ _ _ _ _ _ _ _ _ _ _ _ _ _ _ _ _ hx hb _ _ _ w => lv_icmp_lt hx hb hd ht (fun _ => w) (fun hn => absurd h hn))
theorem x_icmp_ltF {x y : Int32} {off : Int} {tgt : Nat} (hd : decode mm.2.2.1 pc = .ok (.if_icmp .lt off, 3)) (ht : (pc : Int) + off = (tgt : Int)) (h : ¬ x < y) (k : X mm d (pc + 3) L st T r Tf) : X mm d pc L (.int y :: .int x :: st) T r Tf := x_pure k (fun _ _ _ _ _ _ _ _ _ _ _ _ _ _ _ _ _ hx hb _ _ _ w => lv_icmp_lt hx hb hd ht (fun hn => absurd hn h) (fun _ => w))
theorem x_icmp_lt {x y : Int32} {off : Int} {tgt : Nat} (hd : decode mm.2.2.1 pc = .ok (.if_icmp .lt off, 3)) (ht : (pc : Int) + off = (tgt : Int)) (kt : x < y → X mm d tgt L st T r Tf) (kf : ¬ x < y → X mm d (pc + 3) L st T r Tf) : X mm d pc L (.int y :: .int x :: st) T r Tf := by
  by_cases h : x < y
  · exact x_icmp_ltT hd ht h (kt h)
  · exact x_icmp_ltF hd ht h (kf h)
theorem x_if_ltT {x : Int32} {off : Int} {tgt : Nat} (hd : decode mm.2.2.1 pc = .ok (.ifCond .lt off, 3)) (ht : (pc : Int) + off = (tgt : Int)) (h : x < 0) (k : X mm d tgt L st T r Tf) : X mm d pc L (.int x :: st) T r Tf := x_pure k (fun _ _ _ _ _ _ _ _ _ _ _ _ _ _ _ _ _ hx hb _ _ _ w => lv_if_lt hx hb hd ht (fun _ => w) (fun hn => absurd h hn))
theorem x_if_ltF {x : Int32} {off : Int} {tgt : Nat} (hd : decode mm.2.2.1 pc = .ok (.ifCond .lt off, 3)) (ht : (pc : Int) + off = (tgt : Int)) (h : ¬ x < 0) (k : X mm d (pc + 3) L st T r Tf) : X mm d pc L (.int x :: st) T r Tf := x_pure k (fun _ _ _ _ _ _ _ _ _ _ _ _ _ _ _ _ _ hx hb _ _ _ w => lv_if_lt hx hb hd ht (fun hn => absurd hn h) (fun _ => w))
theorem x_if_lt {x : Int32} {off : Int} {tgt : Nat} (hd : decode mm.2.2.1 pc = .ok (.ifCond .lt off, 3)) (ht : (pc : Int) + off = (tgt : Int)) (kt : x < 0 → X mm d tgt L st T r Tf) (kf : ¬ x < 0 → X mm d (pc + 3) L st T r Tf) : X mm d pc L (.int x :: st) T r Tf := by
  by_cases h : x < 0
  · exact x_if_ltT hd ht h (kt h)
  · exact x_if_ltF hd ht h (kf h)
theorem x_icmp_geT {x y : Int32} {off : Int} {tgt : Nat} (hd : decode mm.2.2.1 pc = .ok (.if_icmp .ge off, 3)) (ht : (pc : Int) + off = (tgt : Int)) (h : y ≤ x) (k : X mm d tgt L st T r Tf) : X mm d pc L (.int y :: .int x :: st) T r Tf := x_pure k (fun _ _ _ _ _ _ _ _ _ _ _ _ _ _ _ _ _ hx hb _ _ _ w => lv_icmp_ge hx hb hd ht (fun _ => w) (fun hn => absurd h hn))
theorem x_icmp_geF {x y : Int32} {off : Int} {tgt : Nat} (hd : decode mm.2.2.1 pc = .ok (.if_icmp .ge off, 3)) (ht : (pc : Int) + off = (tgt : Int)) (h : ¬ y ≤ x) (k : X mm d (pc + 3) L st T r Tf) : X mm d pc L (.int y :: .int x :: st) T r Tf := x_pure k (fun _ _ _ _ _ _ _ _ _ _ _ _ _ _ _ _ _ hx hb _ _ _ w => lv_icmp_ge hx hb hd ht (fun hn => absurd hn h) (fun _ => w))
theorem x_icmp_ge {x y : Int32} {off : Int} {tgt : Nat} (hd : decode mm.2.2.1 pc = .ok (.if_icmp .ge off, 3)) (ht : (pc : Int) + off = (tgt : Int)) (kt : y ≤ x → X mm d tgt L st T r Tf) (kf : ¬ y ≤ x → X mm d (pc + 3) L st T r Tf) : X mm d pc L (.int y :: .int x :: st) T r Tf := by
  by_cases h : y ≤ x
  · exact x_icmp_geT hd ht h (kt h)
  · exact x_icmp_geF hd ht h (kf h)
theorem x_if_geT {x : Int32} {off : Int} {tgt : Nat} (hd : decode mm.2.2.1 pc = .ok (.ifCond .ge off, 3)) (ht : (pc : Int) + off = (tgt : Int)) (h : 0 ≤ x) (k : X mm d tgt L st T r Tf) : X mm d pc L (.int x :: st) T r Tf := x_pure k (fun _ _ _ _ _ _ _ _ _ _ _ _ _ _ _ _ _ hx hb _ _ _ w => lv_if_ge hx hb hd ht (fun _ => w) (fun hn => absurd h hn))
theorem x_if_geF {x : Int32} {off : Int} {tgt : Nat} (hd : decode mm.2.2.1 pc = .ok (.ifCond .ge off, 3)) (ht : (pc : Int) + off = (tgt : Int)) (h : ¬ 0 ≤ x) (k : X mm d (pc + 3) L st T r Tf) : X mm d pc L (.int x :: st) T r Tf := x_pure k (fun _ _ _ _ _ _ _ _ _ _ _ _ _ _ _ _ _ hx hb _ _ _ w => lv_if_ge hx hb hd ht (fun hn => absurd hn h) (fun _ => w))
theorem x_if_ge {x : Int32} {off : Int} {tgt : Nat} (hd : decode mm.2.2.1 pc = .ok (.ifCond .ge off, 3)) (ht : (pc : Int) + off = (tgt : Int)) (kt : 0 ≤ x → X mm d tgt L st T r Tf) (kf : ¬ 0 ≤ x → X mm d (pc + 3) L st T r Tf) : X mm d pc L (.int x :: st) T r Tf := by
  by_cases h : 0 ≤ x
  · exact x_if_geT hd ht h (kt h)
  · exact x_if_geF hd ht h (kf h)
theorem x_icmp_gtT {x y : Int32} {off : Int} {tgt : Nat} (hd : decode mm.2.2.1 pc = .ok (.if_icmp .gt off, 3)) (ht : (pc : Int) + off = (tgt : Int)) (h : y < x) (k : X mm d tgt L st T r Tf) : X mm d pc L (.int y :: .int x :: st) T r Tf := x_pure k (fun _ _ _ _ _ _ _ _ _ _ _ _ _ _ _ _ _ hx hb _ _ _ w => lv_icmp_gt hx hb hd ht (fun _ => w) (fun hn => absurd h hn))
theorem x_icmp_gtF {x y : Int32} {off : Int} {tgt : Nat} (hd : decode mm.2.2.1 pc = .ok (.if_icmp .gt off, 3)) (ht : (pc : Int) + off = (tgt : Int)) (h : ¬ y < x) (k : X mm d (pc + 3) L st T r Tf) : X mm d pc L (.int y :: .int x :: st) T r Tf := x_pure k (fun _ _ _ _ _ _ _ _ _ _ _ _ _ _ _ _ _ hx hb _ _ _ w => lv_icmp_gt hx hb hd ht (fun hn => absurd hn h) (fun _ => w))
theorem x_icmp_gt {x y : Int32} {off : Int} {tgt : Nat} (hd : decode mm.2.2.1 pc = .ok (.if_icmp .gt off, 3)) (ht : (pc : Int) + off = (tgt : Int)) (kt : y < x → X mm d tgt L st T r Tf) (kf : ¬ y < x → X mm d (pc + 3) L st T r Tf) : X mm d pc L (.int y :: .int x :: st) T r Tf := by
  by_cases h : y < x
  · exact x_icmp_gtT hd ht h (kt h)
  · exact x_icmp_gtF hd ht h (kf h)
theorem x_if_gtT {x : Int32} {off : Int} {tgt : Nat} (hd : decode mm.2.2.1 pc = .ok (.ifCond .gt off, 3)) (ht : (pc : Int) + off = (tgt : Int)) (h : 0 < x) (k : X mm d tgt L st T r Tf) : X mm d pc L (.int x :: st) T r Tf := x_pure k (fun _ _ _ _ _ _ _ _ _ _ _ _ _ _ _ _ _ hx hb _ _ _ w => lv_if_gt hx hb hd ht (fun _ => w) (fun hn => absurd h hn))
theorem x_if_gtF {x : Int32} {off : Int} {tgt : Nat} (hd : decode mm.2.2.1 pc = .ok (.ifCond .gt off, 3)) (ht : (pc : Int) + off = (tgt : Int)) (h : ¬ 0 < x) (k : X mm d (pc + 3) L st T r Tf) : X mm d pc L (.int x :: st) T r Tf := x_pure k (fun _ _ _ _ _ _ _ _ _ _ _ _ _ _ _ _ _ hx hb _ _ _ w => lv_if_gt hx hb hd ht (fun hn => absurd hn h) (fun _ => w))
theorem x_if_gt {x : Int32} {off : Int} {tgt : Nat} (hd : decode mm.2.2.1 pc = .ok (.ifCond .gt off, 3)) (ht : (pc : Int) + off = (tgt : Int)) (kt : 0 < x → X mm d tgt L st T r Tf) (kf : ¬ 0 < x → X mm d (pc + 3) L st T r Tf) : X mm d pc L (.int x :: st) T r Tf := by
  by_cases h : 0 < x
  · exact x_if_gtT hd ht h (kt h)
  · exact x_if_gtF hd ht h (kf h)
theorem x_icmp_leT {x y : Int32} {off : Int} {tgt : Nat} (hd : decode mm.2.2.1 pc = .ok (.if_icmp .le off, 3)) (ht : (pc : Int) + off = (tgt : Int)) (h : x ≤ y) (k : X mm d tgt L st T r Tf) : X mm d pc L (.int y :: .int x :: st) T r Tf := x_pure k (fun _ _ _ _ _ _ _ _ _ _ _ _ _ _ _ _ _ hx hb _ _ _ w => lv_icmp_le hx hb hd ht (fun _ => w) (fun hn => absurd h hn))
theorem x_icmp_leF {x y : Int32} {off : Int} {tgt : Nat} (hd : decode mm.2.2.1 pc = .ok (.if_icmp .le off, 3)) (ht : (pc : Int) + off = (tgt : Int)) (h : ¬ x ≤ y) (k : X mm d (pc + 3) L st T r Tf) : X mm d pc L (.int y :: .int x :: st) T r Tf := x_pure k (fun _ _ _ _ _ _ _ _ _ _ _ _ _ _ _ _ _ hx hb _ _ _ w => lv_icmp_le hx hb hd ht (fun hn => absurd hn h) (fun _ => w))
theorem x_icmp_le {x y : Int32} {off : Int} {tgt : Nat} (hd : decode mm.2.2.1 pc = .ok (.if_icmp .le off, 3)) (ht : (pc : Int) + off = (tgt : Int)) (kt : x ≤ y → X mm d tgt L st T r Tf) (kf : ¬ x ≤ y → X mm d (pc + 3) L st T r Tf) : X mm d pc L (.int y :: .int x :: st) T r Tf := by
  by_cases h : x ≤ y
  · exact x_icmp_leT hd ht h (kt h)
  · exact x_icmp_leF hd ht h (kf h)
theorem x_if_leT {x : Int32} {off : Int} {tgt : Nat} (hd : decode mm.2.2.1 pc = .ok (.ifCond .le off, 3)) (ht : (pc : Int) + off = (tgt : Int)) (h : x ≤ 0) (k : X mm d tgt L st T r Tf) : X mm d pc L (.int x :: st) T r Tf := x_pure k (fun _ _ _ _ _ _ _ _ _ _ _ _ _ _ _ _ _ hx hb _ _ _ w => lv_if_le hx hb hd ht (fun _ => w) (fun hn => absurd h hn))
theorem x_if_leF {x : Int32} {off : Int} {tgt : Nat} (hd : decode mm.2.2.1 pc = .ok (.ifCond .le off, 3)) (ht : (pc : Int) + off = (tgt : Int)) (h : ¬ x ≤ 0) (k : X mm d (pc + 3) L st T r Tf) : X mm d pc L (.int x :: st) T r Tf := x_pure k (fun _ _ _ _ _ _ _ _ _ _ _ _ _ _ _ _ _ hx hb _ _ _ w => lv_if_le hx hb hd ht (fun hn => absurd hn h) (fun _ => w))
theorem x_if_le {x : Int32} {off : Int} {tgt : Nat} (hd : decode mm.2.2.1 pc = .ok (.ifCond .le off, 3)) (ht : (pc : Int) + off = (tgt : Int)) (kt : x ≤ 0 → X mm d tgt L st T r Tf) (kf : ¬ x ≤ 0 → X mm d (pc + 3) L st T r Tf) : X mm d pc L (.int x :: st) T r Tf := by
  by_cases h : x ≤ 0
  · exact x_if_leT hd ht h (kt h)
  · exact x_if_leF hd ht h (kf h)
end Rules
end
section
/-! THE ENGINE, part b: locals, fields, rows, new cells, returns -/
def stL (L : List (Nat × Value)) (i : Nat) (v : Value) : List (Nat × Value) := (i, v) :: L.filter (fun q => !(q.1 == i) && !(q.1 + 1 == i && q.2.category == 2))
def stL2 (L : List (Nat × Value)) (i : Nat) (v : Value) : List (Nat × Value) := (i, v) :: L.filter (fun q => !(q.1 == i) && (!(q.1 == i + 1) && !(q.1 + 1 == i && q.2.category == 2)))
theorem stL_map (E : EV) (L : List (Nat × Value)) (i : Nat) (v : Value) : (i, rv E v) :: (L.map (fun q => (q.1, rv E q.2))).filter (fun q => !(q.1 == i) && !(q.1 + 1 == i && q.2.category == 2)) = (stL L i v).map (fun q => (q.1, rv E q.2)) := by
  simp only [stL, List.map_cons, List.filter_map, List.cons.injEq, true_and]
  congr 1
  apply List.filter_congr
  intro q _
  simp only [Function.comp, rv_cat]
theorem stL2_map (E : EV) (L : List (Nat × Value)) (i : Nat) (v : Value) : (i, rv E v) :: (L.map (fun q => (q.1, rv E q.2))).filter (fun q => !(q.1 == i) && (!(q.1 == i + 1) && !(q.1 + 1 == i && q.2.category == 2))) = (stL2 L i v).map (fun q => (q.1, rv E q.2)) := by
  simp only [stL2, List.map_cons, List.filter_map, List.cons.injEq, true_and]
  congr 1
  apply List.filter_congr
  intro q _
  simp only [Function.comp, rv_cat]
section Rules2
variable {mm : MR} {d pc pc' : Nat} {L L' : List (Nat × Value)} {st st' : List Value} {T Tf : TH} {r : Option Value}
theorem x_store (k : X mm d pc' L' st' T r Tf)
    (h : ∀ (E : EV) (p : Program) (l : Launch) (e : Env) (R : Room) (s : State) (m : MethodId) (args : Array Value) (below : List Frame) (meth : Method) (c : Code) (H : Heap) (locs : List Loc) (ls : Array Slot) (cells slots : Nat) (Z : State → Prop), p.tables.exec = Jvm.exec → c.code = mm.2.2.1 → Rl E mm L ls →
      (∀ ls' : Array Slot, Rl E mm L' ls' → W p l e R s m args below meth c H locs cells slots Z (F0 m pc' ls' (st'.map (rv E)))) → W p l e R s m args below meth c H locs cells slots Z (F0 m pc ls (st.map (rv E)))) : X mm d pc L st T r Tf :=
  ⟨k.1, fun E p l e R s m args below meth c H locs ls n0 s0 Z C h1 hl hp hs hz => h E p l e R s m args below meth c H locs ls _ _ Z C.1 C.2.1 hl (fun ls' hl' => k.2 E p l e R s m args below meth c H locs ls' n0 s0 Z C h1 hl' hp hs hz)⟩
theorem x_istore_n {q : Fin 4} {i : Nat} {x : Int32} (hd : decode mm.2.2.1 pc = .ok (.istore_n q, 1)) (hq : (q : Nat) = i) (hi : i < mm.2.2.2.1) (hl : stL L i (.int x) = L') (k : X mm d (pc + 1) L' st T r Tf) : X mm d pc L (.int x :: st) T r Tf := x_store k (fun E _ _ _ _ _ _ _ _ _ _ _ _ _ _ _ _ hx hb hls w => lv_istore_n hx hb hd hq hls hi (stL_map E L i (.int x)) (fun ls' hl' => w ls' (hl ▸ hl')))
theorem x_lstore_n {q : Fin 4} {i : Nat} {x : Int64} (hd : decode mm.2.2.1 pc = .ok (.lstore_n q, 1)) (hq : (q : Nat) = i) (hi : i + 1 < mm.2.2.2.1) (hl : stL2 L i (.long x) = L') (k : X mm d (pc + 1) L' st T r Tf) : X mm d pc L (.long x :: st) T r Tf := x_store k (fun E _ _ _ _ _ _ _ _ _ _ _ _ _ _ _ _ hx hb hls w => lv_lstore_n hx hb hd hq hls hi (stL2_map E L i (.long x)) (fun ls' hl' => w ls' (hl ▸ hl')))
theorem x_astore_n {q : Fin 4} {i : Nat} {a : Nat} (hd : decode mm.2.2.1 pc = .ok (.astore_n q, 1)) (hq : (q : Nat) = i) (hi : i < mm.2.2.2.1) (hl : stL L i (.ref a) = L') (k : X mm d (pc + 1) L' st T r Tf) : X mm d pc L (.ref a :: st) T r Tf := x_store k (fun E _ _ _ _ _ _ _ _ _ _ _ _ _ _ _ _ hx hb hls w => lv_astore_n hx hb hd hq hls hi (stL_map E L i (.ref a)) (fun ls' hl' => w ls' (hl ▸ hl')))
theorem x_astore_nN {q : Fin 4} {i : Nat} (hd : decode mm.2.2.1 pc = .ok (.astore_n q, 1)) (hq : (q : Nat) = i) (hi : i < mm.2.2.2.1) (hl : stL L i (.null) = L') (k : X mm d (pc + 1) L' st T r Tf) : X mm d pc L (.null :: st) T r Tf := x_store k (fun E _ _ _ _ _ _ _ _ _ _ _ _ _ _ _ _ hx hb hls w => lv_astore_nN hx hb hd hq hls hi (stL_map E L i (.null)) (fun ls' hl' => w ls' (hl ▸ hl')))
theorem x_istore {i : Nat} {x : Int32} (hd : decode mm.2.2.1 pc = .ok (.istore i, 2)) (hi : i < mm.2.2.2.1) (hl : stL L i (.int x) = L') (k : X mm d (pc + 2) L' st T r Tf) : X mm d pc L (.int x :: st) T r Tf := x_store k (fun E _ _ _ _ _ _ _ _ _ _ _ _ _ _ _ _ hx hb hls w => lv_istore hx hb hd hls hi (stL_map E L i (.int x)) (fun ls' hl' => w ls' (hl ▸ hl')))
theorem x_lstore {i : Nat} {x : Int64} (hd : decode mm.2.2.1 pc = .ok (.lstore i, 2)) (hi : i + 1 < mm.2.2.2.1) (hl : stL2 L i (.long x) = L') (k : X mm d (pc + 2) L' st T r Tf) : X mm d pc L (.long x :: st) T r Tf := x_store k (fun E _ _ _ _ _ _ _ _ _ _ _ _ _ _ _ _ hx hb hls w => lv_lstore hx hb hd hls hi (stL2_map E L i (.long x)) (fun ls' hl' => w ls' (hl ▸ hl')))
theorem x_astore {i : Nat} {a : Nat} (hd : decode mm.2.2.1 pc = .ok (.astore i, 2)) (hi : i < mm.2.2.2.1) (hl : stL L i (.ref a) = L') (k : X mm d (pc + 2) L' st T r Tf) : X mm d pc L (.ref a :: st) T r Tf := x_store k (fun E _ _ _ _ _ _ _ _ _ _ _ _ _ _ _ _ hx hb hls w => lv_astore hx hb hd hls hi (stL_map E L i (.ref a)) (fun ls' hl' => w ls' (hl ▸ hl')))
theorem x_astoreN {i : Nat} (hd : decode mm.2.2.1 pc = .ok (.astore i, 2)) (hi : i < mm.2.2.2.1) (hl : stL L i (.null) = L') (k : X mm d (pc + 2) L' st T r Tf) : X mm d pc L (.null :: st) T r Tf := x_store k (fun E _ _ _ _ _ _ _ _ _ _ _ _ _ _ _ _ hx hb hls w => lv_astoreN hx hb hd hls hi (stL_map E L i (.null)) (fun ls' hl' => w ls' (hl ▸ hl')))
theorem x_iinc {i : Nat} {n : Int} {x v : Int32} (hd : decode mm.2.2.1 pc = .ok (.iinc i n, 3)) (j : Nat) (hj : L[j]? = some (i, .int x)) (hv : x + Int32.ofInt n = v) (hi : i < mm.2.2.2.1) (hl : stL L i (.int v) = L') (k : X mm d (pc + 3) L' st T r Tf) : X mm d pc L st T r Tf := x_store k (fun E _ _ _ _ _ _ _ _ _ _ _ _ _ _ _ _ hx hb hls w => lv_iinc hx hb hd hls (k := j) (by rw [List.getElem?_map, hj]; rfl) hv hi (stL_map E L i (.int v)) (fun ls' hl' => w ls' (hl ▸ hl')))
/-! fields -/
def clR (ci : Nat) : String := match ci with
  | 0 => RX0 | 1 => RX1 | 2 => RX2 | 3 => RX3 | 4 => RX4 | 5 => RX5 | 6 => RX6 | 7 => RX7 | _ => RX8
def clT (ci : Nat) : u_T := match ci with
  | 0 => TX0 | 1 => TX1 | 2 => TX2 | 3 => TX3 | 4 => TX4 | 5 => TX5 | 6 => TX6 | 7 => TX7 | _ => TX8
def clY (ci : Nat) : Nat → FieldType := match ci with
  | 0 => tyX0 | 1 => tyX1 | 2 => tyX2 | 3 => tyX3 | 4 => tyX4 | 5 => tyX5 | 6 => tyX6 | 7 => tyX7 | _ => tyX8
theorem cl_ok (ci : Nat) (h : ci < 9) : vwCl[ci]? = some (clR ci, clT ci, nfd ci) ∧ (∀ w ∈ u_ws (clR ci) (clT ci) (nfd ci), w ∈ lw_g) ∧ (∀ k, k < nfd ci → parseFieldDescriptor (clT ci k).2.2.1 = some (clY ci k)) ∧ ∀ a, a < nfd ci → ∀ b, b < nfd ci → a ≠ b → (clT ci a).2.1 ≠ (clT ci b).2.1 := by
  match ci, h with
  | 0, _ => exact ⟨rfl, inGs inX0 (by decide +kernel), tyX0_ok, nmX0⟩
  | 1, _ => exact ⟨rfl, inGs inX1 (by decide +kernel), tyX1_ok, nmX1⟩
  | 2, _ => exact ⟨rfl, inGs inX2 (by decide +kernel), tyX2_ok, nmX2⟩
  | 3, _ => exact ⟨rfl, inGs inX3 (by decide +kernel), tyX3_ok, nmX3⟩
  | 4, _ => exact ⟨rfl, inGs inX4 (by decide +kernel), tyX4_ok, nmX4⟩
  | 5, _ => exact ⟨rfl, inGs inX5 (by decide +kernel), tyX5_ok, nmX5⟩
  | 6, _ => exact ⟨rfl, inGs inX6 (by decide +kernel), tyX6_ok, nmX6⟩
  | 7, _ => exact ⟨rfl, inGs inX7 (by decide +kernel), tyX7_ok, nmX7⟩
  | 8, _ => exact ⟨rfl, inGs inX8 (by decide +kernel), tyX8_ok, nmX8⟩
theorem cellE_o (E : EV) {T : TH} {a ci : Nat} (h : e_K T a = ci + 1) (hc : ci < 9) : cellE E T a = .inr (ci, (List.range (nfd ci)).map (fun k => rv E (gvl T ci k a))) := by
  unfold cellE
  rw [if_pos (by omega), h]
  rfl
theorem cellE_a (E : EV) {T : TH} {a k : Nat} (h : e_K T a = k) (hc : 20 ≤ k) : cellE E T a = .inl (kCl E k, e_len T a, kDat E T k a) := by
  unfold cellE
  rw [if_neg (by omega), h]
/-- the field's link -/
def FLd (own : String) (idx ci k : Nat) : Prop := ci < 9 ∧ k < nfd ci ∧ Cond.fieldLink own idx (clT ci k).1 (clT ci k).2.1 (clT ci k).2.2.1 ∈ lw_g
/-- an instruction that reads the heap -/
theorem x_read (k : X mm d pc' L st' T r Tf)
    (h : ∀ (E : EV) (p : Program) (l : Launch) (e : Env) (R : Room) (s : State) (m : MethodId) (args : Array Value) (below : List Frame) (meth : Method) (c : Code) (H : Heap) (locs : List Loc) (ls : Array Slot) (cells slots : Nat) (Z : State → Prop), p.tables.exec = Jvm.exec → c.code = mm.2.2.1 → s.vm.findClass mm.1 = some m.cls → (∀ w ∈ lw_g, w.before args s = true) → va_K E.2.2.1 vwCl (eTys E) s → Hp E T H →
      W p l e R s m args below meth c H locs cells slots Z (F0 m pc' ls (st'.map (rv E))) → W p l e R s m args below meth c H locs cells slots Z (F0 m pc ls (st.map (rv E)))) : X mm d pc L st T r Tf :=
  ⟨k.1, fun E p l e R s m args below meth c H locs ls n0 s0 Z C h1 hl hp hs hz => h E p l e R s m args below meth c H locs ls _ _ Z C.1 C.2.1 C.2.2.2.2.2.1 C.2.2.2.2.2.2.1 C.2.2.2.2.2.2.2.2.1.1 hp (k.2 E p l e R s m args below meth c H locs ls n0 s0 Z C h1 hl hp hs hz)⟩
theorem x_get {idx ci k a : Nat} {v : Value} (hd : decode mm.2.2.1 pc = .ok (.getfield idx, 3)) (hf : FLd mm.1 idx ci k) (hK : e_K T a = ci + 1) (hv : gvl T ci k a = v) (kk : X mm d (pc + 3) L (v :: st) T r Tf) : X mm d pc L (.ref a :: st) T r Tf :=
  x_read kk (fun E p l e R s m args below meth c H locs ls cells slots Z hx hb ho hts hKK hp w => by
    obtain ⟨h1, h2, h3⟩ := hf
    obtain ⟨g1, g2, -, -⟩ := cl_ok ci h1
    refine va_get (v := rv E v) hx hb hts g2 ho hKK hp.2.1 a (by rw [wsE_at E T (hp.lt (by omega)), cellE_o E hK h1]) g1 k h2 (hts _ h3) (fun _ h9 => h9) (by simp [h2, hv]) hd w)
theorem nI_ok {E : EV} {H : Heap} (hp : Hp E T H) {a j : Nat} {i : Int32} (hi : i = nI j) (hj : j < e_len T a) : vp_in i (e_len T a) ∧ i.toNatClampNeg = j := by
  subst hi
  have := hp.2.2.2 a
  exact ⟨vp_in_nI hj this, nI_clamp (by omega)⟩
theorem x_iald {a j : Nat} {i x : Int32} (hd : decode mm.2.2.1 pc = .ok (.iaload, 1)) (hK : e_K T a = 20) (hi : i = nI j) (hj : j < e_len T a) (hv : e_ai T a j = x) (kk : X mm d (pc + 1) L (.int x :: st) T r Tf) : X mm d pc L (.int i :: .ref a :: st) T r Tf :=
  x_read kk (fun E p l e R s m args below meth c H locs ls cells slots Z hx hb ho hts hKK hp w => by
    obtain ⟨h1, h2⟩ := nI_ok hp hi hj
    refine va_iald hx hb hKK hp.2.1 a 0 (by rw [wsE_at E T (hp.lt (by omega)), cellE_a E hK (by omega)]; rfl) rfl h1 hd ?_
    rw [h2, hv]; exact w)
theorem x_bald {a j : Nat} {i x : Int32} (hd : decode mm.2.2.1 pc = .ok (.baload, 1)) (hK : e_K T a = 21) (hi : i = nI j) (hj : j < e_len T a) (hv : e_ai T a j = x) (kk : X mm d (pc + 1) L (.int x :: st) T r Tf) : X mm d pc L (.int i :: .ref a :: st) T r Tf :=
  x_read kk (fun E p l e R s m args below meth c H locs ls cells slots Z hx hb ho hts hKK hp w => by
    obtain ⟨h1, h2⟩ := nI_ok hp hi hj
    refine va_bald hx hb hKK hp.2.1 a 1 (by rw [wsE_at E T (hp.lt (by omega)), cellE_a E hK (by omega)]; rfl) rfl h1 hd ?_
    rw [h2, hv]; exact w)
theorem x_zald {a j : Nat} {i x : Int32} (hd : decode mm.2.2.1 pc = .ok (.baload, 1)) (hK : e_K T a = 22) (hi : i = nI j) (hj : j < e_len T a) (hv : e_ai T a j = x) (kk : X mm d (pc + 1) L (.int x :: st) T r Tf) : X mm d pc L (.int i :: .ref a :: st) T r Tf :=
  x_read kk (fun E p l e R s m args below meth c H locs ls cells slots Z hx hb ho hts hKK hp w => by
    obtain ⟨h1, h2⟩ := nI_ok hp hi hj
    refine va_zald hx hb hKK hp.2.1 a 2 (by rw [wsE_at E T (hp.lt (by omega)), cellE_a E hK (by omega)]; rfl) rfl h1 hd ?_
    rw [h2, hv]; exact w)
theorem x_lald {a j : Nat} {i : Int32} {x : Int64} (hd : decode mm.2.2.1 pc = .ok (.laload, 1)) (hK : e_K T a = 23) (hi : i = nI j) (hj : j < e_len T a) (hv : e_al T a j = x) (kk : X mm d (pc + 1) L (.long x :: st) T r Tf) : X mm d pc L (.int i :: .ref a :: st) T r Tf :=
  x_read kk (fun E p l e R s m args below meth c H locs ls cells slots Z hx hb ho hts hKK hp w => by
    obtain ⟨h1, h2⟩ := nI_ok hp hi hj
    refine va_lald hx hb hKK hp.2.1 a 3 (by rw [wsE_at E T (hp.lt (by omega)), cellE_a E hK (by omega)]; rfl) rfl h1 hd ?_
    rw [h2, hv]; exact w)
theorem x_aald {a j : Nat} {i : Int32} {v : Value} (hd : decode mm.2.2.1 pc = .ok (.aaload, 1)) (hK : e_K T a = 24) (hi : i = nI j) (hj : j < e_len T a) (hv : va_rf (e_ar T a j) = v) (kk : X mm d (pc + 1) L (v :: st) T r Tf) : X mm d pc L (.int i :: .ref a :: st) T r Tf :=
  x_read kk (fun E p l e R s m args below meth c H locs ls cells slots Z hx hb ho hts hKK hp w => by
    obtain ⟨h1, h2⟩ := nI_ok hp hi hj
    refine va_aldq (f := fun j => (e_ar T a j).map (E.1 + ·)) hx hb hKK hp.2.1 a 4 (by rw [wsE_at E T (hp.lt (by omega)), cellE_a E hK (by omega)]; rfl) rfl h1 hd ?_
    rw [h2, ← rv_rf, hv]; exact w)
def kTy (k : Nat) : FieldType := if k = 20 then .int else if k = 21 then .byte else if k = 22 then .boolean else if k = 23 then .long else .object RX3
theorem eTys_at (E : EV) {k : Nat} (h1 : 20 ≤ k) (h2 : k ≤ 24) : (eTys E)[k - 20]? = some (kCl E k, kTy k) := by
  rcases (show k = 20 ∨ k = 21 ∨ k = 22 ∨ k = 23 ∨ k = 24 by omega) with rfl | rfl | rfl | rfl | rfl <;> rfl
theorem x_alen {a j : Nat} {x : Int32} (hd : decode mm.2.2.1 pc = .ok (.arraylength, 1)) (hK : 20 ≤ e_K T a ∧ e_K T a ≤ 24) (hj : nI (e_len T a) = x) (kk : X mm d (pc + 1) L (.int x :: st) T r Tf) : X mm d pc L (.ref a :: st) T r Tf :=
  x_read kk (fun E p l e R s m args below meth c H locs ls cells slots Z hx hb ho hts hKK hp w =>
    va_alen (x := (e_len T a, kDat E T (e_K T a) a)) hx hb hKK hp.2.1 a (e_K T a - 20) (by rw [wsE_at E T (hp.lt (by omega)), cellE_a E rfl hK.1]) (eTys_at E hK.1 hK.2) hj hd w)
/-- the law's script -/
theorem x_sld {j : Nat} {i x : Int32} {z : UInt32} (hd : decode mm.2.2.1 pc = .ok (.iaload, 1)) (hL : mm.1 = RL) (hs : (e_sc T).1 < 2147483648) (hi : i = nI j) (hj : j < (e_sc T).1) (hv : (e_sc T).2 j = x) (k : X mm d (pc + 1) L (.int x :: st) T r Tf) : X mm d pc L (.int i :: .float z :: st) T r Tf :=
  ⟨k.1, fun E p l e R s m args below meth c H locs ls n0 s0 Z C h1 hl hp hsS hz => by
    obtain ⟨hX, hb1, hb2⟩ := C.2.2.2.2.2.2.2.2.2.2.2 hL
    subst hi
    refine va_sld C.1 C.2.1 hX hb1 hb2 hsS (vp_in_nI hj hs) hd ?_
    rw [nI_clamp (by omega), hv]
    exact k.2 E p l e R s m args below meth c H locs ls n0 s0 Z C h1 hl hp hsS hz⟩
theorem x_slen {z : UInt32} {x : Int32} (hd : decode mm.2.2.1 pc = .ok (.arraylength, 1)) (hL : mm.1 = RL) (hv : nI (e_sc T).1 = x) (k : X mm d (pc + 1) L (.int x :: st) T r Tf) : X mm d pc L (.float z :: st) T r Tf :=
  ⟨k.1, fun E p l e R s m args below meth c H locs ls n0 s0 Z C h1 hl hp hsS hz => by
    obtain ⟨hX, hb1, hb2⟩ := C.2.2.2.2.2.2.2.2.2.2.2 hL
    refine va_slen C.1 C.2.1 hX hb1 hb2 hsS hd ?_
    have w := k.2 E p l e R s m args below meth c H locs ls n0 s0 Z C h1 hl hp hsS hz
    rw [← hv] at w
    exact w⟩
/-! writes -/
theorem Hp_of {E : EV} {T : TH} {H : Heap} (hP : va_P E.2.2.1 vwCl (wsE E T) H) (hn : 0 < e_n T) (hs : H.size ≤ E.1 + e_n T) (hk : ∀ a, e_n T ≤ a → e_K T a = 0) (hl : ∀ a, e_len T a < 2147483648) : Hp E T H := by
  refine ⟨?_, hP, hk, hl⟩
  have h1 := (hP (e_n T - 1) _ (wsE_at E T (a := e_n T - 1) (by omega))).lt
  have h2 : E.1 + (e_n T - 1) < H.size := h1
  omega
theorem x_write {T' : TH} (a : Nat) (hn : e_n T' = e_n T) (hs : e_s T' = e_s T) (hsc : e_sc T' = e_sc T) (hKK : e_K T' = e_K T) (hln : e_len T' = e_len T) (hcell : ∀ E b, b ≠ a → cellE E T' b = cellE E T b) (ha : e_K T a ≠ 0) (k : X mm d pc' L st' T' r Tf)
    (h : ∀ (E : EV) (p : Program) (l : Launch) (e : Env) (R : Room) (s : State) (m : MethodId) (args : Array Value) (below : List Frame) (meth : Method) (c : Code) (H : Heap) (locs : List Loc) (ls : Array Slot) (cells slots : Nat) (Z : State → Prop), p.tables.exec = Jvm.exec → c.code = mm.2.2.1 → s.vm.findClass mm.1 = some m.cls → (∀ w ∈ lw_g, w.before args s = true) → (mm.2.1.name = "<init>" → meth.name = "<init>") → va_K E.2.2.1 vwCl (eTys E) s → Hp E T H → va_S (AA E) s.heap H locs →
      (∀ (H1 : Heap) (locs1 : List Loc), va_P E.2.2.1 vwCl ((wsE E T).set a (E.1 + a, cellE E T' a)) H1 → va_S (AA E) s.heap H1 locs1 → W p l e R s m args below meth c H1 locs1 cells slots Z (F0 m pc' ls (st'.map (rv E)))) → W p l e R s m args below meth c H locs cells slots Z (F0 m pc ls (st.map (rv E)))) : X mm d pc L st T r Tf := by
  refine ⟨⟨by rw [← hn]; exact k.1.1, by rw [← hs]; exact k.1.2.1, by rw [k.1.2.2.1, hsc], k.1.2.2.2⟩, fun E p l e R s m args below meth c H locs ls n0 s0 Z C h1 hl hp hS hz => ?_⟩
  refine h E p l e R s m args below meth c H locs ls _ _ Z C.1 C.2.1 C.2.2.2.2.2.1 C.2.2.2.2.2.2.1 C.2.2.2.2.2.2.2.1 C.2.2.2.2.2.2.2.2.1.1 hp hS (fun H1 locs1 hP1 hS1 => ?_)
  rw [wsE_set E hn rfl (hcell E)] at hP1
  refine W_sz (fun hsz => ?_)
  have hlt := hp.lt ha
  have h0 : s.heap.size = E.1 + n0 := C.2.2.2.2.2.2.2.2.2.1
  have hp1 : Hp E T' H1 := Hp_of hP1 (by omega) (by rw [hn]; omega) (by rw [hn, hKK]; exact hp.2.2.1) (by rw [hln]; exact hp.2.2.2)
  have w := k.2 E p l e R s m args below meth c H1 locs1 ls n0 s0 Z (by rw [Cx, hsc]; exact C) (by rw [hn, hs]; exact h1) hl hp1 hS1 hz
  rw [hn, hs] at w
  exact w
/-- the field's link for a write: type code; not final (or the class's own constructor) -/
def FPd (mm : MR) (idx ci k : Nat) (ty : FieldType) : Prop := FLd mm.1 idx ci k ∧ (clT ci k).2.2.2 = false ∧ clY ci k = ty
def FPf (mm : MR) (idx ci k : Nat) (ty : FieldType) : Prop := FLd mm.1 idx ci k ∧ (clT ci k).2.2.2 = true ∧ clY ci k = ty ∧ mm.2.1.name = "<init>" ∧ (clT ci k).1 = mm.1
theorem fs_set (E : EV) {T T' : TH} {ci k a : Nat} {v : Value} (h : gvl T' ci k a = v) (ho : ∀ j, j ≠ k → gvl T' ci j a = gvl T ci j a) : ((List.range (nfd ci)).map (fun k => rv E (gvl T ci k a))).set k (rv E v) = (List.range (nfd ci)).map (fun k => rv E (gvl T' ci k a)) := by
  apply List.ext_getElem?
  intro i
  rw [List.getElem?_set]
  by_cases hi : k = i
  · subst hi
    by_cases hl : k < nfd ci <;> simp [hl, h]
  · rw [if_neg hi]
    by_cases hl : i < nfd ci
    · simp [hl, ho i (fun e => hi e.symm)]
    · simp [hl]
theorem x_puti {idx ci k a : Nat} {x : Int32} {ty : FieldType} (hd : decode mm.2.2.1 pc = .ok (.putfield idx, 3)) (hf : FPd mm idx ci k ty) (hc : ftc ci k = 0 ∨ ftc ci k = 3) (hn : narrow ty (.int x) = .int x) (hw : fits ty (.int x) = true) (hK : e_K T a = ci + 1) (kk : X mm d (pc + 3) L st (s_i T (64 * ci + k) a x) r Tf) : X mm d pc L (.int x :: .ref a :: st) T r Tf := by
  obtain ⟨⟨h1, h2, h3⟩, hfin, hty⟩ := hf
  obtain ⟨g1, g2, g3, g4⟩ := cl_ok ci h1
  have hgk : gvl (s_i T (64 * ci + k) a x) ci k a = .int x := by rcases hc with hc | hc <;> simp [gvl, hc, s_i, e_i, e_l, e_r, up2, va_rf]
  have hgo : ∀ j, j ≠ k → gvl (s_i T (64 * ci + k) a x) ci j a = gvl T ci j a := by
    intro j hj
    simp [gvl, s_i, e_i, e_l, e_r, up2, hj]
  refine x_write (T' := s_i T (64 * ci + k) a x) a rfl rfl rfl rfl rfl ?_ (by omega) kk (fun E p l e R s m args below meth c H locs ls cells slots Z hx hb ho hts hmn hKK hp hS w => ?_)
  · intro E q0 hq0
    have hg : ∀ c j, gvl (s_i T (64 * ci + k) a x) c j q0 = gvl T c j q0 := by intro c j; simp [gvl, s_i, e_i, e_l, e_r, up2, hq0]
    unfold cellE
    simp only [hg]
    rfl
  · refine va_put (v := rv E (.int x)) (ty := ty) hx hb hts g2 (clY ci) g3 g4 ho hKK hp.2.1 (wsE_D E T) hS a (by rw [wsE_at E T (hp.lt (by omega)), cellE_o E hK h1]) g1 k h2 (hts _ h3) (fun _ h9 => h9) hfin (by rw [g3 k h2, hty]) hn hw (by simp [h2]) hd (fun H1 locs1 hP1 hD1 hS1 => w H1 locs1 ?_ hS1)
    rw [cellE_o E (T := s_i T (64 * ci + k) a x) hK h1, ← fs_set E hgk hgo]
    exact hP1
theorem x_putl {idx ci k a : Nat} {x : Int64} {ty : FieldType} (hd : decode mm.2.2.1 pc = .ok (.putfield idx, 3)) (hf : FPd mm idx ci k ty) (hc : ftc ci k = 1) (hn : narrow ty (.long x) = .long x) (hw : fits ty (.long x) = true) (hK : e_K T a = ci + 1) (kk : X mm d (pc + 3) L st (s_l T (64 * ci + k) a x) r Tf) : X mm d pc L (.long x :: .ref a :: st) T r Tf := by
  obtain ⟨⟨h1, h2, h3⟩, hfin, hty⟩ := hf
  obtain ⟨g1, g2, g3, g4⟩ := cl_ok ci h1
  have hgk : gvl (s_l T (64 * ci + k) a x) ci k a = .long x := by simp [gvl, hc, s_l, e_i, e_l, e_r, up2, va_rf]
  have hgo : ∀ j, j ≠ k → gvl (s_l T (64 * ci + k) a x) ci j a = gvl T ci j a := by
    intro j hj
    simp [gvl, s_l, e_i, e_l, e_r, up2, hj]
  refine x_write (T' := s_l T (64 * ci + k) a x) a rfl rfl rfl rfl rfl ?_ (by omega) kk (fun E p l e R s m args below meth c H locs ls cells slots Z hx hb ho hts hmn hKK hp hS w => ?_)
  · intro E q0 hq0
    have hg : ∀ c j, gvl (s_l T (64 * ci + k) a x) c j q0 = gvl T c j q0 := by intro c j; simp [gvl, s_l, e_i, e_l, e_r, up2, hq0]
    unfold cellE
    simp only [hg]
    rfl
  · refine va_put (v := rv E (.long x)) (ty := ty) hx hb hts g2 (clY ci) g3 g4 ho hKK hp.2.1 (wsE_D E T) hS a (by rw [wsE_at E T (hp.lt (by omega)), cellE_o E hK h1]) g1 k h2 (hts _ h3) (fun _ h9 => h9) hfin (by rw [g3 k h2, hty]) hn hw (by simp [h2]) hd (fun H1 locs1 hP1 hD1 hS1 => w H1 locs1 ?_ hS1)
    rw [cellE_o E (T := s_l T (64 * ci + k) a x) hK h1, ← fs_set E hgk hgo]
    exact hP1
theorem x_putr {idx ci k a : Nat} {b : Nat} {ty : FieldType} (hd : decode mm.2.2.1 pc = .ok (.putfield idx, 3)) (hf : FPd mm idx ci k ty) (hc : ftc ci k = 2) (hn : ∀ q, narrow ty (.ref q) = .ref q) (hw : ∀ q, fits ty (.ref q) = true) (hK : e_K T a = ci + 1) (kk : X mm d (pc + 3) L st (s_r T (64 * ci + k) a (some b)) r Tf) : X mm d pc L (.ref b :: .ref a :: st) T r Tf := by
  obtain ⟨⟨h1, h2, h3⟩, hfin, hty⟩ := hf
  obtain ⟨g1, g2, g3, g4⟩ := cl_ok ci h1
  have hgk : gvl (s_r T (64 * ci + k) a (some b)) ci k a = .ref b := by simp [gvl, hc, s_r, e_i, e_l, e_r, up2, va_rf]
  have hgo : ∀ j, j ≠ k → gvl (s_r T (64 * ci + k) a (some b)) ci j a = gvl T ci j a := by
    intro j hj
    simp [gvl, s_r, e_i, e_l, e_r, up2, hj]
  refine x_write (T' := s_r T (64 * ci + k) a (some b)) a rfl rfl rfl rfl rfl ?_ (by omega) kk (fun E p l e R s m args below meth c H locs ls cells slots Z hx hb ho hts hmn hKK hp hS w => ?_)
  · intro E q0 hq0
    have hg : ∀ c j, gvl (s_r T (64 * ci + k) a (some b)) c j q0 = gvl T c j q0 := by intro c j; simp [gvl, s_r, e_i, e_l, e_r, up2, hq0]
    unfold cellE
    simp only [hg]
    rfl
  · refine va_put (v := rv E (.ref b)) (ty := ty) hx hb hts g2 (clY ci) g3 g4 ho hKK hp.2.1 (wsE_D E T) hS a (by rw [wsE_at E T (hp.lt (by omega)), cellE_o E hK h1]) g1 k h2 (hts _ h3) (fun _ h9 => h9) hfin (by rw [g3 k h2, hty]) (hn _) (hw _) (by simp [h2]) hd (fun H1 locs1 hP1 hD1 hS1 => w H1 locs1 ?_ hS1)
    rw [cellE_o E (T := s_r T (64 * ci + k) a (some b)) hK h1, ← fs_set E hgk hgo]
    exact hP1
theorem x_putn {idx ci k a : Nat} {ty : FieldType} (hd : decode mm.2.2.1 pc = .ok (.putfield idx, 3)) (hf : FPd mm idx ci k ty) (hc : ftc ci k = 2) (hn : narrow ty (.null) = .null) (hw : fits ty (.null) = true) (hK : e_K T a = ci + 1) (kk : X mm d (pc + 3) L st (s_r T (64 * ci + k) a none) r Tf) : X mm d pc L (.null :: .ref a :: st) T r Tf := by
  obtain ⟨⟨h1, h2, h3⟩, hfin, hty⟩ := hf
  obtain ⟨g1, g2, g3, g4⟩ := cl_ok ci h1
  have hgk : gvl (s_r T (64 * ci + k) a none) ci k a = .null := by simp [gvl, hc, s_r, e_i, e_l, e_r, up2, va_rf]
  have hgo : ∀ j, j ≠ k → gvl (s_r T (64 * ci + k) a none) ci j a = gvl T ci j a := by
    intro j hj
    simp [gvl, s_r, e_i, e_l, e_r, up2, hj]
  refine x_write (T' := s_r T (64 * ci + k) a none) a rfl rfl rfl rfl rfl ?_ (by omega) kk (fun E p l e R s m args below meth c H locs ls cells slots Z hx hb ho hts hmn hKK hp hS w => ?_)
  · intro E q0 hq0
    have hg : ∀ c j, gvl (s_r T (64 * ci + k) a none) c j q0 = gvl T c j q0 := by intro c j; simp [gvl, s_r, e_i, e_l, e_r, up2, hq0]
    unfold cellE
    simp only [hg]
    rfl
  · refine va_put (v := rv E (.null)) (ty := ty) hx hb hts g2 (clY ci) g3 g4 ho hKK hp.2.1 (wsE_D E T) hS a (by rw [wsE_at E T (hp.lt (by omega)), cellE_o E hK h1]) g1 k h2 (hts _ h3) (fun _ h9 => h9) hfin (by rw [g3 k h2, hty]) hn hw (by simp [h2]) hd (fun H1 locs1 hP1 hD1 hS1 => w H1 locs1 ?_ hS1)
    rw [cellE_o E (T := s_r T (64 * ci + k) a none) hK h1, ← fs_set E hgk hgo]
    exact hP1
theorem x_putiF {idx ci k a : Nat} {x : Int32} {ty : FieldType} (hd : decode mm.2.2.1 pc = .ok (.putfield idx, 3)) (hf : FPf mm idx ci k ty) (hc : ftc ci k = 0 ∨ ftc ci k = 3) (hn : narrow ty (.int x) = .int x) (hw : fits ty (.int x) = true) (hK : e_K T a = ci + 1) (kk : X mm d (pc + 3) L st (s_i T (64 * ci + k) a x) r Tf) : X mm d pc L (.int x :: .ref a :: st) T r Tf := by
  obtain ⟨⟨h1, h2, h3⟩, hfin, hty, hin, hdc⟩ := hf
  obtain ⟨g1, g2, g3, g4⟩ := cl_ok ci h1
  have hgk : gvl (s_i T (64 * ci + k) a x) ci k a = .int x := by rcases hc with hc | hc <;> simp [gvl, hc, s_i, e_i, e_l, e_r, up2, va_rf]
  have hgo : ∀ j, j ≠ k → gvl (s_i T (64 * ci + k) a x) ci j a = gvl T ci j a := by
    intro j hj
    simp [gvl, s_i, e_i, e_l, e_r, up2, hj]
  refine x_write (T' := s_i T (64 * ci + k) a x) a rfl rfl rfl rfl rfl ?_ (by omega) kk (fun E p l e R s m args below meth c H locs ls cells slots Z hx hb ho hts hmn hKK hp hS w => ?_)
  · intro E q0 hq0
    have hg : ∀ c j, gvl (s_i T (64 * ci + k) a x) c j q0 = gvl T c j q0 := by intro c j; simp [gvl, s_i, e_i, e_l, e_r, up2, hq0]
    unfold cellE
    simp only [hg]
    rfl
  · refine va_putF (v := rv E (.int x)) (ty := ty) hx hb hts g2 (clY ci) g3 g4 ho hKK hp.2.1 (wsE_D E T) hS a (by rw [wsE_at E T (hp.lt (by omega)), cellE_o E hK h1]) g1 k h2 (hts _ h3) (fun _ h9 => h9) hfin (hmn hin) hdc (by rw [g3 k h2, hty]) hn hw (by simp [h2]) hd (fun H1 locs1 hP1 hD1 hS1 => w H1 locs1 ?_ hS1)
    rw [cellE_o E (T := s_i T (64 * ci + k) a x) hK h1, ← fs_set E hgk hgo]
    exact hP1
theorem x_putlF {idx ci k a : Nat} {x : Int64} {ty : FieldType} (hd : decode mm.2.2.1 pc = .ok (.putfield idx, 3)) (hf : FPf mm idx ci k ty) (hc : ftc ci k = 1) (hn : narrow ty (.long x) = .long x) (hw : fits ty (.long x) = true) (hK : e_K T a = ci + 1) (kk : X mm d (pc + 3) L st (s_l T (64 * ci + k) a x) r Tf) : X mm d pc L (.long x :: .ref a :: st) T r Tf := by
  obtain ⟨⟨h1, h2, h3⟩, hfin, hty, hin, hdc⟩ := hf
  obtain ⟨g1, g2, g3, g4⟩ := cl_ok ci h1
  have hgk : gvl (s_l T (64 * ci + k) a x) ci k a = .long x := by simp [gvl, hc, s_l, e_i, e_l, e_r, up2, va_rf]
  have hgo : ∀ j, j ≠ k → gvl (s_l T (64 * ci + k) a x) ci j a = gvl T ci j a := by
    intro j hj
    simp [gvl, s_l, e_i, e_l, e_r, up2, hj]
  refine x_write (T' := s_l T (64 * ci + k) a x) a rfl rfl rfl rfl rfl ?_ (by omega) kk (fun E p l e R s m args below meth c H locs ls cells slots Z hx hb ho hts hmn hKK hp hS w => ?_)
  · intro E q0 hq0
    have hg : ∀ c j, gvl (s_l T (64 * ci + k) a x) c j q0 = gvl T c j q0 := by intro c j; simp [gvl, s_l, e_i, e_l, e_r, up2, hq0]
    unfold cellE
    simp only [hg]
    rfl
  · refine va_putF (v := rv E (.long x)) (ty := ty) hx hb hts g2 (clY ci) g3 g4 ho hKK hp.2.1 (wsE_D E T) hS a (by rw [wsE_at E T (hp.lt (by omega)), cellE_o E hK h1]) g1 k h2 (hts _ h3) (fun _ h9 => h9) hfin (hmn hin) hdc (by rw [g3 k h2, hty]) hn hw (by simp [h2]) hd (fun H1 locs1 hP1 hD1 hS1 => w H1 locs1 ?_ hS1)
    rw [cellE_o E (T := s_l T (64 * ci + k) a x) hK h1, ← fs_set E hgk hgo]
    exact hP1
theorem x_putrF {idx ci k a : Nat} {b : Nat} {ty : FieldType} (hd : decode mm.2.2.1 pc = .ok (.putfield idx, 3)) (hf : FPf mm idx ci k ty) (hc : ftc ci k = 2) (hn : ∀ q, narrow ty (.ref q) = .ref q) (hw : ∀ q, fits ty (.ref q) = true) (hK : e_K T a = ci + 1) (kk : X mm d (pc + 3) L st (s_r T (64 * ci + k) a (some b)) r Tf) : X mm d pc L (.ref b :: .ref a :: st) T r Tf := by
  obtain ⟨⟨h1, h2, h3⟩, hfin, hty, hin, hdc⟩ := hf
  obtain ⟨g1, g2, g3, g4⟩ := cl_ok ci h1
  have hgk : gvl (s_r T (64 * ci + k) a (some b)) ci k a = .ref b := by simp [gvl, hc, s_r, e_i, e_l, e_r, up2, va_rf]
  have hgo : ∀ j, j ≠ k → gvl (s_r T (64 * ci + k) a (some b)) ci j a = gvl T ci j a := by
    intro j hj
    simp [gvl, s_r, e_i, e_l, e_r, up2, hj]
  refine x_write (T' := s_r T (64 * ci + k) a (some b)) a rfl rfl rfl rfl rfl ?_ (by omega) kk (fun E p l e R s m args below meth c H locs ls cells slots Z hx hb ho hts hmn hKK hp hS w => ?_)
  · intro E q0 hq0
    have hg : ∀ c j, gvl (s_r T (64 * ci + k) a (some b)) c j q0 = gvl T c j q0 := by intro c j; simp [gvl, s_r, e_i, e_l, e_r, up2, hq0]
    unfold cellE
    simp only [hg]
    rfl
  · refine va_putF (v := rv E (.ref b)) (ty := ty) hx hb hts g2 (clY ci) g3 g4 ho hKK hp.2.1 (wsE_D E T) hS a (by rw [wsE_at E T (hp.lt (by omega)), cellE_o E hK h1]) g1 k h2 (hts _ h3) (fun _ h9 => h9) hfin (hmn hin) hdc (by rw [g3 k h2, hty]) (hn _) (hw _) (by simp [h2]) hd (fun H1 locs1 hP1 hD1 hS1 => w H1 locs1 ?_ hS1)
    rw [cellE_o E (T := s_r T (64 * ci + k) a (some b)) hK h1, ← fs_set E hgk hgo]
    exact hP1
theorem x_putnF {idx ci k a : Nat} {ty : FieldType} (hd : decode mm.2.2.1 pc = .ok (.putfield idx, 3)) (hf : FPf mm idx ci k ty) (hc : ftc ci k = 2) (hn : narrow ty (.null) = .null) (hw : fits ty (.null) = true) (hK : e_K T a = ci + 1) (kk : X mm d (pc + 3) L st (s_r T (64 * ci + k) a none) r Tf) : X mm d pc L (.null :: .ref a :: st) T r Tf := by
  obtain ⟨⟨h1, h2, h3⟩, hfin, hty, hin, hdc⟩ := hf
  obtain ⟨g1, g2, g3, g4⟩ := cl_ok ci h1
  have hgk : gvl (s_r T (64 * ci + k) a none) ci k a = .null := by simp [gvl, hc, s_r, e_i, e_l, e_r, up2, va_rf]
  have hgo : ∀ j, j ≠ k → gvl (s_r T (64 * ci + k) a none) ci j a = gvl T ci j a := by
    intro j hj
    simp [gvl, s_r, e_i, e_l, e_r, up2, hj]
  refine x_write (T' := s_r T (64 * ci + k) a none) a rfl rfl rfl rfl rfl ?_ (by omega) kk (fun E p l e R s m args below meth c H locs ls cells slots Z hx hb ho hts hmn hKK hp hS w => ?_)
  · intro E q0 hq0
    have hg : ∀ c j, gvl (s_r T (64 * ci + k) a none) c j q0 = gvl T c j q0 := by intro c j; simp [gvl, s_r, e_i, e_l, e_r, up2, hq0]
    unfold cellE
    simp only [hg]
    rfl
  · refine va_putF (v := rv E (.null)) (ty := ty) hx hb hts g2 (clY ci) g3 g4 ho hKK hp.2.1 (wsE_D E T) hS a (by rw [wsE_at E T (hp.lt (by omega)), cellE_o E hK h1]) g1 k h2 (hts _ h3) (fun _ h9 => h9) hfin (hmn hin) hdc (by rw [g3 k h2, hty]) hn hw (by simp [h2]) hd (fun H1 locs1 hP1 hD1 hS1 => w H1 locs1 ?_ hS1)
    rw [cellE_o E (T := s_r T (64 * ci + k) a none) hK h1, ← fs_set E hgk hgo]
    exact hP1
end Rules2
end
section
/-! THE ENGINE, part c: rows written, new cells, returns -/
section Rules3
variable {mm : MR} {d pc pc' : Nat} {L L' : List (Nat × Value)} {st st' : List Value} {T Tf : TH} {r : Option Value}
theorem cellE_ne (E : EV) {T T' : TH} {b : Nat} (hK : e_K T' b = e_K T b) (hl : e_len T' b = e_len T b) (hg : ∀ c k, gvl T' c k b = gvl T c k b) (h1 : e_ai T' b = e_ai T b) (h2 : e_al T' b = e_al T b) (h3 : e_ar T' b = e_ar T b) : cellE E T' b = cellE E T b := by
  unfold cellE kDat
  simp only [hg, hK, hl, h1, h2, h3]
theorem up2_row {α : Type} (f : Nat → Nat → α) (a j : Nat) (v : α) : up2 f a j v a = fun i => if i = j then v else f a i := by
  funext i; simp [up2]
theorem up2_row_ne {α : Type} (f : Nat → Nat → α) {a b : Nat} (j : Nat) (v : α) (h : b ≠ a) : up2 f a j v b = f b := by
  funext i; simp [up2, h]
theorem x_iast {a j : Nat} {i : Int32} {x : Int32} (hd : decode mm.2.2.1 pc = .ok (.iastore, 1)) (hK : e_K T a = 20) (hi : i = nI j) (hj : j < e_len T a) (kk : X mm d (pc + 1) L st (s_ai T a j x) r Tf) : X mm d pc L (.int x :: .int i :: .ref a :: st) T r Tf := by
  refine x_write (T' := s_ai T a j x) a rfl rfl rfl rfl rfl ?_ (by omega) kk (fun E p l e R s m args below meth c H locs ls cells slots Z hx hb ho hts hmn hKK hp hS w => ?_)
  · intro E q0 hq0
    refine cellE_ne E rfl rfl (fun _ _ => rfl) ?_ ?_ ?_ <;> first | rfl | exact up2_row_ne _ _ _ hq0
  · obtain ⟨h1, h2⟩ := nI_ok hp hi hj
    refine va_iast hx hb hKK hp.2.1 (wsE_D E T) hS a 0 (by rw [wsE_at E T (hp.lt (by omega)), cellE_a E hK (by omega)]; rfl) rfl h1 hd (fun H1 locs1 hP1 hD1 hS1 => w H1 locs1 ?_ hS1)
    rw [cellE_a E (T := s_ai T a j x) (k := 20) hK (by omega)]
    rw [h2] at hP1
    have hrow : kDat E (s_ai T a j x) 20 a = .inl (upd (e_ai T a) j x) := by
      show Sum.inl _ = Sum.inl _
      congr 1
      exact up2_row _ _ _ _
    rw [hrow]
    exact hP1
theorem x_bast {a j : Nat} {i : Int32} {x : Int32} (hd : decode mm.2.2.1 pc = .ok (.bastore, 1)) (hK : e_K T a = 21) (hi : i = nI j) (hj : j < e_len T a) (kk : X mm d (pc + 1) L st (s_ai T a j x.toInt8.toInt32) r Tf) : X mm d pc L (.int x :: .int i :: .ref a :: st) T r Tf := by
  refine x_write (T' := s_ai T a j x.toInt8.toInt32) a rfl rfl rfl rfl rfl ?_ (by omega) kk (fun E p l e R s m args below meth c H locs ls cells slots Z hx hb ho hts hmn hKK hp hS w => ?_)
  · intro E q0 hq0
    refine cellE_ne E rfl rfl (fun _ _ => rfl) ?_ ?_ ?_ <;> first | rfl | exact up2_row_ne _ _ _ hq0
  · obtain ⟨h1, h2⟩ := nI_ok hp hi hj
    refine va_bast hx hb hKK hp.2.1 (wsE_D E T) hS a 1 (by rw [wsE_at E T (hp.lt (by omega)), cellE_a E hK (by omega)]; rfl) rfl h1 hd (fun H1 locs1 hP1 hD1 hS1 => w H1 locs1 ?_ hS1)
    rw [cellE_a E (T := s_ai T a j x.toInt8.toInt32) (k := 21) hK (by omega)]
    rw [h2] at hP1
    have hrow : kDat E (s_ai T a j x.toInt8.toInt32) 21 a = .inl (upd (e_ai T a) j (vp_nar .byte x)) := by
      show Sum.inl _ = Sum.inl _
      congr 1
      exact up2_row _ _ _ _
    rw [hrow]
    exact hP1
theorem x_zast {a j : Nat} {i : Int32} {x : Int32} (hd : decode mm.2.2.1 pc = .ok (.bastore, 1)) (hK : e_K T a = 22) (hi : i = nI j) (hj : j < e_len T a) (kk : X mm d (pc + 1) L st (s_ai T a j (vp_nar .boolean x)) r Tf) : X mm d pc L (.int x :: .int i :: .ref a :: st) T r Tf := by
  refine x_write (T' := s_ai T a j (vp_nar .boolean x)) a rfl rfl rfl rfl rfl ?_ (by omega) kk (fun E p l e R s m args below meth c H locs ls cells slots Z hx hb ho hts hmn hKK hp hS w => ?_)
  · intro E q0 hq0
    refine cellE_ne E rfl rfl (fun _ _ => rfl) ?_ ?_ ?_ <;> first | rfl | exact up2_row_ne _ _ _ hq0
  · obtain ⟨h1, h2⟩ := nI_ok hp hi hj
    refine va_zast hx hb hKK hp.2.1 (wsE_D E T) hS a 2 (by rw [wsE_at E T (hp.lt (by omega)), cellE_a E hK (by omega)]; rfl) rfl h1 hd (fun H1 locs1 hP1 hD1 hS1 => w H1 locs1 ?_ hS1)
    rw [cellE_a E (T := s_ai T a j (vp_nar .boolean x)) (k := 22) hK (by omega)]
    rw [h2] at hP1
    have hrow : kDat E (s_ai T a j (vp_nar .boolean x)) 22 a = .inl (upd (e_ai T a) j (vp_nar .boolean x)) := by
      show Sum.inl _ = Sum.inl _
      congr 1
      exact up2_row _ _ _ _
    rw [hrow]
    exact hP1
theorem x_last {a j : Nat} {i : Int32} {x : Int64} (hd : decode mm.2.2.1 pc = .ok (.lastore, 1)) (hK : e_K T a = 23) (hi : i = nI j) (hj : j < e_len T a) (kk : X mm d (pc + 1) L st (s_al T a j x) r Tf) : X mm d pc L (.long x :: .int i :: .ref a :: st) T r Tf := by
  refine x_write (T' := s_al T a j x) a rfl rfl rfl rfl rfl ?_ (by omega) kk (fun E p l e R s m args below meth c H locs ls cells slots Z hx hb ho hts hmn hKK hp hS w => ?_)
  · intro E q0 hq0
    refine cellE_ne E rfl rfl (fun _ _ => rfl) ?_ ?_ ?_ <;> first | rfl | exact up2_row_ne _ _ _ hq0
  · obtain ⟨h1, h2⟩ := nI_ok hp hi hj
    refine va_last hx hb hKK hp.2.1 (wsE_D E T) hS a 3 (by rw [wsE_at E T (hp.lt (by omega)), cellE_a E hK (by omega)]; rfl) rfl h1 hd (fun H1 locs1 hP1 hD1 hS1 => w H1 locs1 ?_ hS1)
    rw [cellE_a E (T := s_al T a j x) (k := 23) hK (by omega)]
    rw [h2] at hP1
    have hrow : kDat E (s_al T a j x) 23 a = .inr (.inl (vp_updL (e_al T a) j x)) := by
      show Sum.inr (Sum.inl _) = Sum.inr (Sum.inl _)
      congr 2
      exact up2_row _ _ _ _
    rw [hrow]
    exact hP1
theorem x_aast {a j b : Nat} {i : Int32} (hd : decode mm.2.2.1 pc = .ok (.aastore, 1)) (hK : e_K T a = 24) (hi : i = nI j) (hj : j < e_len T a) (hb4 : e_K T b = 4) (kk : X mm d (pc + 1) L st (s_ar T a j (some b)) r Tf) : X mm d pc L (.ref b :: .int i :: .ref a :: st) T r Tf := by
  refine x_write (T' := s_ar T a j (some b)) a rfl rfl rfl rfl rfl ?_ (by omega) kk (fun E p l e R s m args below meth c H locs ls cells slots Z hx hb ho hts hmn hKK hp hS w => ?_)
  · intro E q0 hq0
    refine cellE_ne E rfl rfl (fun _ _ => rfl) ?_ ?_ ?_ <;> first | rfl | exact up2_row_ne _ _ _ hq0
  · obtain ⟨h1, h2⟩ := nI_ok hp hi hj
    refine va_astq (r := (clR 3, clT 3, nfd 3)) (ci := 3) (f := fun j => (e_ar T a j).map (E.1 + ·)) hx hb hKK hp.2.1 (wsE_D E T) hS a 4 b (by rw [wsE_at E T (hp.lt (by omega)), cellE_a E hK (by omega)]; rfl) rfl (by rw [wsE_at E T (hp.lt (by omega)), cellE_o E hb4 (by omega)]) (cl_ok 3 (by omega)).1 h1 hd (fun H1 locs1 hP1 hD1 hS1 => w H1 locs1 ?_ hS1)
    rw [cellE_a E (T := s_ar T a j (some b)) (k := 24) hK (by omega)]
    rw [h2] at hP1
    have hrow : kDat E (s_ar T a j (some b)) 24 a = .inr (.inr (.inr (.inr (va_up (fun j => (e_ar T a j).map (E.1 + ·)) j (some (E.1 + b)))))) := by
      show Sum.inr (Sum.inr (Sum.inr (Sum.inr _))) = Sum.inr (Sum.inr (Sum.inr (Sum.inr _)))
      congr 4
      funext i
      show (up2 (e_ar T) a j (some b) a i).map _ = _
      rw [up2_row]
      unfold va_up
      by_cases q : i = j <;> simp [q]
    rw [hrow]
    exact hP1
/-! new cells -/
theorem s_new_cell (E : EV) (T : TH) (k N : Nat) {b : Nat} (h : b ≠ e_n T) : cellE E (s_new T k N) b = cellE E T b := by
  refine cellE_ne E ?_ ?_ (fun c k => ?_) ?_ ?_ ?_
  · exact va_up_ne _ _ h
  · exact va_up_ne _ _ h
  · simp [gvl, s_new, e_i, e_l, e_r, va_up, h]
  · exact va_up_ne _ _ h
  · exact va_up_ne _ _ h
  · exact va_up_ne _ _ h
theorem s_new_ws (E : EV) (T : TH) (k N : Nat) : wsE E (s_new T k N) = wsE E T ++ [(E.1 + e_n T, cellE E (s_new T k N) (e_n T))] := by
  unfold wsE
  rw [show e_n (s_new T k N) = e_n T + 1 from rfl, List.range_succ, List.map_append, List.map_cons, List.map_nil]
  congr 1
  apply List.map_congr_left
  intro a ha
  rw [s_new_cell E T k N (Nat.ne_of_lt (List.mem_range.mp ha))]
theorem x_alloc (kd N : Nat) (hN : N < 2147483648) (k : X mm d pc' L (.ref (e_n T) :: st') (s_new T kd N) r Tf)
    (h : ∀ (E : EV) (p : Program) (l : Launch) (e : Env) (R : Room) (s : State) (m : MethodId) (args : Array Value) (below : List Frame) (meth : Method) (c : Code) (H : Heap) (locs : List Loc) (ls : Array Slot) (cells slots : Nat) (Z : State → Prop), p.tables.exec = Jvm.exec → c.code = mm.2.2.1 → s.vm.findClass mm.1 = some m.cls → (∀ w ∈ lw_g, w.before args s = true) → vK E s → Hp E T H → va_S (AA E) s.heap H locs → (∀ q, s.heap.size ≤ q → AA E q) → cells + 1 ≤ R.cells → slots + N ≤ R.slots →
      (∀ (q : Nat) (H1 : Heap) (e9 : va_E), cellE E (s_new T kd N) (e_n T) = e9 → va_P E.2.2.1 vwCl (wsE E T ++ [(q, e9)]) H1 → va_D (AA E) (wsE E T ++ [(q, e9)]) → va_S (AA E) s.heap H1 locs → W p l e R s m args below meth c H1 locs (cells + 1) (slots + N) Z (F0 m pc' ls (.ref q :: st'.map (rv E)))) → W p l e R s m args below meth c H locs cells slots Z (F0 m pc ls (st.map (rv E)))) : X mm d pc L st T r Tf := by
  have k1 : e_n T + 1 ≤ e_n Tf := k.1.1
  have k2 : e_s T + N ≤ e_s Tf := k.1.2.1
  refine ⟨⟨by omega, by omega, k.1.2.2.1, k.1.2.2.2⟩, fun E p l e R s m args below meth c H locs ls n0 s0 Z C h1 hl hp hS hz => ?_⟩
  have hR := C.2.2.2.2.2.2.2.2.2.2.1
  have h0 : s.heap.size = E.1 + n0 := C.2.2.2.2.2.2.2.2.2.1
  refine h E p l e R s m args below meth c H locs ls _ _ Z C.1 C.2.1 C.2.2.2.2.2.1 C.2.2.2.2.2.2.1 C.2.2.2.2.2.2.2.2.1 hp hS (fun q hq => Nat.le_trans (by omega) hq) (by omega) (by omega) (fun q H1 e9 he9 hP1 hD1 hS1 => ?_)
  refine W_sz (fun hsz => ?_)
  have hlen := wsE_len E T
  have hat : (wsE E T ++ [(q, e9)])[e_n T]? = some (q, e9) := by rw [List.getElem?_append_right (by omega)]; simp [hlen]
  have hq1 : q < H1.size := (hP1 _ _ hat).lt
  have hq2 : E.1 ≤ q := hD1.2 _ _ hat
  have hq3 : q = E.1 + e_n T := by
    rcases Nat.lt_or_ge q (E.1 + e_n T) with z | z
    · have hi : (wsE E T ++ [(q, e9)])[q - E.1]? = some (E.1 + (q - E.1), cellE E T (q - E.1)) := by
        rw [List.getElem?_append_left (by omega)]; exact wsE_at E T (by omega)
      have := hD1.1 _ _ _ _ hi hat (by show E.1 + (q - E.1) = q; omega)
      omega
    · omega
  subst hq3
  rw [← he9, ← s_new_ws] at hP1
  have hp1 : Hp E (s_new T kd N) H1 := by
    refine Hp_of hP1 (Nat.succ_pos _) ?_ ?_ ?_
    · show H1.size ≤ E.1 + (e_n T + 1); omega
    · intro a ha
      have ha' : e_n T + 1 ≤ a := ha
      show va_up (e_K T) (e_n T) kd a = 0
      rw [va_up_ne _ _ (by omega)]
      exact hp.2.2.1 a (by omega)
    · intro a
      show va_up (e_len T) (e_n T) N a < _
      unfold va_up
      split
      · exact hN
      · exact hp.2.2.2 a
  have w := k.2 E p l e R s m args below meth c H1 locs ls n0 s0 Z C ⟨by show n0 ≤ e_n T + 1; omega, by show s0 ≤ e_s T + N; omega⟩ hl hp1 hS1 hz
  rw [show e_n (s_new T kd N) - n0 = e_n T - n0 + 1 from by show e_n T + 1 - n0 = _; omega, show e_s (s_new T kd N) - s0 = e_s T - s0 + N from by show e_s T + N - s0 = _; omega] at w
  exact w
def CLd (own : String) (idx ci : Nat) : Prop := ci < 9 ∧ Cond.classLink own idx (clR ci) ∈ lw_g ∧ Cond.instantiable (clR ci) (nfd ci) ∈ lw_g ∧ Cond.initialized (clR ci) ∈ lw_g ∧ nfd ci < 2147483648 ∧ ∀ k, k < nfd ci → defaultValue (clY ci k) = if ftc ci k = 1 then .long 0 else if ftc ci k = 2 then .null else .int 0
theorem gvl_new (T : TH) (kd N ci k : Nat) : gvl (s_new T kd N) ci k (e_n T) = if ftc ci k = 1 then .long 0 else if ftc ci k = 2 then .null else .int 0 := by
  simp [gvl, s_new, e_i, e_l, e_r, va_up, va_rf]
theorem x_new {idx ci : Nat} (hd : decode mm.2.2.1 pc = .ok (.new idx, 3)) (hc : CLd mm.1 idx ci) (k : X mm d (pc + 3) L (.ref (e_n T) :: st) (s_new T (ci + 1) (nfd ci)) r Tf) : X mm d pc L st T r Tf := by
  obtain ⟨h1, h2, h3, h4, h5, h6⟩ := hc
  obtain ⟨g1, g2, g3, g4⟩ := cl_ok ci h1
  refine x_alloc (ci + 1) (nfd ci) h5 k (fun E p l e R s m args below meth c H locs ls cells slots Z hx hb ho hts hKK hp hS hA hcl hsl w => ?_)
  have hcell := cellE_o E (T := s_new T (ci + 1) (nfd ci)) (a := e_n T) (ci := ci) (va_up_self _ _ _) h1
  refine va_new hx hb hts g2 (clY ci) g3 ho (hts _ h2) (hts _ h3) (hts _ h4) hKK.1 hp.2.1 (wsE_D E T) hS hA g1 (fs := (List.range (nfd ci)).map (fun k => rv E (gvl (s_new T (ci + 1) (nfd ci)) ci k (e_n T)))) (fun j hj => ?_) hcl hsl hd (fun q H1 hP1 hD1 hS1 => w q H1 _ hcell hP1 hD1 hS1)
  rw [h6 j hj]
  simp only [vp_V, List.getD, List.getElem?_map, List.getElem?_range hj, Option.map_some, Option.getD_some, gvl_new]
  split
  · rfl
  · split <;> rfl
theorem arrc_int : Cond.arrayClass (newarray.typeOf .int) ∈ lw_g := inG (by decide +kernel) (by decide +kernel)
theorem arrc_byte : Cond.arrayClass (newarray.typeOf .byte) ∈ lw_g := inG (by decide +kernel) (by decide +kernel)
theorem arrc_boolean : Cond.arrayClass (newarray.typeOf .boolean) ∈ lw_g := inG (by decide +kernel) (by decide +kernel)
theorem arrc_long : Cond.arrayClass (newarray.typeOf .long) ∈ lw_g := inG (by decide +kernel) (by decide +kernel)
theorem x_newai {n : Int32} {N : Nat} (hd : decode mm.2.2.1 pc = .ok (.newarray .int, 2)) (hn : n = nI N) (hN : N < 1000000) (k : X mm d (pc + 2) L (.ref (e_n T) :: st) (s_new T 20 N) r Tf) : X mm d pc L (.int n :: st) T r Tf := by
  refine x_alloc 20 N (by omega) k (fun E p l e R s m args below meth c H locs ls cells slots Z hx hb ho hts hKK hp hS hA hcl hsl w => ?_)
  have harr : Cond.arrayClass (newarray.typeOf .int) ∈ lw_g := arrc_int
  subst hn
  refine va_newa (ty := .int) (a0 := (N, .inl (fun _ => 0))) hx hb (hts _ harr) rfl hKK.1 hp.2.1 (wsE_D E T) hS hA (fun cA => rfl) (nI_pos (by omega)) (nI_clamp (by omega)) (by show N * 4 ≤ _; omega) hcl hsl hd (fun q cA H1 hK1 hP1 hD1 hS1 => w q H1 (.inl (cA, N, .inl (fun _ => 0))) ?_ hP1 hD1 hS1)
  have hcA : cA = kCl E 20 := by
    have h1 := (hK1.2 5 (cA, .int) (by rfl)).2
    have h2 := (hK1.2 0 (kCl E 20, .int) (by rfl)).2
    exact Option.some.inj (h1.symm.trans h2)
  rw [cellE_a E (T := s_new T 20 N) (a := e_n T) (k := 20) (va_up_self _ _ _) (by omega), hcA]
  show Sum.inl (kCl E 20, va_up (e_len T) (e_n T) N (e_n T), kDat E (s_new T 20 N) 20 (e_n T)) = _
  rw [va_up_self]
  congr 3
  show kDat E (s_new T 20 N) 20 (e_n T) = .inl (fun _ => 0)
  simp [kDat, s_new, e_ai, e_al, va_up_self]
theorem x_newab {n : Int32} {N : Nat} (hd : decode mm.2.2.1 pc = .ok (.newarray .byte, 2)) (hn : n = nI N) (hN : N < 1000000) (k : X mm d (pc + 2) L (.ref (e_n T) :: st) (s_new T 21 N) r Tf) : X mm d pc L (.int n :: st) T r Tf := by
  refine x_alloc 21 N (by omega) k (fun E p l e R s m args below meth c H locs ls cells slots Z hx hb ho hts hKK hp hS hA hcl hsl w => ?_)
  have harr : Cond.arrayClass (newarray.typeOf .byte) ∈ lw_g := arrc_byte
  subst hn
  refine va_newa (ty := .byte) (a0 := (N, .inl (fun _ => 0))) hx hb (hts _ harr) rfl hKK.1 hp.2.1 (wsE_D E T) hS hA (fun cA => rfl) (nI_pos (by omega)) (nI_clamp (by omega)) (by show N * 1 ≤ _; omega) hcl hsl hd (fun q cA H1 hK1 hP1 hD1 hS1 => w q H1 (.inl (cA, N, .inl (fun _ => 0))) ?_ hP1 hD1 hS1)
  have hcA : cA = kCl E 21 := by
    have h1 := (hK1.2 5 (cA, .byte) (by rfl)).2
    have h2 := (hK1.2 1 (kCl E 21, .byte) (by rfl)).2
    exact Option.some.inj (h1.symm.trans h2)
  rw [cellE_a E (T := s_new T 21 N) (a := e_n T) (k := 21) (va_up_self _ _ _) (by omega), hcA]
  show Sum.inl (kCl E 21, va_up (e_len T) (e_n T) N (e_n T), kDat E (s_new T 21 N) 21 (e_n T)) = _
  rw [va_up_self]
  congr 3
  show kDat E (s_new T 21 N) 21 (e_n T) = .inl (fun _ => 0)
  simp [kDat, s_new, e_ai, e_al, va_up_self]
theorem x_newaz {n : Int32} {N : Nat} (hd : decode mm.2.2.1 pc = .ok (.newarray .boolean, 2)) (hn : n = nI N) (hN : N < 1000000) (k : X mm d (pc + 2) L (.ref (e_n T) :: st) (s_new T 22 N) r Tf) : X mm d pc L (.int n :: st) T r Tf := by
  refine x_alloc 22 N (by omega) k (fun E p l e R s m args below meth c H locs ls cells slots Z hx hb ho hts hKK hp hS hA hcl hsl w => ?_)
  have harr : Cond.arrayClass (newarray.typeOf .boolean) ∈ lw_g := arrc_boolean
  subst hn
  refine va_newa (ty := .boolean) (a0 := (N, .inl (fun _ => 0))) hx hb (hts _ harr) rfl hKK.1 hp.2.1 (wsE_D E T) hS hA (fun cA => rfl) (nI_pos (by omega)) (nI_clamp (by omega)) (by show N * 1 ≤ _; omega) hcl hsl hd (fun q cA H1 hK1 hP1 hD1 hS1 => w q H1 (.inl (cA, N, .inl (fun _ => 0))) ?_ hP1 hD1 hS1)
  have hcA : cA = kCl E 22 := by
    have h1 := (hK1.2 5 (cA, .boolean) (by rfl)).2
    have h2 := (hK1.2 2 (kCl E 22, .boolean) (by rfl)).2
    exact Option.some.inj (h1.symm.trans h2)
  rw [cellE_a E (T := s_new T 22 N) (a := e_n T) (k := 22) (va_up_self _ _ _) (by omega), hcA]
  show Sum.inl (kCl E 22, va_up (e_len T) (e_n T) N (e_n T), kDat E (s_new T 22 N) 22 (e_n T)) = _
  rw [va_up_self]
  congr 3
  show kDat E (s_new T 22 N) 22 (e_n T) = .inl (fun _ => 0)
  simp [kDat, s_new, e_ai, e_al, va_up_self]
theorem x_newaj {n : Int32} {N : Nat} (hd : decode mm.2.2.1 pc = .ok (.newarray .long, 2)) (hn : n = nI N) (hN : N < 1000000) (k : X mm d (pc + 2) L (.ref (e_n T) :: st) (s_new T 23 N) r Tf) : X mm d pc L (.int n :: st) T r Tf := by
  refine x_alloc 23 N (by omega) k (fun E p l e R s m args below meth c H locs ls cells slots Z hx hb ho hts hKK hp hS hA hcl hsl w => ?_)
  have harr : Cond.arrayClass (newarray.typeOf .long) ∈ lw_g := arrc_long
  subst hn
  refine va_newa (ty := .long) (a0 := (N, .inr (.inl (fun _ => 0)))) hx hb (hts _ harr) rfl hKK.1 hp.2.1 (wsE_D E T) hS hA (fun cA => rfl) (nI_pos (by omega)) (nI_clamp (by omega)) (by show N * 8 ≤ _; omega) hcl hsl hd (fun q cA H1 hK1 hP1 hD1 hS1 => w q H1 (.inl (cA, N, .inr (.inl (fun _ => 0)))) ?_ hP1 hD1 hS1)
  have hcA : cA = kCl E 23 := by
    have h1 := (hK1.2 5 (cA, .long) (by rfl)).2
    have h2 := (hK1.2 3 (kCl E 23, .long) (by rfl)).2
    exact Option.some.inj (h1.symm.trans h2)
  rw [cellE_a E (T := s_new T 23 N) (a := e_n T) (k := 23) (va_up_self _ _ _) (by omega), hcA]
  show Sum.inl (kCl E 23, va_up (e_len T) (e_n T) N (e_n T), kDat E (s_new T 23 N) 23 (e_n T)) = _
  rw [va_up_self]
  congr 3
  show kDat E (s_new T 23 N) 23 (e_n T) = .inr (.inl (fun _ => 0))
  simp [kDat, s_new, e_ai, e_al, va_up_self]
theorem x_newaT {n : Int32} {N idx : Nat} (hd : decode mm.2.2.1 pc = .ok (.anewarray idx, 3)) (hc : Cond.classLink mm.1 idx RX3 ∈ lw_g) (hn : n = nI N) (hN : N < 1000000) (k : X mm d (pc + 3) L (.ref (e_n T) :: st) (s_new T 24 N) r Tf) : X mm d pc L (.int n :: st) T r Tf := by
  refine x_alloc 24 N (by omega) k (fun E p l e R s m args below meth c H locs ls cells slots Z hx hb ho hts hKK hp hS hA hcl hsl w => ?_)
  subst hn
  refine va_newq hx hb ho (hts _ hc) hKK.2.1 hKK.1 hp.2.1 (wsE_D E T) hS hA (nI_pos (by omega)) (nI_clamp (by omega)) (by omega) hcl hsl hd (fun q cA H1 hK1 hP1 hD1 hS1 => w q H1 _ ?_ hP1 hD1 hS1)
  have hcA : cA = kCl E 24 := by
    obtain ⟨_, _, _, _, _, h1⟩ := (hK1.2 5 (cA, .object RX3) (by rfl)).2
    obtain ⟨_, _, _, _, _, h2⟩ := (hK1.2 4 (kCl E 24, .object RX3) (by rfl)).2
    exact Option.some.inj (h1.symm.trans h2)
  rw [cellE_a E (T := s_new T 24 N) (a := e_n T) (k := 24) (va_up_self _ _ _) (by omega), hcA]
  show Sum.inl (kCl E 24, va_up (e_len T) (e_n T) N (e_n T), kDat E (s_new T 24 N) 24 (e_n T)) = _
  rw [va_up_self]
  congr 3
  show kDat E (s_new T 24 N) 24 (e_n T) = _
  simp [kDat, s_new, e_ar, va_up_self]
/-! the end -/
theorem x_ret (hd : decode mm.2.2.1 pc = .ok (retI mm.2.2.2.2, 1)) (ho : rOk mm.2.2.2.2 r) (hst : r.toList = st) : X mm d pc L st T r T :=
  ⟨⟨Nat.le_refl _, Nat.le_refl _, rfl, ho⟩, fun E p l e R s m args below meth c H locs ls n0 s0 Z C h1 hl hp hS hz => by
    have := hz H locs pc ls hp hS hd
    rw [← hst]
    cases r <;> exact this⟩
end Rules3
end
section
/-! THE ENGINE, part d: calls -/
theorem lg_sl_len (E : EV) (As : List Value) : (lg_sl (As.map (rv E))).length = (lg_sl As).length := by
  induction As with
  | nil => rfl
  | cons v t ih =>
    simp only [lg_sl, List.map_cons, List.flatMap_cons, List.length_append, rv_cat] at ih ⊢
    rw [ih]
    split <;> rfl
theorem lv_args_map (E : EV) (As : List Value) : ∀ i, lv_args i (As.map (rv E)) = (lv_args i As).map (fun q => (q.1, rv E q.2)) := by
  induction As with
  | nil => intro i; rfl
  | cons v t ih =>
    intro i
    simp only [List.map_cons, lv_args, rv_cat, ih]
def Qg (E : EV) (r : Option Value) (T1 : TH) : Array Value → State → Outcome → State → Prop := fun _ st oc t => oc = .returned (r.map (rv E)) ∧ Hp E T1 t.heap ∧ vK E t ∧ va_F (AA E) st t
def Pg (E : EV) (As : List Value) (T : TH) : Array Value → State → Prop := fun v U => v = (As.map (rv E)).toArray ∧ Hp E T U.heap ∧ vK E U
theorem vK.moved {E : EV} {s U : State} (hW : s.WarmedH U.vm) (h : vK E s) : vK E U :=
  ⟨va_K.moved hW.alike h.1, va_AO.moved hW.alike h.2.1, fun q hq => va_Nw.warmM hW (h.2.2 q hq)⟩
theorem vK.same {E : EV} {s U : State} (hW : s.vm = U.vm) (h : vK E s) : vK E U :=
  ⟨va_K.moved (hW ▸ Vm.Alike.refl s.vm) h.1, va_AO.moved (hW ▸ Vm.Alike.refl s.vm) h.2.1, fun q hq => va_Nw.same rfl hW (h.2.2 q hq)⟩
theorem Pg_blind (E : EV) (As : List Value) (T : TH) : FrameBlind (Pg E As T) := fun a U g mk q => ⟨q.1, q.2.1, q.2.2.same (s := U) (U := U.calling g mk a) rfl⟩
/-- what is known of a method once for all -/
def MF (cm : MR) : Prop := Cond.code cm.2.1 cm.2.2.1 cm.2.2.2.1 cm.2.2.2.2 ∈ lw_g ∧ plainName cm.2.1.cls = true ∧ cm.1 = cm.2.1.cls ∧ cm.2.2.2.1 ≤ 40 ∧ Cond.initialized cm.2.1.cls ∈ lw_g ∧ (cm.2.1.cls ≠ "java/lang/invoke/MethodHandle" ∧ cm.2.1.cls ≠ "java/lang/invoke/VarHandle") ∧ cm.1 ≠ RL
def wg (cm : MR) : List Cond := Cond.code cm.2.1 cm.2.2.1 cm.2.2.2.1 cm.2.2.2.2 :: lw_g
theorem wg_in {cm : MR} (h : MF cm) : ∀ w ∈ wg cm, w ∈ lw_g := fun w hw => (List.mem_cons.mp hw).elim (fun e => e ▸ h.1) id
def rmg (d : Nat) (T T1 : TH) : Room := { frames := d, cells := e_n T1 - e_n T, slots := e_s T1 - e_s T, locals := 64 * d }
theorem met_X {cm : MR} {d : Nat} {As : List Value} {T T1 : TH} {r : Option Value} (hm : MF cm) (hs : (lg_sl As).length ≤ cm.2.2.2.1) (hX : X cm d 0 (lv_args 0 As) [] T r T1) (l : Launch) (E : EV) :
    Met l cm.2.1 (wg cm) (rmg d T T1) (Pg E As T) (Qg E r T1) (e_n T1 - e_n T) (e_s T1 - e_s T) (AA E) := by
  obtain ⟨hm1, hm2, hm3, hm4, hm5, hm6, hm7⟩ := hm
  refine Met.ofW (cc := cm.2.2.1) (maxL := cm.2.2.2.1) (ret := cm.2.2.2.2) hm2 rfl ?_
  intro p e s m args below meth c s₁ B hml hv
  obtain ⟨rfl, hp, hK⟩ := hv
  have hx := B.exec
  have hb := B.bytes
  have hr := B.returns
  have hts := atoms_spec (ws := wg cm) B.pre
  have hown : s.vm.findClass cm.2.1.cls = some m.cls := findClass_of_methodNamed B.named
  have hlocks := B.notSynchronized
  have hin : meth.name = cm.2.1.name := (name_of_methodNamed B.named B.method).1
  rw [lg_entry_eq]
  have hl := lv_entry (As.map (rv E)) (n := cm.2.2.2.1) (by rw [lg_sl_len]; exact hs)
  rw [lv_args_map] at hl
  have w := hX.2 E p l e (rmg d T T1) s m (As.map (rv E)).toArray below meth c s.heap [] _ (e_n T) (e_s T) (MQ below (Qg E r T1) (As.map (rv E)).toArray s (e_n T1 - e_n T) (e_s T1 - e_s T) (AA E))
    ⟨hx, hb, hml, hr, hlocks, by rw [hm3]; exact hown, fun w hw => hts w (List.mem_cons_of_mem _ hw), fun h => hin.trans h, hK, hp.1, ⟨Nat.le_refl _, Nat.le_refl _, Nat.le_refl _, Nat.le_refl _⟩, fun h => absurd h hm7⟩ ⟨Nat.le_refl _, Nat.le_refl _⟩ hl hp va_S.rf ?_
  · rw [Nat.sub_self, Nat.sub_self] at w
    exact w
  · intro H locs pc ls hp1 hS hd
    have hro := hX.1.2.2.2
    have hq : ∀ t : State, t.heap = H → s.WarmedH t.vm → Qg E r T1 (As.map (rv E)).toArray s (.returned (r.map (rv E))) t := fun t ht hW => ⟨rfl, by rw [ht]; exact hp1, hK.moved hW, hS.F ht⟩
    generalize cm.2.2.2.2 = rt at hr hro hd
    cases rt with
    | none =>
      cases r with
      | none => exact W.vret hx hb hr hq hS.2.2 hd
      | some v => exact absurd hro id
    | some ty =>
      cases r with
      | none => cases ty <;> exact absurd hro id
      | some v =>
        cases ty with
        | int => cases v <;> first | exact absurd hro id | exact W.iret hx hb hr hq hS.2.2 hd
        | long => cases v <;> first | exact absurd hro id | exact W.lret hx hb hr hq hS.2.2 hd
        | boolean =>
          cases v with
          | int x => exact W.zret hx hb hr (by rcases hro with rfl | rfl <;> rfl) hq hS.2.2 hd
          | _ => exact absurd hro id
        | object n => cases v <;> first | exact absurd hro id | exact W.aret hx hb hr (Or.inl ⟨_, rfl⟩) (Or.inl rfl) hq hS.2.2 hd | exact W.aret hx hb hr (Or.inl ⟨_, rfl⟩) (Or.inr ⟨_, rfl⟩) hq hS.2.2 hd
        | array n => cases v <;> first | exact absurd hro id | exact W.aret hx hb hr (Or.inr ⟨_, rfl⟩) (Or.inr ⟨_, rfl⟩) hq hS.2.2 hd
        | _ => cases v <;> exact absurd hro id
section Rules4
variable {mm cm : MR} {d pc : Nat} {L : List (Nat × Value)} {st stk : List Value} {T T1 Tf : TH} {r rf : Option Value}
/-- behind a call -/
theorem x_call (As : List Value) (hX : X cm d 0 (lv_args 0 As) [] T r T1) (hm : MF cm) (hs : (lg_sl As).length ≤ cm.2.2.2.1) (k : X mm (d + 1) (pc + 3) L (r.toList ++ st) T1 rf Tf)
    (h : ∀ (E : EV) (p : Program) (l : Launch) (e : Env) (R : Room) (s : State) (m : MethodId) (args : Array Value) (below : List Frame) (meth : Method) (c : Code) (H : Heap) (locs : List Loc) (ls : Array Slot) (cells slots : Nat), p.tables.exec = Jvm.exec → c.code = mm.2.2.1 → c.maxLocals = mm.2.2.2.1 → s.vm.findClass mm.1 = some m.cls → (∀ w ∈ lw_g, w.before args s = true) → vK E s → Hp E T H → ls.size = mm.2.2.2.1 → d + 1 ≤ R.frames → 64 * (d + 1) ≤ R.locals → cells + (e_n T1 - e_n T) ≤ R.cells → slots + (e_s T1 - e_s T) ≤ R.slots →
      Met l cm.2.1 (wg cm) (rmg d T T1) (Pg E As T) (Qg E r T1) (e_n T1 - e_n T) (e_s T1 - e_s T) (AA E) →
      ∃ a, va_Run p l e R s m args below meth c H locs cells slots (e_n T1 - e_n T) (e_s T1 - e_s T) (F0 m pc ls (stk.map (rv E))) (st.map (rv E)) (Qg E r T1 a) (AA E)) : X mm (d + 1) pc L stk T rf Tf := by
  have k1 := k.1.1
  have k2 := k.1.2.1
  have j1 := hX.1.1
  have j2 := hX.1.2.1
  refine ⟨⟨by omega, by omega, k.1.2.2.1.trans hX.1.2.2.1, k.1.2.2.2⟩, fun E p l e R s m args below meth c H locs ls n0 s0 Z C h1 hl hp hS hz => ?_⟩
  have hR := C.2.2.2.2.2.2.2.2.2.2.1
  obtain ⟨a, hrun⟩ := h E p l e R s m args below meth c H locs ls (e_n T - n0) (e_s T - s0) C.1 C.2.1 C.2.2.1 C.2.2.2.2.2.1 C.2.2.2.2.2.2.1 C.2.2.2.2.2.2.2.2.1 hp hl.1 hR.1 hR.2.1 (by omega) (by omega) (met_X hm hs hX l E)
  intro U hU XS
  obtain ⟨v, st₀, t, T', L9, h0, X', hL, e1, e2, ⟨hv, hp1, hK1, hz9, hk9⟩, stp⟩ := hrun U hU XS
  cases hv
  rw [h0] at hz9 hk9
  have w := k.2 E p l e R s m args below meth c T'.heap (locs ++ L9) ls n0 s0 Z (by rw [Cx, hX.1.2.2.1]; exact C) ⟨by omega, by omega⟩ hl (by rw [e1]; exact hp1)
    ⟨Nat.le_trans hS.1 (by rw [e1]; exact hz9), fun q g1 g2 => by rw [e1, hk9 q (Nat.lt_of_lt_of_le g1 hS.1) g2]; exact hS.2.1 q g1 g2, fun q hq => by
      rcases List.mem_append.mp hq with g | g
      · exact hS.2.2 q g
      · exact hL q g⟩ hz
  rw [show e_n T1 - n0 = e_n T - n0 + (e_n T1 - e_n T) by omega, show e_s T1 - s0 = e_s T - s0 + (e_s T1 - e_s T) by omega] at w
  obtain ⟨t2, a1, b1⟩ := w T' rfl X'
  refine ⟨t2, stp t2 ?_, b1⟩
  cases r <;> exact a1
def LV (own : String) (idx ci : Nat) (cm : MR) (n : Nat) : Prop := ci < 9 ∧ Cond.methodLink own idx cm.2.1 ∈ lw_g ∧ Cond.instanceMethod cm.2.1 ∈ lw_g ∧ Cond.selects (clR ci) cm.2.1 cm.2.1 ∈ lw_g ∧ Cond.initialized (clR ci) ∈ lw_g ∧ cm.2.1.cls = clR ci ∧ (parseMethodDescriptor cm.2.1.desc).map (fun d => d.parameters.length) = some n
def LI (own : String) (idx : Nat) (cm : MR) (n : Nat) : Prop := Cond.methodLink own idx cm.2.1 ∈ lw_g ∧ Cond.instanceMethod cm.2.1 ∈ lw_g ∧ cm.2.1.name = "<init>" ∧ cm.2.2.2.2 = none ∧ (parseMethodDescriptor cm.2.1.desc).map (fun d => d.parameters.length) = some n
def LIN (own : String) (idx : Nat) (cm : MR) (n : Nat) : Prop := (own, idx, cm.2.1) ∈ nests ∧ Cond.instanceMethod cm.2.1 ∈ lw_g ∧ cm.2.1.name = "<init>" ∧ cm.2.2.2.2 = none ∧ (parseMethodDescriptor cm.2.1.desc).map (fun d => d.parameters.length) = some n
def LSt (own : String) (idx : Nat) (cm : MR) (n : Nat) : Prop := Cond.methodLink own idx cm.2.1 ∈ lw_g ∧ Cond.static cm.2.1 ∈ lw_g ∧ (parseMethodDescriptor cm.2.1.desc).map (fun d => d.parameters.length) = some n
def LSN (own : String) (idx : Nat) (cm : MR) (n : Nat) : Prop := (own, idx, cm.2.1) ∈ nests ∧ Cond.static cm.2.1 ∈ lw_g ∧ (parseMethodDescriptor cm.2.1.desc).map (fun d => d.parameters.length) = some n
theorem cat_map (E : EV) (st : List Value) : ((st.map (rv E)).map fun v => v.category).sum = (st.map fun v => v.category).sum := by
  rw [List.map_map]
  congr 1
  apply List.map_congr_left
  intro v _
  exact rv_cat E v
theorem x_callV {idx ci n a : Nat} (As : List Value) (hd : decode mm.2.2.1 pc = .ok (.invokevirtual idx, 3)) (hl : LV mm.1 idx ci cm n) (hm : MF cm) (hK : e_K T a = ci + 1) (hX : X cm d 0 (lv_args 0 (.ref a :: As)) [] T r T1) (hstk : stk = As.reverse ++ .ref a :: st) (hn : As.length = n) (hs : (lg_sl (.ref a :: As)).length ≤ cm.2.2.2.1) (hc : (st.map fun v => v.category).sum ≤ 8) (k : X mm (d + 1) (pc + 3) L (r.toList ++ st) T1 rf Tf) : X mm (d + 1) pc L stk T rf Tf := by
  obtain ⟨l1, l2, l3, l4, l5, l6, l7⟩ := hl
  refine x_call (.ref a :: As) hX hm hs k (fun E p l e R s m args below meth c H locs ls cells slots hx hb hml ho hts hK9 hp hls hf hlo hce hsl hM => ⟨(Value.ref (E.1 + a) :: As.map (rv E)).toArray, ?_⟩)
  refine va_runV (C := clR ci) (b := E.1 + a) (As := As.map (rv E)) (ws := wg cm) (bytes := cm.2.2.1) (maxL := cm.2.2.2.1) (ret := cm.2.2.2.2) (Ts := lw_g) (n := n) ⟨hx, hb, hml, ho, hts⟩ hM (cwV n hts (good_g ?_) rfl rfl rfl ⟨l6, hm.2.2.2.2.2.1.1, hm.2.2.2.2.2.1.2, l7⟩ ⟨hf, ?_⟩) ⟨Pg_blind _ _ _, va_recv hK9.1 hp.2.1 (cl_ok ci l1).1 (q0 := a) (by rw [wsE_at E T (hp.lt (by omega)), cellE_o E hK l1]), fun U hU hW => ⟨rfl, by rw [hU]; exact hp, hK9.moved hW⟩⟩ rfl (by simp [hn]) hls ?_ (lv_room (by rw [cat_map]; exact hc)) hd ⟨hce, hsl⟩
  · intro w hw
    unfold wsV at hw
    rcases List.mem_append.mp hw with h | h
    · simp only [List.mem_cons, List.not_mem_nil, or_false] at h
      rcases h with rfl | rfl | rfl | rfl
      · exact l2
      · exact l3
      · exact l4
      · exact l5
    · exact wg_in hm w h
  · have := hm.2.2.2.1
    show 8 + (cm.2.2.2.1 + 11) + 64 * d ≤ R.locals
    omega
  · show stk.map (rv E) = _
    rw [hstk]
    simp [rv]
theorem x_callS {idx n : Nat} (As : List Value) (hd : decode mm.2.2.1 pc = .ok (.invokestatic idx, 3)) (hl : LSt mm.1 idx cm n) (hm : MF cm) (hX : X cm d 0 (lv_args 0 As) [] T r T1) (hstk : stk = As.reverse ++ st) (hn : As.length = n) (hs : (lg_sl As).length ≤ cm.2.2.2.1) (hc : (st.map fun v => v.category).sum ≤ 8) (k : X mm (d + 1) (pc + 3) L (r.toList ++ st) T1 rf Tf) : X mm (d + 1) pc L stk T rf Tf := by
  obtain ⟨l2, l3, l7⟩ := hl
  refine x_call As hX hm hs k (fun E p l e R s m args below meth c H locs ls cells slots hx hb hml ho hts hK9 hp hls hf hlo hce hsl hM => ⟨(As.map (rv E)).toArray, ?_⟩)
  refine va_runS (As := As.map (rv E)) (ws := wg cm) (bytes := cm.2.2.1) (maxL := cm.2.2.2.1) (ret := cm.2.2.2.2) (Ts := lw_g) (n := n) ⟨hx, hb, hml, ho, hts⟩ hM (va_cwS n hts (good_g ?_) rfl rfl rfl ⟨hm.2.2.2.2.2.1.1, hm.2.2.2.2.2.1.2, l7⟩ ⟨hf, ?_⟩) ⟨Pg_blind _ _ _, fun U hU hW => ⟨rfl, by rw [hU]; exact hp, hK9.moved hW⟩⟩ rfl (by simp [hn]) hls ?_ (lv_room (by rw [cat_map]; exact hc)) hd ⟨hce, hsl⟩
  · intro w hw
    unfold va_wsS at hw
    rcases List.mem_append.mp hw with h | h
    · simp only [List.mem_cons, List.not_mem_nil, or_false] at h
      rcases h with rfl | rfl | rfl
      · exact l2
      · exact l3
      · exact hm.2.2.2.2.1
    · exact wg_in hm w h
  · have := hm.2.2.2.1
    show 8 + (cm.2.2.2.1 + 11) + 64 * d ≤ R.locals
    omega
  · show stk.map (rv E) = _
    rw [hstk]
    simp
theorem x_callSN {idx n : Nat} (As : List Value) (hd : decode mm.2.2.1 pc = .ok (.invokestatic idx, 3)) (hl : LSN mm.1 idx cm n) (hm : MF cm) (hX : X cm d 0 (lv_args 0 As) [] T r T1) (hstk : stk = As.reverse ++ st) (hn : As.length = n) (hs : (lg_sl As).length ≤ cm.2.2.2.1) (hc : (st.map fun v => v.category).sum ≤ 8) (k : X mm (d + 1) (pc + 3) L (r.toList ++ st) T1 rf Tf) : X mm (d + 1) pc L stk T rf Tf := by
  obtain ⟨l2, l3, l7⟩ := hl
  refine x_call As hX hm hs k (fun E p l e R s m args below meth c H locs ls cells slots hx hb hml ho hts hK9 hp hls hf hlo hce hsl hM => ⟨(As.map (rv E)).toArray, ?_⟩)
  refine va_runSN (As := As.map (rv E)) (ws := wg cm) (bytes := cm.2.2.1) (maxL := cm.2.2.2.1) (ret := cm.2.2.2.2) (Ts := lw_g) (n := n) (host := RX7) ⟨hx, hb, hml, ho, hts⟩ hM ⟨va_cnB n hts (good_g (wg_in hm)) rfl rfl rfl (hK9.2.2 _ l2) (hts _ hm.2.2.2.2.1) ⟨hm.2.2.2.2.2.1.1, hm.2.2.2.2.2.1.2, l7⟩ ⟨hf, ?_⟩, hts _ l3, trivial⟩ ⟨Pg_blind _ _ _, fun U hU hW => ⟨rfl, by rw [hU]; exact hp, hK9.moved hW⟩⟩ rfl (by simp [hn]) hls ?_ (lv_room (by rw [cat_map]; exact hc)) hd ⟨hce, hsl⟩
  · have := hm.2.2.2.1
    show 8 + (cm.2.2.2.1 + 11) + 64 * d ≤ R.locals
    omega
  · show stk.map (rv E) = _
    rw [hstk]
    simp
theorem x_callI {idx n a : Nat} (As : List Value) (hd : decode mm.2.2.1 pc = .ok (.invokespecial idx, 3)) (hl : LI mm.1 idx cm n) (hm : MF cm) (hX : X cm d 0 (lv_args 0 (.ref a :: As)) [] T r T1) (hstk : stk = As.reverse ++ .ref a :: st) (hn : As.length = n) (hs : (lg_sl (.ref a :: As)).length ≤ cm.2.2.2.1) (hc : (st.map fun v => v.category).sum ≤ 8) (k : X mm (d + 1) (pc + 3) L (r.toList ++ st) T1 rf Tf) : X mm (d + 1) pc L stk T rf Tf := by
  obtain ⟨l2, l3, l4, l5, l7⟩ := hl
  refine x_call (.ref a :: As) hX hm hs k (fun E p l e R s m args below meth c H locs ls cells slots hx hb hml ho hts hK9 hp hls hf hlo hce hsl hM => ⟨(Value.ref (E.1 + a) :: As.map (rv E)).toArray, ?_⟩)
  refine va_runI (b := E.1 + a) (As := As.map (rv E)) (ws := wg cm) (bytes := cm.2.2.1) (maxL := cm.2.2.2.1) (Ts := lw_g) (n := n) ⟨hx, hb, hml, ho, hts⟩ hM (cwI (ws' := lw_g) n hts (good_g (wg_in hm)) (by rw [wg, l5]) rfl rfl (hts _ hm.2.2.2.2.1) (hts _ l2) (hts _ l3) l4 ⟨hm.2.2.2.2.2.1.1, hm.2.2.2.2.2.1.2, l7⟩ ⟨hf, ?_⟩) ⟨Pg_blind _ _ _, fun U hU hW => ⟨rfl, by rw [hU]; exact hp, hK9.moved hW⟩⟩ rfl (by simp [hn]) hls ?_ (lv_room (by rw [cat_map]; exact hc)) hd ⟨hce, hsl⟩
  · have := hm.2.2.2.1
    show 8 + (cm.2.2.2.1 + 11) + 64 * d ≤ R.locals
    omega
  · show stk.map (rv E) = _
    rw [hstk]
    simp [rv]
theorem x_callIN {idx n a : Nat} (As : List Value) (hd : decode mm.2.2.1 pc = .ok (.invokespecial idx, 3)) (hl : LIN mm.1 idx cm n) (hm : MF cm) (hX : X cm d 0 (lv_args 0 (.ref a :: As)) [] T r T1) (hstk : stk = As.reverse ++ .ref a :: st) (hn : As.length = n) (hs : (lg_sl (.ref a :: As)).length ≤ cm.2.2.2.1) (hc : (st.map fun v => v.category).sum ≤ 8) (k : X mm (d + 1) (pc + 3) L (r.toList ++ st) T1 rf Tf) : X mm (d + 1) pc L stk T rf Tf := by
  obtain ⟨l2, l3, l4, l5, l7⟩ := hl
  refine x_call (.ref a :: As) hX hm hs k (fun E p l e R s m args below meth c H locs ls cells slots hx hb hml ho hts hK9 hp hls hf hlo hce hsl hM => ⟨(Value.ref (E.1 + a) :: As.map (rv E)).toArray, ?_⟩)
  refine va_runIN (b := E.1 + a) (As := As.map (rv E)) (ws := wg cm) (bytes := cm.2.2.1) (maxL := cm.2.2.2.1) (Ts := lw_g) (n := n) (host := RX7) ⟨hx, hb, hml, ho, hts⟩ hM ⟨va_cnB (ws' := lw_g) n hts (good_g (wg_in hm)) (by rw [wg, l5]) rfl rfl (hK9.2.2 _ l2) (hts _ hm.2.2.2.2.1) ⟨hm.2.2.2.2.2.1.1, hm.2.2.2.2.2.1.2, l7⟩ ⟨hf, ?_⟩, l4, hts _ l3⟩ ⟨Pg_blind _ _ _, fun U hU hW => ⟨rfl, by rw [hU]; exact hp, hK9.moved hW⟩⟩ rfl (by simp [hn]) hls ?_ (lv_room (by rw [cat_map]; exact hc)) hd ⟨hce, hsl⟩
  · have := hm.2.2.2.1
    show 8 + (cm.2.2.2.1 + 11) + 64 * d ≤ R.locals
    omega
  · show stk.map (rv E) = _
    rw [hstk]
    simp [rv]
/-- Object's constructor -/
theorem oi_c : Cond.code objectInit ⟨#[0xb1]⟩ 1 none ∈ lw_g := inG (by decide +kernel) (by decide +kernel)
theorem oi_i : Cond.instanceMethod objectInit ∈ lw_g := inG (by decide +kernel) (by decide +kernel)
theorem x_objInit {idx a : Nat} (hd : decode mm.2.2.1 pc = .ok (.invokespecial idx, 3)) (hl : Cond.methodLink mm.1 idx objectInit ∈ lw_g) (hc : (st.map fun v => v.category).sum ≤ 8) (k : X mm (d + 1) (pc + 3) L st T rf Tf) : X mm (d + 1) pc L (.ref a :: st) T rf Tf :=
  ⟨k.1, fun E p l e R s m args below meth c H locs ls n0 s0 Z C h1 hls hp hS hz => by
    have hR := C.2.2.2.2.2.2.2.2.2.2.1
    have hts := C.2.2.2.2.2.2.1
    have hcm := cat_map E st
    refine W.objInit C.1 C.2.1 C.2.2.2.2.2.1 (hts _ hl) (hts _ oi_i) (hts _ oi_c) rfl (hls.1.trans C.2.2.1.symm) (rest := st.map (rv E)) rfl hd (by omega) ?_ (k.2 E p l e R s m args below meth c H locs ls n0 s0 Z C h1 hls hp hS hz)
    have := lv_room (m := m) (pc := pc) (ls := ls) (rest := (Value.ref a :: st).map (rv E)) (st := st.map (rv E)) (by omega)
    omega⟩
end Rules4
end
section
/-! THE ENGINE, part e: copies of rows; the law's start -/
def R_law : String := "TreeTablesLaw"
def lw_P (b : Addr) (xs : List Int32) (args : Array Value) (s : State) : Prop := args = #[.ref b] ∧ s.IntsAt b xs ∧ xs.length ≤ 3584 ∧ (Jvm.Cond.and given_1 narrow_1).before args s = true
def lw_Q (_ : Array Value) (s : State) (o : Outcome) (t : State) : Prop := o = .returned (some (.int 1)) ∧ Framed s o t [] 600000 7302250
def lw_Z (below : List Frame) (a : Array Value) (s : State) : State → Prop := fun t => ∃ o, t.status = .running ∧ Ended t below o ∧ lw_Q a s o t
/-- the law's own end, with 1 on the stack, nothing written that was there before, its room as the claim has it -/
theorem lw_ret {p : Program} {l : Launch} {e : Env} {s : State} {m : MethodId} {below : List Frame} {meth : Method} {c : Code} {b : Nat} (hx : p.tables.exec = Jvm.exec) (hb : c.code = code) (hr : meth.sig.returnType = ret) (hlocks : meth.locks = false) {pc : Nat} {H : Heap} {ls : Array Slot} (hdg : decode code pc = .ok (.ireturn, 1)) : W p l e room_1 s m #[Value.ref b] below meth c H [] 600000 7302250 (lw_Z below #[Value.ref b] s) (F0 m pc ls [.int 1]) := by
  intro T hT X
  obtain ⟨fs, hret, hrun, hended, hW, hframe⟩ := X.leave (v := some (.int 1)) (hlocks := hlocks) (fun h => by rw [hr] at h; cases h)
  have hmeth' : T.vm.method? m = some meth := X.method'
  refine ⟨T.setFrames fs, ?_, .returned (some (.int 1)), hrun, hended, rfl, ⟨_, rfl⟩, hW, hframe⟩
  jvm_step X.here [X.here.top, hx, hb, hdg, hmeth', hr, ret, narrow_b1]
  (try refine ⟨rfl, ?_⟩); (try refine ⟨rfl, ?_⟩)
  first | (intro acts; rw [hret _ acts rfl rfl rfl]) | rw [hret _ _ rfl rfl rfl]
  exact Steps.refl _
/-- what holds at the law's entry: the machine, the code, the tables' words (any of lw_tbl by 'hts w (by decide +kernel)'), the script of L ints xs at the cell b, what the Statement gives of the start (any of its parts by flat_of_before) -/
def lw_At (p : Program) (s : State) (m : MethodId) (meth : Method) (c : Code) (b L : Nat) (xs : Nat → Int32) : Prop :=
  p.tables.exec = Jvm.exec ∧ c.code = code ∧ meth.sig.returnType = ret ∧ c.maxLocals = 4 ∧ s.vm.findClass R_law = some m.cls ∧ (∀ w ∈ lw_tbl, w.before #[Value.ref b] s = true) ∧ va_X b L xs s s.heap ∧ b < s.heap.size ∧ meth.locks = false ∧ (Jvm.Cond.and given_1 narrow_1).before #[Value.ref b] s = true

section Rules5
variable {mm : MR} {d pc : Nat} {L : List (Nat × Value)} {st : List Value} {T Tf : TH} {r : Option Value}
theorem ac_n : Cond.native arraycopyName ∈ lw_g := inG (by decide +kernel) (by decide +kernel)
theorem ac_s : Cond.static arraycopyName ∈ lw_g := inG (by decide +kernel) (by decide +kernel)
theorem ac_i : Cond.initialized "java/lang/System" ∈ lw_g := inG (by decide +kernel) (by decide +kernel)
theorem cpy_row (E : EV) {T : TH} {a : Nat} {f : Nat → Int32} {k : Nat} (hk : k < 23) : kDat E (s_ais T a f) k a = .inl f := by
  unfold kDat
  rw [if_neg (by omega), if_neg (by omega)]
  exact congrArg Sum.inl (va_up_self _ _ _)
theorem x_acopyi {idx a b n : Nat} {z : Int32} (hd : decode mm.2.2.1 pc = .ok (.invokestatic idx, 3)) (hl : Cond.methodLink mm.1 idx arraycopyName ∈ lw_g) (ha : e_K T a = 20) (hb9 : e_K T b = 20) (hz : z = nI n) (h1 : n ≤ e_len T a) (h2 : n ≤ e_len T b) (hc : (st.map fun v => v.category).sum ≤ 8) (k : X mm (d + 1) (pc + 3) L st (s_ais T b (va_cpy (e_ai T a) (e_ai T b) 0 0 n)) r Tf) : X mm (d + 1) pc L (.int z :: .int 0 :: .ref b :: .int 0 :: .ref a :: st) T r Tf := by
  refine ⟨k.1, fun E p l e R s m args below meth c H locs ls n0 s0 Z C g1 hls hp hS hz9 => ?_⟩
  have hR := C.2.2.2.2.2.2.2.2.2.2.1
  have hts := C.2.2.2.2.2.2.1
  have hKK := C.2.2.2.2.2.2.2.2.1
  have h0 : s.heap.size = E.1 + n0 := C.2.2.2.2.2.2.2.2.2.1
  have hcm := cat_map E st
  have hla := hp.2.2.2 a
  subst hz
  have hcl : (nI n).toNatClampNeg = n := nI_clamp (by omega)
  have hc0 : (0 : Int32).toNatClampNeg = 0 := rfl
  refine va_copyi C.1 C.2.1 (by rw [C.2.2.1, hls.1]) C.2.2.2.2.2.1 (hts _ hl) (hts _ ac_n) (hts _ ac_s) (hts _ ac_i) hKK.1 hp.2.1 (wsE_D E T) hS a b 0 0 (by rw [wsE_at E T (hp.lt (by omega)), cellE_a E ha (by omega)]; rfl) (by rw [wsE_at E T (hp.lt (by omega)), cellE_a E hb9 (by omega)]; rfl) rfl rfl rfl (by decide) (by decide) (nI_pos (by omega)) (by rw [hcl, hc0]; omega) (by rw [hcl, hc0]; omega) (fun i hi => rfl) (by omega) (by show _ + (nativeFrameWords "java/lang/System" "arraycopy" 5 + 11) ≤ _; rw [show nativeFrameWords "java/lang/System" "arraycopy" 5 = 7 by decide]; omega) hd (fun H1 locs1 hP1 hD1 hS1 => ?_)
  rw [hcl, hc0] at hP1
  refine W_sz (fun hsz => ?_)
  have hlt := hp.lt (a := b) (by omega)
  have hP2 : va_P E.2.2.1 vwCl (wsE E (s_ais T b (va_cpy (e_ai T a) (e_ai T b) 0 0 n))) H1 := by
    rw [← wsE_set E (T := T) (T' := s_ais T b (va_cpy (e_ai T a) (e_ai T b) 0 0 n)) (a := b) (c := .inl (kCl E 20, e_len T b, .inl (va_cpy (e_ai T a) (e_ai T b) 0 0 n))) rfl ?_ ?_]
    · exact hP1
    · rw [cellE_a E (T := s_ais T b _) (a := b) (k := 20) hb9 (by omega), cpy_row E (by omega)]
      rfl
    · intro q hq
      refine cellE_ne E rfl rfl (fun _ _ => rfl) (va_up_ne _ _ hq) rfl rfl
  exact k.2 E p l e R s m args below meth c H1 locs1 ls n0 s0 Z C g1 hls (Hp_of hP2 (Nat.lt_of_le_of_lt (Nat.zero_le _) hlt) (by show H1.size ≤ E.1 + e_n T; omega) hp.2.2.1 hp.2.2.2) hS1 hz9
theorem x_acopyl {idx a b n : Nat} {z : Int32} (hd : decode mm.2.2.1 pc = .ok (.invokestatic idx, 3)) (hl : Cond.methodLink mm.1 idx arraycopyName ∈ lw_g) (ha : e_K T a = 23) (hb9 : e_K T b = 23) (hz : z = nI n) (h1 : n ≤ e_len T a) (h2 : n ≤ e_len T b) (hc : (st.map fun v => v.category).sum ≤ 8) (k : X mm (d + 1) (pc + 3) L st (s_als T b (va_cpy (e_al T a) (e_al T b) 0 0 n)) r Tf) : X mm (d + 1) pc L (.int z :: .int 0 :: .ref b :: .int 0 :: .ref a :: st) T r Tf := by
  refine ⟨k.1, fun E p l e R s m args below meth c H locs ls n0 s0 Z C g1 hls hp hS hz9 => ?_⟩
  have hR := C.2.2.2.2.2.2.2.2.2.2.1
  have hts := C.2.2.2.2.2.2.1
  have hKK := C.2.2.2.2.2.2.2.2.1
  have h0 : s.heap.size = E.1 + n0 := C.2.2.2.2.2.2.2.2.2.1
  have hcm := cat_map E st
  have hla := hp.2.2.2 a
  subst hz
  have hcl : (nI n).toNatClampNeg = n := nI_clamp (by omega)
  have hc0 : (0 : Int32).toNatClampNeg = 0 := rfl
  refine va_copyl C.1 C.2.1 (by rw [C.2.2.1, hls.1]) C.2.2.2.2.2.1 (hts _ hl) (hts _ ac_n) (hts _ ac_s) (hts _ ac_i) hKK.1 hp.2.1 (wsE_D E T) hS a b 3 3 (by rw [wsE_at E T (hp.lt (by omega)), cellE_a E ha (by omega)]; rfl) (by rw [wsE_at E T (hp.lt (by omega)), cellE_a E hb9 (by omega)]; rfl) rfl rfl rfl (by decide) (by decide) (nI_pos (by omega)) (by rw [hcl, hc0]; omega) (by rw [hcl, hc0]; omega) (fun i hi => rfl) (by omega) (by show _ + (nativeFrameWords "java/lang/System" "arraycopy" 5 + 11) ≤ _; rw [show nativeFrameWords "java/lang/System" "arraycopy" 5 = 7 by decide]; omega) hd (fun H1 locs1 hP1 hD1 hS1 => ?_)
  rw [hcl, hc0] at hP1
  refine W_sz (fun hsz => ?_)
  have hlt := hp.lt (a := b) (by omega)
  have hP2 : va_P E.2.2.1 vwCl (wsE E (s_als T b (va_cpy (e_al T a) (e_al T b) 0 0 n))) H1 := by
    rw [← wsE_set E (T := T) (T' := s_als T b (va_cpy (e_al T a) (e_al T b) 0 0 n)) (a := b) (c := .inl (kCl E 23, e_len T b, .inr (.inl (va_cpy (e_al T a) (e_al T b) 0 0 n)))) rfl ?_ ?_]
    · exact hP1
    · rw [cellE_a E (T := s_als T b _) (a := b) (k := 23) hb9 (by omega)]
      show Sum.inl (kCl E 23, e_len T b, Sum.inr (Sum.inl (va_up (e_al T) b (va_cpy (e_al T a) (e_al T b) 0 0 n) b))) = _
      rw [va_up_self]
    · intro q hq
      refine cellE_ne E rfl rfl (fun _ _ => rfl) rfl (va_up_ne _ _ hq) rfl
  exact k.2 E p l e R s m args below meth c H1 locs1 ls n0 s0 Z C g1 hls (Hp_of hP2 (Nat.lt_of_le_of_lt (Nat.zero_le _) hlt) (by show H1.size ≤ E.1 + e_n T; omega) hp.2.2.1 hp.2.2.2) hS1 hz9
end Rules5
abbrev m_law : MR := (RL, x, code, 4, some .boolean)
/-- nothing made yet -/
def T_0 (n : Nat) (xs : Nat → Int32) : TH := (fun _ => 0, fun _ _ => 0, fun _ _ => 0, fun _ _ => none, fun _ _ => 0, fun _ _ => 0, fun _ _ => none, fun _ => 0, 0, 0, (n, xs))
theorem arr_known {s : State} {args : Array Value} {ty : FieldType} (hp : ∀ n, ty ≠ .object n) (h : (Cond.arrayClass ty).before args s = true) : ∃ cA, ArrOfT s cA ty ∧ va_RA s cA ty := by
  obtain ⟨cA, kA, comp, h1, h2, h3⟩ := Cond.arrayClass_spec h
  refine ⟨cA, fun n z => ⟨fun k h => (by cases h), kA, h2, comp, h3⟩, ?_⟩
  cases ty <;> first | exact h1 | exact absurd rfl (hp _)
theorem arr_knownT {s : State} {args : Array Value} {n : String} (h : (Cond.arrayOver (.object n)).before args s = true) : ∃ cA, ArrOfT s cA (.object n) ∧ va_RA s cA (.object n) := by
  obtain ⟨comp, cA, kA, h1, h2, h3, h4, h5⟩ := Cond.arrayOver_spec h
  exact ⟨cA, fun n z => ⟨fun k h => (by cases h), kA, h3, comp, h4⟩, kA, comp, h3, h4, h1, h5⟩
theorem nest_in : nests.all (fun q => decide (Cond.methodLinkNest q.1 q.2.1 q.2.2 RX7 ∈ lw_tbl)) = true := by decide +kernel
set_option maxHeartbeats 4000000 in
theorem law_of_X {p : Program} {e : Env} {s : State} {m : MethodId} {below : List Frame} {meth : Method} {c : Code} (l : Launch) {b N : Nat} {xs : Nat → Int32} {Tf : TH} (hX : X m_law 1000 0 [(0, .float 0)] [] (T_0 N xs) (some (.int 1)) Tf) (h1 : e_n Tf ≤ 600000) (h2 : e_s Tf ≤ 7302250) (C0 : lw_At p s m meth c b N xs) : W p l e room_1 s m #[Value.ref b] below meth c s.heap [] 0 0 (lw_Z below #[Value.ref b] s) (entryFrame m ([Value.ref b] : List Value).toArray 4) := by
  obtain ⟨hx, hb, hr, hml, hown, hts, hXs, hbl, hlocks, hgv⟩ := id C0
  have hts' : ∀ w ∈ lw_g, w.before #[Value.ref b] s = true := fun w hw => hts w (List.mem_filter.mp hw).1
  obtain ⟨c0, i0, hKn0⟩ := u_known (C := RX0) (T := TX0) (N := 8) (n := 8) hts inX0 (hts (.instantiable RX0 8) (by decide +kernel))
  obtain ⟨c1, i1, hKn1⟩ := u_known (C := RX1) (T := TX1) (N := 12) (n := 12) hts inX1 (hts (.instantiable RX1 12) (by decide +kernel))
  obtain ⟨c2, i2, hKn2⟩ := u_known (C := RX2) (T := TX2) (N := 4) (n := 4) hts inX2 (hts (.instantiable RX2 4) (by decide +kernel))
  obtain ⟨c3, i3, hKn3⟩ := u_known (C := RX3) (T := TX3) (N := 9) (n := 9) hts inX3 (hts (.instantiable RX3 9) (by decide +kernel))
  obtain ⟨c4, i4, hKn4⟩ := u_known (C := RX4) (T := TX4) (N := 8) (n := 8) hts inX4 (hts (.instantiable RX4 8) (by decide +kernel))
  obtain ⟨c5, i5, hKn5⟩ := u_known (C := RX5) (T := TX5) (N := 2) (n := 2) hts inX5 (hts (.instantiable RX5 2) (by decide +kernel))
  obtain ⟨c6, i6, hKn6⟩ := u_known (C := RX6) (T := TX6) (N := 5) (n := 5) hts inX6 (hts (.instantiable RX6 5) (by decide +kernel))
  obtain ⟨c7, i7, hKn7⟩ := u_known (C := RX7) (T := TX7) (N := 6) (n := 6) hts inX7 (hts (.instantiable RX7 6) (by decide +kernel))
  obtain ⟨c8, i8, hKn8⟩ := u_known (C := RX8) (T := TX8) (N := 54) (n := 54) hts inX8 (hts (.instantiable RX8 54) (by decide +kernel))
  obtain ⟨cI, hI⟩ := arr_known (ty := .int) (fun n h => by cases h) (hts' _ arrc_int)
  obtain ⟨cB, hB⟩ := arr_known (ty := .byte) (fun n h => by cases h) (hts' _ arrc_byte)
  obtain ⟨cZ, hZ⟩ := arr_known (ty := .boolean) (fun n h => by cases h) (hts' _ arrc_boolean)
  obtain ⟨cJ, hJ⟩ := arr_known (ty := .long) (fun n h => by cases h) (hts' _ arrc_long)
  have hAO : (Cond.arrayOver (.object RX3)).before #[Value.ref b] s = true := hts _ (by decide +kernel)
  obtain ⟨cT, hT⟩ := arr_knownT hAO
  have hvK : vK (s.heap.size, b, (fun k => [c0, c1, c2, c3, c4, c5, c6, c7, c8].getD k 0, fun k => [i0, i1, i2, i3, i4, i5, i6, i7, i8].getD k (fun _ => 0)), cI, cB, cZ, cJ, cT) s := by
    refine ⟨⟨?_, ?_⟩, hAO, ?_⟩
    · intro k q hq
      match k, hq with
      | 0, hq => cases hq; exact hKn0
      | 1, hq => cases hq; exact hKn1
      | 2, hq => cases hq; exact hKn2
      | 3, hq => cases hq; exact hKn3
      | 4, hq => cases hq; exact hKn4
      | 5, hq => cases hq; exact hKn5
      | 6, hq => cases hq; exact hKn6
      | 7, hq => cases hq; exact hKn7
      | 8, hq => cases hq; exact hKn8
      | k + 9, hq => simp [vwCl] at hq
    · intro k q hq
      match k, hq with
      | 0, hq => cases hq; exact hI
      | 1, hq => cases hq; exact hB
      | 2, hq => cases hq; exact hZ
      | 3, hq => cases hq; exact hJ
      | 4, hq => cases hq; exact hT
      | k + 5, hq => simp [eTys] at hq
    · intro q hq
      exact va_Nw.of rfl (hts _ (of_decide_eq_true (List.all_eq_true.mp nest_in q hq)))
  generalize hE : ((s.heap.size, b, (fun k => [c0, c1, c2, c3, c4, c5, c6, c7, c8].getD k 0, fun k => [i0, i1, i2, i3, i4, i5, i6, i7, i8].getD k (fun _ => 0)), cI, cB, cZ, cJ, cT) : EV) = E at hvK
  have hE1 : E.1 = s.heap.size := by rw [← hE]
  have hE2 : E.2.1 = b := by rw [← hE]
  have hl := lv_entry ([.ref b]) (n := 4) (Nat.le_of_ble_eq_true rfl)
  rw [lg_entry_eq]
  generalize (lg_sl ([.ref b]) ++ List.replicate (4 - (lg_sl ([.ref b])).length) Slot.unset).toArray = ls at hl ⊢
  have w := hX.2 E p l e room_1 s m #[Value.ref b] below meth c s.heap [] ls 0 0 (lw_Z below #[Value.ref b] s)
    ⟨hx, hb, hml, hr, hlocks, hown, hts', fun h => absurd h (by decide), hvK, by rw [hE1]; rfl, ⟨by decide, by decide, by show e_n Tf - 0 ≤ 600000; omega, by show e_s Tf - 0 ≤ 7302250; omega⟩, fun _ => ⟨by rw [hE2]; exact hXs, by rw [hE2]; exact hbl, by rw [AA, hE1, hE2]; omega⟩⟩ ⟨Nat.le_refl 0, Nat.le_refl 0⟩
    (by rw [← hE2] at hl; exact hl) ⟨by rw [hE1]; rfl, fun k q hq => by simp [wsE, T_0, e_n] at hq, fun _ _ => rfl, fun _ => by show (0 : Nat) < _; omega⟩ va_S.rf ?_
  · exact w
  · intro H locs pc ls hp hS hd
    refine va_forget (fun q hq => by have := hS.2.2 q hq; rw [AA, hE1] at this; exact this) ?_
    refine W.widen (k := 600000) (n := 7302250) (by omega) (by omega) ?_
    exact lw_ret hx hb hr hlocks hd
end
section
/-! links: methods, fields, calls, constants -/
abbrev m_X0_init : MR := (RX0, yX0_init, cX0_init, 5, none)
theorem mf_X0_init : MF m_X0_init := ⟨(inG (List.mem_of_getElem? (i := 464) (by decide +kernel)) (by decide +kernel)), by decide +kernel, rfl, by decide, (inG (List.mem_of_getElem? (i := 79) (by decide +kernel)) (by decide +kernel)), ⟨by decide +kernel, by decide +kernel⟩, by decide +kernel⟩
abbrev m_X0_readAll : MR := (RX0, yX0_readAll, cX0_readAll, 3, (some .boolean))
theorem mf_X0_readAll : MF m_X0_readAll := ⟨(inG (List.mem_of_getElem? (i := 495) (by decide +kernel)) (by decide +kernel)), by decide +kernel, rfl, by decide, (inG (List.mem_of_getElem? (i := 79) (by decide +kernel)) (by decide +kernel)), ⟨by decide +kernel, by decide +kernel⟩, by decide +kernel⟩
abbrev m_X0_readPart : MR := (RX0, yX0_readPart, cX0_readPart, 2, (some .boolean))
theorem mf_X0_readPart : MF m_X0_readPart := ⟨(inG (List.mem_of_getElem? (i := 500) (by decide +kernel)) (by decide +kernel)), by decide +kernel, rfl, by decide, (inG (List.mem_of_getElem? (i := 79) (by decide +kernel)) (by decide +kernel)), ⟨by decide +kernel, by decide +kernel⟩, by decide +kernel⟩
abbrev m_X0_readEnd : MR := (RX0, yX0_readEnd, cX0_readEnd, 1, (some .boolean))
theorem mf_X0_readEnd : MF m_X0_readEnd := ⟨(inG (List.mem_of_getElem? (i := 505) (by decide +kernel)) (by decide +kernel)), by decide +kernel, rfl, by decide, (inG (List.mem_of_getElem? (i := 79) (by decide +kernel)) (by decide +kernel)), ⟨by decide +kernel, by decide +kernel⟩, by decide +kernel⟩
abbrev m_X0_readClose : MR := (RX0, yX0_readClose, cX0_readClose, 1, (some .boolean))
theorem mf_X0_readClose : MF m_X0_readClose := ⟨(inG (List.mem_of_getElem? (i := 564) (by decide +kernel)) (by decide +kernel)), by decide +kernel, rfl, by decide, (inG (List.mem_of_getElem? (i := 79) (by decide +kernel)) (by decide +kernel)), ⟨by decide +kernel, by decide +kernel⟩, by decide +kernel⟩
abbrev m_X0_readEntry : MR := (RX0, yX0_readEntry, cX0_readEntry, 4, (some .boolean))
theorem mf_X0_readEntry : MF m_X0_readEntry := ⟨(inG (List.mem_of_getElem? (i := 570) (by decide +kernel)) (by decide +kernel)), by decide +kernel, rfl, by decide, (inG (List.mem_of_getElem? (i := 79) (by decide +kernel)) (by decide +kernel)), ⟨by decide +kernel, by decide +kernel⟩, by decide +kernel⟩
abbrev m_X0_kindBegunBy : MR := (RX0, yX0_kindBegunBy, cX0_kindBegunBy, 1, (some .int))
theorem mf_X0_kindBegunBy : MF m_X0_kindBegunBy := ⟨(inG (List.mem_of_getElem? (i := 576) (by decide +kernel)) (by decide +kernel)), by decide +kernel, rfl, by decide, (inG (List.mem_of_getElem? (i := 79) (by decide +kernel)) (by decide +kernel)), ⟨by decide +kernel, by decide +kernel⟩, by decide +kernel⟩
abbrev m_X0_readValue : MR := (RX0, yX0_readValue, cX0_readValue, 3, (some .boolean))
theorem mf_X0_readValue : MF m_X0_readValue := ⟨(inG (List.mem_of_getElem? (i := 584) (by decide +kernel)) (by decide +kernel)), by decide +kernel, rfl, by decide, (inG (List.mem_of_getElem? (i := 79) (by decide +kernel)) (by decide +kernel)), ⟨by decide +kernel, by decide +kernel⟩, by decide +kernel⟩
abbrev m_X0_readNumber : MR := (RX0, yX0_readNumber, cX0_readNumber, 7, (some .boolean))
theorem mf_X0_readNumber : MF m_X0_readNumber := ⟨(inG (List.mem_of_getElem? (i := 588) (by decide +kernel)) (by decide +kernel)), by decide +kernel, rfl, by decide, (inG (List.mem_of_getElem? (i := 79) (by decide +kernel)) (by decide +kernel)), ⟨by decide +kernel, by decide +kernel⟩, by decide +kernel⟩
abbrev m_X0_readLetters : MR := (RX0, yX0_readLetters, cX0_readLetters, 3, (some .boolean))
theorem mf_X0_readLetters : MF m_X0_readLetters := ⟨(inG (List.mem_of_getElem? (i := 594) (by decide +kernel)) (by decide +kernel)), by decide +kernel, rfl, by decide, (inG (List.mem_of_getElem? (i := 79) (by decide +kernel)) (by decide +kernel)), ⟨by decide +kernel, by decide +kernel⟩, by decide +kernel⟩
abbrev m_X0_readOpen : MR := (RX0, yX0_readOpen, cX0_readOpen, 4, (some .boolean))
theorem mf_X0_readOpen : MF m_X0_readOpen := ⟨(inG (List.mem_of_getElem? (i := 599) (by decide +kernel)) (by decide +kernel)), by decide +kernel, rfl, by decide, (inG (List.mem_of_getElem? (i := 79) (by decide +kernel)) (by decide +kernel)), ⟨by decide +kernel, by decide +kernel⟩, by decide +kernel⟩
abbrev m_X0_levelHere : MR := (RX0, yX0_levelHere, cX0_levelHere, 1, (some .int))
theorem mf_X0_levelHere : MF m_X0_levelHere := ⟨(inG (List.mem_of_getElem? (i := 523) (by decide +kernel)) (by decide +kernel)), by decide +kernel, rfl, by decide, (inG (List.mem_of_getElem? (i := 79) (by decide +kernel)) (by decide +kernel)), ⟨by decide +kernel, by decide +kernel⟩, by decide +kernel⟩
abbrev m_X0_layLacking : MR := (RX0, yX0_layLacking, cX0_layLacking, 2, (some .boolean))
theorem mf_X0_layLacking : MF m_X0_layLacking := ⟨(inG (List.mem_of_getElem? (i := 510) (by decide +kernel)) (by decide +kernel)), by decide +kernel, rfl, by decide, (inG (List.mem_of_getElem? (i := 79) (by decide +kernel)) (by decide +kernel)), ⟨by decide +kernel, by decide +kernel⟩, by decide +kernel⟩
abbrev m_X0_layLackingLeaves : MR := (RX0, yX0_layLackingLeaves, cX0_layLackingLeaves, 3, none)
theorem mf_X0_layLackingLeaves : MF m_X0_layLackingLeaves := ⟨(inG (List.mem_of_getElem? (i := 514) (by decide +kernel)) (by decide +kernel)), by decide +kernel, rfl, by decide, (inG (List.mem_of_getElem? (i := 79) (by decide +kernel)) (by decide +kernel)), ⟨by decide +kernel, by decide +kernel⟩, by decide +kernel⟩
abbrev m_X0_lay : MR := (RX0, yX0_lay, cX0_lay, 7, none)
theorem mf_X0_lay : MF m_X0_lay := ⟨(inG (List.mem_of_getElem? (i := 528) (by decide +kernel)) (by decide +kernel)), by decide +kernel, rfl, by decide, (inG (List.mem_of_getElem? (i := 79) (by decide +kernel)) (by decide +kernel)), ⟨by decide +kernel, by decide +kernel⟩, by decide +kernel⟩
abbrev m_X1_init : MR := (RX1, yX1_init, cX1_init, 1, none)
theorem mf_X1_init : MF m_X1_init := ⟨(inG (List.mem_of_getElem? (i := 205) (by decide +kernel)) (by decide +kernel)), by decide +kernel, rfl, by decide, (inG (List.mem_of_getElem? (i := 76) (by decide +kernel)) (by decide +kernel)), ⟨by decide +kernel, by decide +kernel⟩, by decide +kernel⟩
abbrev m_X1_clear : MR := (RX1, yX1_clear, cX1_clear, 1, none)
theorem mf_X1_clear : MF m_X1_clear := ⟨(inG (List.mem_of_getElem? (i := 335) (by decide +kernel)) (by decide +kernel)), by decide +kernel, rfl, by decide, (inG (List.mem_of_getElem? (i := 76) (by decide +kernel)) (by decide +kernel)), ⟨by decide +kernel, by decide +kernel⟩, by decide +kernel⟩
abbrev m_X1_isField : MR := (RX1, yX1_isField, cX1_isField, 2, (some .boolean))
theorem mf_X1_isField : MF m_X1_isField := ⟨(inG (List.mem_of_getElem? (i := 367) (by decide +kernel)) (by decide +kernel)), by decide +kernel, rfl, by decide, (inG (List.mem_of_getElem? (i := 76) (by decide +kernel)) (by decide +kernel)), ⟨by decide +kernel, by decide +kernel⟩, by decide +kernel⟩
abbrev m_X1_fieldOfLeaf : MR := (RX1, yX1_fieldOfLeaf, cX1_fieldOfLeaf, 2, (some .int))
theorem mf_X1_fieldOfLeaf : MF m_X1_fieldOfLeaf := ⟨(inG (List.mem_of_getElem? (i := 450) (by decide +kernel)) (by decide +kernel)), by decide +kernel, rfl, by decide, (inG (List.mem_of_getElem? (i := 76) (by decide +kernel)) (by decide +kernel)), ⟨by decide +kernel, by decide +kernel⟩, by decide +kernel⟩
abbrev m_X1_add : MR := (RX1, yX1_add, cX1_add, 5, (some .int))
theorem mf_X1_add : MF m_X1_add := ⟨(inG (List.mem_of_getElem? (i := 417) (by decide +kernel)) (by decide +kernel)), by decide +kernel, rfl, by decide, (inG (List.mem_of_getElem? (i := 76) (by decide +kernel)) (by decide +kernel)), ⟨by decide +kernel, by decide +kernel⟩, by decide +kernel⟩
abbrev m_X1_makeLeaf : MR := (RX1, yX1_makeLeaf, cX1_makeLeaf, 3, (some .boolean))
theorem mf_X1_makeLeaf : MF m_X1_makeLeaf := ⟨(inG (List.mem_of_getElem? (i := 429) (by decide +kernel)) (by decide +kernel)), by decide +kernel, rfl, by decide, (inG (List.mem_of_getElem? (i := 76) (by decide +kernel)) (by decide +kernel)), ⟨by decide +kernel, by decide +kernel⟩, by decide +kernel⟩
abbrev m_X1_find : MR := (RX1, yX1_find, cX1_find, 5, (some .int))
theorem mf_X1_find : MF m_X1_find := ⟨(inG (List.mem_of_getElem? (i := 413) (by decide +kernel)) (by decide +kernel)), by decide +kernel, rfl, by decide, (inG (List.mem_of_getElem? (i := 76) (by decide +kernel)) (by decide +kernel)), ⟨by decide +kernel, by decide +kernel⟩, by decide +kernel⟩
abbrev m_X1_measure : MR := (RX1, yX1_measure, cX1_measure, 4, none)
theorem mf_X1_measure : MF m_X1_measure := ⟨(inG (List.mem_of_getElem? (i := 434) (by decide +kernel)) (by decide +kernel)), by decide +kernel, rfl, by decide, (inG (List.mem_of_getElem? (i := 76) (by decide +kernel)) (by decide +kernel)), ⟨by decide +kernel, by decide +kernel⟩, by decide +kernel⟩
abbrev m_X1_deepUpTo : MR := (RX1, yX1_deepUpTo, cX1_deepUpTo, 2, (some .int))
theorem mf_X1_deepUpTo : MF m_X1_deepUpTo := ⟨(inG (List.mem_of_getElem? (i := 438) (by decide +kernel)) (by decide +kernel)), by decide +kernel, rfl, by decide, (inG (List.mem_of_getElem? (i := 76) (by decide +kernel)) (by decide +kernel)), ⟨by decide +kernel, by decide +kernel⟩, by decide +kernel⟩
abbrev m_X1_isOnRoad : MR := (RX1, yX1_isOnRoad, cX1_isOnRoad, 3, (some .boolean))
theorem mf_X1_isOnRoad : MF m_X1_isOnRoad := ⟨(inG (List.mem_of_getElem? (i := 519) (by decide +kernel)) (by decide +kernel)), by decide +kernel, rfl, by decide, (inG (List.mem_of_getElem? (i := 76) (by decide +kernel)) (by decide +kernel)), ⟨by decide +kernel, by decide +kernel⟩, by decide +kernel⟩
abbrev m_X1_sharedMany : MR := (RX1, yX1_sharedMany, cX1_sharedMany, 7, (some .int))
theorem mf_X1_sharedMany : MF m_X1_sharedMany := ⟨(inG (List.mem_of_getElem? (i := 791) (by decide +kernel)) (by decide +kernel)), by decide +kernel, rfl, by decide, (inG (List.mem_of_getElem? (i := 76) (by decide +kernel)) (by decide +kernel)), ⟨by decide +kernel, by decide +kernel⟩, by decide +kernel⟩
abbrev m_X2_init : MR := (RX2, yX2_init, cX2_init, 3, none)
theorem mf_X2_init : MF m_X2_init := ⟨(inG (List.mem_of_getElem? (i := 309) (by decide +kernel)) (by decide +kernel)), by decide +kernel, rfl, by decide, (inG (List.mem_of_getElem? (i := 78) (by decide +kernel)) (by decide +kernel)), ⟨by decide +kernel, by decide +kernel⟩, by decide +kernel⟩
abbrev m_X2_readAll : MR := (RX2, yX2_readAll, cX2_readAll, 3, (some .boolean))
theorem mf_X2_readAll : MF m_X2_readAll := ⟨(inG (List.mem_of_getElem? (i := 327) (by decide +kernel)) (by decide +kernel)), by decide +kernel, rfl, by decide, (inG (List.mem_of_getElem? (i := 78) (by decide +kernel)) (by decide +kernel)), ⟨by decide +kernel, by decide +kernel⟩, by decide +kernel⟩
abbrev m_X2_readPart : MR := (RX2, yX2_readPart, cX2_readPart, 2, (some .boolean))
theorem mf_X2_readPart : MF m_X2_readPart := ⟨(inG (List.mem_of_getElem? (i := 339) (by decide +kernel)) (by decide +kernel)), by decide +kernel, rfl, by decide, (inG (List.mem_of_getElem? (i := 78) (by decide +kernel)) (by decide +kernel)), ⟨by decide +kernel, by decide +kernel⟩, by decide +kernel⟩
abbrev m_X2_readEnd : MR := (RX2, yX2_readEnd, cX2_readEnd, 1, (some .boolean))
theorem mf_X2_readEnd : MF m_X2_readEnd := ⟨(inG (List.mem_of_getElem? (i := 351) (by decide +kernel)) (by decide +kernel)), by decide +kernel, rfl, by decide, (inG (List.mem_of_getElem? (i := 78) (by decide +kernel)) (by decide +kernel)), ⟨by decide +kernel, by decide +kernel⟩, by decide +kernel⟩
abbrev m_X2_readClose : MR := (RX2, yX2_readClose, cX2_readClose, 2, (some .boolean))
theorem mf_X2_readClose : MF m_X2_readClose := ⟨(inG (List.mem_of_getElem? (i := 363) (by decide +kernel)) (by decide +kernel)), by decide +kernel, rfl, by decide, (inG (List.mem_of_getElem? (i := 78) (by decide +kernel)) (by decide +kernel)), ⟨by decide +kernel, by decide +kernel⟩, by decide +kernel⟩
abbrev m_X2_readField : MR := (RX2, yX2_readField, cX2_readField, 2, (some .boolean))
theorem mf_X2_readField : MF m_X2_readField := ⟨(inG (List.mem_of_getElem? (i := 396) (by decide +kernel)) (by decide +kernel)), by decide +kernel, rfl, by decide, (inG (List.mem_of_getElem? (i := 78) (by decide +kernel)) (by decide +kernel)), ⟨by decide +kernel, by decide +kernel⟩, by decide +kernel⟩
abbrev m_X2_readName : MR := (RX2, yX2_readName, cX2_readName, 1, (some .boolean))
theorem mf_X2_readName : MF m_X2_readName := ⟨(inG (List.mem_of_getElem? (i := 400) (by decide +kernel)) (by decide +kernel)), by decide +kernel, rfl, by decide, (inG (List.mem_of_getElem? (i := 78) (by decide +kernel)) (by decide +kernel)), ⟨by decide +kernel, by decide +kernel⟩, by decide +kernel⟩
abbrev m_X2_readOpen : MR := (RX2, yX2_readOpen, cX2_readOpen, 2, (some .boolean))
theorem mf_X2_readOpen : MF m_X2_readOpen := ⟨(inG (List.mem_of_getElem? (i := 421) (by decide +kernel)) (by decide +kernel)), by decide +kernel, rfl, by decide, (inG (List.mem_of_getElem? (i := 78) (by decide +kernel)) (by decide +kernel)), ⟨by decide +kernel, by decide +kernel⟩, by decide +kernel⟩
abbrev m_X2_readLeaf : MR := (RX2, yX2_readLeaf, cX2_readLeaf, 3, (some .boolean))
theorem mf_X2_readLeaf : MF m_X2_readLeaf := ⟨(inG (List.mem_of_getElem? (i := 425) (by decide +kernel)) (by decide +kernel)), by decide +kernel, rfl, by decide, (inG (List.mem_of_getElem? (i := 78) (by decide +kernel)) (by decide +kernel)), ⟨by decide +kernel, by decide +kernel⟩, by decide +kernel⟩
abbrev m_X2_readMark : MR := (RX2, yX2_readMark, cX2_readMark, 3, (some .boolean))
theorem mf_X2_readMark : MF m_X2_readMark := ⟨(inG (List.mem_of_getElem? (i := 371) (by decide +kernel)) (by decide +kernel)), by decide +kernel, rfl, by decide, (inG (List.mem_of_getElem? (i := 78) (by decide +kernel)) (by decide +kernel)), ⟨by decide +kernel, by decide +kernel⟩, by decide +kernel⟩
abbrev m_X2_markOf : MR := (RX2, yX2_markOf, cX2_markOf, 2, (some .int))
theorem mf_X2_markOf : MF m_X2_markOf := ⟨(inG (List.mem_of_getElem? (i := 383) (by decide +kernel)) (by decide +kernel)), by decide +kernel, rfl, by decide, (inG (List.mem_of_getElem? (i := 78) (by decide +kernel)) (by decide +kernel)), ⟨by decide +kernel, by decide +kernel⟩, by decide +kernel⟩
abbrev m_X2_isKeyWord : MR := (RX2, yX2_isKeyWord, cX2_isKeyWord, 2, (some .boolean))
theorem mf_X2_isKeyWord : MF m_X2_isKeyWord := ⟨(inG (List.mem_of_getElem? (i := 403) (by decide +kernel)) (by decide +kernel)), by decide +kernel, rfl, by decide, (inG (List.mem_of_getElem? (i := 78) (by decide +kernel)) (by decide +kernel)), ⟨by decide +kernel, by decide +kernel⟩, by decide +kernel⟩
abbrev m_X3_init : MR := (RX3, yX3_init, cX3_init, 1, none)
theorem mf_X3_init : MF m_X3_init := ⟨(inG (List.mem_of_getElem? (i := 142) (by decide +kernel)) (by decide +kernel)), by decide +kernel, rfl, by decide, (inG (List.mem_of_getElem? (i := 74) (by decide +kernel)) (by decide +kernel)), ⟨by decide +kernel, by decide +kernel⟩, by decide +kernel⟩
abbrev m_X3_begin : MR := (RX3, yX3_begin, cX3_begin, 5, none)
theorem mf_X3_begin : MF m_X3_begin := ⟨(inG (List.mem_of_getElem? (i := 455) (by decide +kernel)) (by decide +kernel)), by decide +kernel, rfl, by decide, (inG (List.mem_of_getElem? (i := 74) (by decide +kernel)) (by decide +kernel)), ⟨by decide +kernel, by decide +kernel⟩, by decide +kernel⟩
abbrev m_X3_add : MR := (RX3, yX3_add, cX3_add, 6, none)
theorem mf_X3_add : MF m_X3_add := ⟨(inG (List.mem_of_getElem? (i := 532) (by decide +kernel)) (by decide +kernel)), by decide +kernel, rfl, by decide, (inG (List.mem_of_getElem? (i := 74) (by decide +kernel)) (by decide +kernel)), ⟨by decide +kernel, by decide +kernel⟩, by decide +kernel⟩
abbrev m_X3_grow : MR := (RX3, yX3_grow, cX3_grow, 2, none)
theorem mf_X3_grow : MF m_X3_grow := ⟨(inG (List.mem_of_getElem? (i := 536) (by decide +kernel)) (by decide +kernel)), by decide +kernel, rfl, by decide, (inG (List.mem_of_getElem? (i := 74) (by decide +kernel)) (by decide +kernel)), ⟨by decide +kernel, by decide +kernel⟩, by decide +kernel⟩
abbrev m_X3_forget : MR := (RX3, yX3_forget, cX3_forget, 4, none)
theorem mf_X3_forget : MF m_X3_forget := ⟨(inG (List.mem_of_getElem? (i := 607) (by decide +kernel)) (by decide +kernel)), by decide +kernel, rfl, by decide, (inG (List.mem_of_getElem? (i := 74) (by decide +kernel)) (by decide +kernel)), ⟨by decide +kernel, by decide +kernel⟩, by decide +kernel⟩
abbrev m_X3_isRow : MR := (RX3, yX3_isRow, cX3_isRow, 2, (some .boolean))
theorem mf_X3_isRow : MF m_X3_isRow := ⟨(inG (List.mem_of_getElem? (i := 635) (by decide +kernel)) (by decide +kernel)), by decide +kernel, rfl, by decide, (inG (List.mem_of_getElem? (i := 74) (by decide +kernel)) (by decide +kernel)), ⟨by decide +kernel, by decide +kernel⟩, by decide +kernel⟩
abbrev m_X3_hasValue : MR := (RX3, yX3_hasValue, cX3_hasValue, 2, (some .boolean))
theorem mf_X3_hasValue : MF m_X3_hasValue := ⟨(inG (List.mem_of_getElem? (i := 631) (by decide +kernel)) (by decide +kernel)), by decide +kernel, rfl, by decide, (inG (List.mem_of_getElem? (i := 74) (by decide +kernel)) (by decide +kernel)), ⟨by decide +kernel, by decide +kernel⟩, by decide +kernel⟩
abbrev m_X3_hasLevel : MR := (RX3, yX3_hasLevel, cX3_hasLevel, 3, (some .boolean))
theorem mf_X3_hasLevel : MF m_X3_hasLevel := ⟨(inG (List.mem_of_getElem? (i := 759) (by decide +kernel)) (by decide +kernel)), by decide +kernel, rfl, by decide, (inG (List.mem_of_getElem? (i := 74) (by decide +kernel)) (by decide +kernel)), ⟨by decide +kernel, by decide +kernel⟩, by decide +kernel⟩
abbrev m_X3_hasValueWithin : MR := (RX3, yX3_hasValueWithin, cX3_hasValueWithin, 6, (some .boolean))
theorem mf_X3_hasValueWithin : MF m_X3_hasValueWithin := ⟨(inG (List.mem_of_getElem? (i := 775) (by decide +kernel)) (by decide +kernel)), by decide +kernel, rfl, by decide, (inG (List.mem_of_getElem? (i := 74) (by decide +kernel)) (by decide +kernel)), ⟨by decide +kernel, by decide +kernel⟩, by decide +kernel⟩
abbrev m_X3_firstRowOf : MR := (RX3, yX3_firstRowOf, cX3_firstRowOf, 3, (some .int))
theorem mf_X3_firstRowOf : MF m_X3_firstRowOf := ⟨(inG (List.mem_of_getElem? (i := 701) (by decide +kernel)) (by decide +kernel)), by decide +kernel, rfl, by decide, (inG (List.mem_of_getElem? (i := 74) (by decide +kernel)) (by decide +kernel)), ⟨by decide +kernel, by decide +kernel⟩, by decide +kernel⟩
abbrev m_X3_countValues : MR := (RX3, yX3_countValues, cX3_countValues, 3, (some .int))
theorem mf_X3_countValues : MF m_X3_countValues := ⟨(inG (List.mem_of_getElem? (i := 627) (by decide +kernel)) (by decide +kernel)), by decide +kernel, rfl, by decide, (inG (List.mem_of_getElem? (i := 74) (by decide +kernel)) (by decide +kernel)), ⟨by decide +kernel, by decide +kernel⟩, by decide +kernel⟩
abbrev m_X3_countUnlike : MR := (RX3, yX3_countUnlike, cX3_countUnlike, 3, (some .int))
theorem mf_X3_countUnlike : MF m_X3_countUnlike := ⟨(inG (List.mem_of_getElem? (i := 639) (by decide +kernel)) (by decide +kernel)), by decide +kernel, rfl, by decide, (inG (List.mem_of_getElem? (i := 74) (by decide +kernel)) (by decide +kernel)), ⟨by decide +kernel, by decide +kernel⟩, by decide +kernel⟩
abbrev m_X3_hasValueAhead : MR := (RX3, yX3_hasValueAhead, cX3_hasValueAhead, 3, (some .boolean))
theorem mf_X3_hasValueAhead : MF m_X3_hasValueAhead := ⟨(inG (List.mem_of_getElem? (i := 643) (by decide +kernel)) (by decide +kernel)), by decide +kernel, rfl, by decide, (inG (List.mem_of_getElem? (i := 74) (by decide +kernel)) (by decide +kernel)), ⟨by decide +kernel, by decide +kernel⟩, by decide +kernel⟩
abbrev m_X3_measureSize : MR := (RX3, yX3_measureSize, cX3_measureSize, 5, (some .int))
theorem mf_X3_measureSize : MF m_X3_measureSize := ⟨(inG (List.mem_of_getElem? (i := 647) (by decide +kernel)) (by decide +kernel)), by decide +kernel, rfl, by decide, (inG (List.mem_of_getElem? (i := 74) (by decide +kernel)) (by decide +kernel)), ⟨by decide +kernel, by decide +kernel⟩, by decide +kernel⟩
abbrev m_X3_countRuns : MR := (RX3, yX3_countRuns, cX3_countRuns, 4, (some .int))
theorem mf_X3_countRuns : MF m_X3_countRuns := ⟨(inG (List.mem_of_getElem? (i := 652) (by decide +kernel)) (by decide +kernel)), by decide +kernel, rfl, by decide, (inG (List.mem_of_getElem? (i := 74) (by decide +kernel)) (by decide +kernel)), ⟨by decide +kernel, by decide +kernel⟩, by decide +kernel⟩
abbrev m_X3_stretchEnd : MR := (RX3, yX3_stretchEnd, cX3_stretchEnd, 4, (some .int))
theorem mf_X3_stretchEnd : MF m_X3_stretchEnd := ⟨(inG (List.mem_of_getElem? (i := 804) (by decide +kernel)) (by decide +kernel)), by decide +kernel, rfl, by decide, (inG (List.mem_of_getElem? (i := 74) (by decide +kernel)) (by decide +kernel)), ⟨by decide +kernel, by decide +kernel⟩, by decide +kernel⟩
abbrev m_X3_holdsInStretch : MR := (RX3, yX3_holdsInStretch, cX3_holdsInStretch, 7, (some .boolean))
theorem mf_X3_holdsInStretch : MF m_X3_holdsInStretch := ⟨(inG (List.mem_of_getElem? (i := 800) (by decide +kernel)) (by decide +kernel)), by decide +kernel, rfl, by decide, (inG (List.mem_of_getElem? (i := 74) (by decide +kernel)) (by decide +kernel)), ⟨by decide +kernel, by decide +kernel⟩, by decide +kernel⟩
abbrev m_X4_init : MR := (RX4, yX4_init, cX4_init, 1, none)
theorem mf_X4_init : MF m_X4_init := ⟨(inG (List.mem_of_getElem? (i := 96) (by decide +kernel)) (by decide +kernel)), by decide +kernel, rfl, by decide, (inG (List.mem_of_getElem? (i := 73) (by decide +kernel)) (by decide +kernel)), ⟨by decide +kernel, by decide +kernel⟩, by decide +kernel⟩
abbrev m_X4_put : MR := (RX4, yX4_put, cX4_put, 3, none)
theorem mf_X4_put : MF m_X4_put := ⟨(inG (List.mem_of_getElem? (i := 296) (by decide +kernel)) (by decide +kernel)), by decide +kernel, rfl, by decide, (inG (List.mem_of_getElem? (i := 73) (by decide +kernel)) (by decide +kernel)), ⟨by decide +kernel, by decide +kernel⟩, by decide +kernel⟩
abbrev m_X4_begin : MR := (RX4, yX4_begin, cX4_begin, 1, none)
theorem mf_X4_begin : MF m_X4_begin := ⟨(inG (List.mem_of_getElem? (i := 331) (by decide +kernel)) (by decide +kernel)), by decide +kernel, rfl, by decide, (inG (List.mem_of_getElem? (i := 73) (by decide +kernel)) (by decide +kernel)), ⟨by decide +kernel, by decide +kernel⟩, by decide +kernel⟩
abbrev m_X4_fail : MR := (RX4, yX4_fail, cX4_fail, 3, (some .boolean))
theorem mf_X4_fail : MF m_X4_fail := ⟨(inG (List.mem_of_getElem? (i := 359) (by decide +kernel)) (by decide +kernel)), by decide +kernel, rfl, by decide, (inG (List.mem_of_getElem? (i := 73) (by decide +kernel)) (by decide +kernel)), ⟨by decide +kernel, by decide +kernel⟩, by decide +kernel⟩
abbrev m_X4_failHere : MR := (RX4, yX4_failHere, cX4_failHere, 2, (some .boolean))
theorem mf_X4_failHere : MF m_X4_failHere := ⟨(inG (List.mem_of_getElem? (i := 355) (by decide +kernel)) (by decide +kernel)), by decide +kernel, rfl, by decide, (inG (List.mem_of_getElem? (i := 73) (by decide +kernel)) (by decide +kernel)), ⟨by decide +kernel, by decide +kernel⟩, by decide +kernel⟩
abbrev m_X4_here : MR := (RX4, yX4_here, cX4_here, 1, (some .int))
theorem mf_X4_here : MF m_X4_here := ⟨(inG (List.mem_of_getElem? (i := 347) (by decide +kernel)) (by decide +kernel)), by decide +kernel, rfl, by decide, (inG (List.mem_of_getElem? (i := 73) (by decide +kernel)) (by decide +kernel)), ⟨by decide +kernel, by decide +kernel⟩, by decide +kernel⟩
abbrev m_X4_next : MR := (RX4, yX4_next, cX4_next, 1, (some .int))
theorem mf_X4_next : MF m_X4_next := ⟨(inG (List.mem_of_getElem? (i := 343) (by decide +kernel)) (by decide +kernel)), by decide +kernel, rfl, by decide, (inG (List.mem_of_getElem? (i := 73) (by decide +kernel)) (by decide +kernel)), ⟨by decide +kernel, by decide +kernel⟩, by decide +kernel⟩
abbrev m_X4_pass : MR := (RX4, yX4_pass, cX4_pass, 2, (some .boolean))
theorem mf_X4_pass : MF m_X4_pass := ⟨(inG (List.mem_of_getElem? (i := 391) (by decide +kernel)) (by decide +kernel)), by decide +kernel, rfl, by decide, (inG (List.mem_of_getElem? (i := 73) (by decide +kernel)) (by decide +kernel)), ⟨by decide +kernel, by decide +kernel⟩, by decide +kernel⟩
abbrev m_X4_readWord : MR := (RX4, yX4_readWord, cX4_readWord, 3, none)
theorem mf_X4_readWord : MF m_X4_readWord := ⟨(inG (List.mem_of_getElem? (i := 375) (by decide +kernel)) (by decide +kernel)), by decide +kernel, rfl, by decide, (inG (List.mem_of_getElem? (i := 73) (by decide +kernel)) (by decide +kernel)), ⟨by decide +kernel, by decide +kernel⟩, by decide +kernel⟩
abbrev m_X4_failAtLetterTooMany : MR := (RX4, yX4_failAtLetterTooMany, cX4_failAtLetterTooMany, 1, (some .boolean))
theorem mf_X4_failAtLetterTooMany : MF m_X4_failAtLetterTooMany := ⟨(inG (List.mem_of_getElem? (i := 409) (by decide +kernel)) (by decide +kernel)), by decide +kernel, rfl, by decide, (inG (List.mem_of_getElem? (i := 73) (by decide +kernel)) (by decide +kernel)), ⟨by decide +kernel, by decide +kernel⟩, by decide +kernel⟩
abbrev m_X5_init : MR := (RX5, yX5_init, cX5_init, 1, none)
theorem mf_X5_init : MF m_X5_init := ⟨(inG (List.mem_of_getElem? (i := 190) (by decide +kernel)) (by decide +kernel)), by decide +kernel, rfl, by decide, (inG (List.mem_of_getElem? (i := 75) (by decide +kernel)) (by decide +kernel)), ⟨by decide +kernel, by decide +kernel⟩, by decide +kernel⟩
abbrev m_X5_byteAt : MR := (RX5, yX5_byteAt, cX5_byteAt, 2, (some .int))
theorem mf_X5_byteAt : MF m_X5_byteAt := ⟨(inG (List.mem_of_getElem? (i := 767) (by decide +kernel)) (by decide +kernel)), by decide +kernel, rfl, by decide, (inG (List.mem_of_getElem? (i := 75) (by decide +kernel)) (by decide +kernel)), ⟨by decide +kernel, by decide +kernel⟩, by decide +kernel⟩
abbrev m_X5_put : MR := (RX5, yX5_put, cX5_put, 2, none)
theorem mf_X5_put : MF m_X5_put := ⟨(inG (List.mem_of_getElem? (i := 735) (by decide +kernel)) (by decide +kernel)), by decide +kernel, rfl, by decide, (inG (List.mem_of_getElem? (i := 75) (by decide +kernel)) (by decide +kernel)), ⟨by decide +kernel, by decide +kernel⟩, by decide +kernel⟩
abbrev m_X5_putWord : MR := (RX5, yX5_putWord, cX5_putWord, 7, none)
theorem mf_X5_putWord : MF m_X5_putWord := ⟨(inG (List.mem_of_getElem? (i := 728) (by decide +kernel)) (by decide +kernel)), by decide +kernel, rfl, by decide, (inG (List.mem_of_getElem? (i := 75) (by decide +kernel)) (by decide +kernel)), ⟨by decide +kernel, by decide +kernel⟩, by decide +kernel⟩
abbrev m_X5_putNumber : MR := (RX5, yX5_putNumber, cX5_putNumber, 7, none)
theorem mf_X5_putNumber : MF m_X5_putNumber := ⟨(inG (List.mem_of_getElem? (i := 749) (by decide +kernel)) (by decide +kernel)), by decide +kernel, rfl, by decide, (inG (List.mem_of_getElem? (i := 75) (by decide +kernel)) (by decide +kernel)), ⟨by decide +kernel, by decide +kernel⟩, by decide +kernel⟩
abbrev m_X6_init : MR := (RX6, yX6_init, cX6_init, 5, none)
theorem mf_X6_init : MF m_X6_init := ⟨(inG (List.mem_of_getElem? (i := 672) (by decide +kernel)) (by decide +kernel)), by decide +kernel, rfl, by decide, (inG (List.mem_of_getElem? (i := 83) (by decide +kernel)) (by decide +kernel)), ⟨by decide +kernel, by decide +kernel⟩, by decide +kernel⟩
abbrev m_X6_writeAll : MR := (RX6, yX6_writeAll, cX6_writeAll, 4, none)
theorem mf_X6_writeAll : MF m_X6_writeAll := ⟨(inG (List.mem_of_getElem? (i := 693) (by decide +kernel)) (by decide +kernel)), by decide +kernel, rfl, by decide, (inG (List.mem_of_getElem? (i := 83) (by decide +kernel)) (by decide +kernel)), ⟨by decide +kernel, by decide +kernel⟩, by decide +kernel⟩
abbrev m_X6_wantedTable : MR := (RX6, yX6_wantedTable, cX6_wantedTable, 3, (some (.object "TreeTables$Table")))
theorem mf_X6_wantedTable : MF m_X6_wantedTable := ⟨(inG (List.mem_of_getElem? (i := 697) (by decide +kernel)) (by decide +kernel)), by decide +kernel, rfl, by decide, (inG (List.mem_of_getElem? (i := 83) (by decide +kernel)) (by decide +kernel)), ⟨by decide +kernel, by decide +kernel⟩, by decide +kernel⟩
abbrev m_X6_writeParts : MR := (RX6, yX6_writeParts, cX6_writeParts, 4, none)
theorem mf_X6_writeParts : MF m_X6_writeParts := ⟨(inG (List.mem_of_getElem? (i := 705) (by decide +kernel)) (by decide +kernel)), by decide +kernel, rfl, by decide, (inG (List.mem_of_getElem? (i := 83) (by decide +kernel)) (by decide +kernel)), ⟨by decide +kernel, by decide +kernel⟩, by decide +kernel⟩
abbrev m_X6_writeField : MR := (RX6, yX6_writeField, cX6_writeField, 7, none)
theorem mf_X6_writeField : MF m_X6_writeField := ⟨(inG (List.mem_of_getElem? (i := 709) (by decide +kernel)) (by decide +kernel)), by decide +kernel, rfl, by decide, (inG (List.mem_of_getElem? (i := 83) (by decide +kernel)) (by decide +kernel)), ⟨by decide +kernel, by decide +kernel⟩, by decide +kernel⟩
abbrev m_X6_writeGroup : MR := (RX6, yX6_writeGroup, cX6_writeGroup, 3, none)
theorem mf_X6_writeGroup : MF m_X6_writeGroup := ⟨(inG (List.mem_of_getElem? (i := 740) (by decide +kernel)) (by decide +kernel)), by decide +kernel, rfl, by decide, (inG (List.mem_of_getElem? (i := 83) (by decide +kernel)) (by decide +kernel)), ⟨by decide +kernel, by decide +kernel⟩, by decide +kernel⟩
abbrev m_X6_writeLeaf : MR := (RX6, yX6_writeLeaf, cX6_writeLeaf, 5, none)
theorem mf_X6_writeLeaf : MF m_X6_writeLeaf := ⟨(inG (List.mem_of_getElem? (i := 744) (by decide +kernel)) (by decide +kernel)), by decide +kernel, rfl, by decide, (inG (List.mem_of_getElem? (i := 83) (by decide +kernel)) (by decide +kernel)), ⟨by decide +kernel, by decide +kernel⟩, by decide +kernel⟩
abbrev m_X6_firstWantedLeaf : MR := (RX6, yX6_firstWantedLeaf, cX6_firstWantedLeaf, 3, (some .int))
theorem mf_X6_firstWantedLeaf : MF m_X6_firstWantedLeaf := ⟨(inG (List.mem_of_getElem? (i := 713) (by decide +kernel)) (by decide +kernel)), by decide +kernel, rfl, by decide, (inG (List.mem_of_getElem? (i := 83) (by decide +kernel)) (by decide +kernel)), ⟨by decide +kernel, by decide +kernel⟩, by decide +kernel⟩
abbrev m_X6_passLacking : MR := (RX6, yX6_passLacking, cX6_passLacking, 3, none)
theorem mf_X6_passLacking : MF m_X6_passLacking := ⟨(inG (List.mem_of_getElem? (i := 724) (by decide +kernel)) (by decide +kernel)), by decide +kernel, rfl, by decide, (inG (List.mem_of_getElem? (i := 83) (by decide +kernel)) (by decide +kernel)), ⟨by decide +kernel, by decide +kernel⟩, by decide +kernel⟩
abbrev m_X6_isWantedBelow : MR := (RX6, yX6_isWantedBelow, cX6_isWantedBelow, 3, (some .boolean))
theorem mf_X6_isWantedBelow : MF m_X6_isWantedBelow := ⟨(inG (List.mem_of_getElem? (i := 717) (by decide +kernel)) (by decide +kernel)), by decide +kernel, rfl, by decide, (inG (List.mem_of_getElem? (i := 83) (by decide +kernel)) (by decide +kernel)), ⟨by decide +kernel, by decide +kernel⟩, by decide +kernel⟩
abbrev m_X7_init : MR := (RX7, yX7_init, cX7_init, 2, none)
theorem mf_X7_init : MF m_X7_init := ⟨(inG (List.mem_of_getElem? (i := 88) (by decide +kernel)) (by decide +kernel)), by decide +kernel, rfl, by decide, (inG (List.mem_of_getElem? (i := 72) (by decide +kernel)) (by decide +kernel)), ⟨by decide +kernel, by decide +kernel⟩, by decide +kernel⟩
abbrev m_X7_feed : MR := (RX7, yX7_feed, cX7_feed, 6, (some .int))
theorem mf_X7_feed : MF m_X7_feed := ⟨(inG (List.mem_of_getElem? (i := 292) (by decide +kernel)) (by decide +kernel)), by decide +kernel, rfl, by decide, (inG (List.mem_of_getElem? (i := 72) (by decide +kernel)) (by decide +kernel)), ⟨by decide +kernel, by decide +kernel⟩, by decide +kernel⟩
abbrev m_X7_end : MR := (RX7, yX7_end, cX7_end, 2, (some .boolean))
theorem mf_X7_end : MF m_X7_end := ⟨(inG (List.mem_of_getElem? (i := 300) (by decide +kernel)) (by decide +kernel)), by decide +kernel, rfl, by decide, (inG (List.mem_of_getElem? (i := 72) (by decide +kernel)) (by decide +kernel)), ⟨by decide +kernel, by decide +kernel⟩, by decide +kernel⟩
abbrev m_X7_shape : MR := (RX7, yX7_shape, cX7_shape, 4, (some .int))
theorem mf_X7_shape : MF m_X7_shape := ⟨(inG (List.mem_of_getElem? (i := 304) (by decide +kernel)) (by decide +kernel)), by decide +kernel, rfl, by decide, (inG (List.mem_of_getElem? (i := 72) (by decide +kernel)) (by decide +kernel)), ⟨by decide +kernel, by decide +kernel⟩, by decide +kernel⟩
abbrev m_X7_paper : MR := (RX7, yX7_paper, cX7_paper, 2, (some .int))
theorem mf_X7_paper : MF m_X7_paper := ⟨(inG (List.mem_of_getElem? (i := 459) (by decide +kernel)) (by decide +kernel)), by decide +kernel, rfl, by decide, (inG (List.mem_of_getElem? (i := 72) (by decide +kernel)) (by decide +kernel)), ⟨by decide +kernel, by decide +kernel⟩, by decide +kernel⟩
abbrev m_X7_fault : MR := (RX7, yX7_fault, cX7_fault, 2, (some .int))
theorem mf_X7_fault : MF m_X7_fault := ⟨(inG (List.mem_of_getElem? (i := 611) (by decide +kernel)) (by decide +kernel)), by decide +kernel, rfl, by decide, (inG (List.mem_of_getElem? (i := 72) (by decide +kernel)) (by decide +kernel)), ⟨by decide +kernel, by decide +kernel⟩, by decide +kernel⟩
abbrev m_X7_drop : MR := (RX7, yX7_drop, cX7_drop, 2, (some .int))
theorem mf_X7_drop : MF m_X7_drop := ⟨(inG (List.mem_of_getElem? (i := 615) (by decide +kernel)) (by decide +kernel)), by decide +kernel, rfl, by decide, (inG (List.mem_of_getElem? (i := 72) (by decide +kernel)) (by decide +kernel)), ⟨by decide +kernel, by decide +kernel⟩, by decide +kernel⟩
abbrev m_X7_leaf : MR := (RX7, yX7_leaf, cX7_leaf, 4, (some .int))
theorem mf_X7_leaf : MF m_X7_leaf := ⟨(inG (List.mem_of_getElem? (i := 623) (by decide +kernel)) (by decide +kernel)), by decide +kernel, rfl, by decide, (inG (List.mem_of_getElem? (i := 72) (by decide +kernel)) (by decide +kernel)), ⟨by decide +kernel, by decide +kernel⟩, by decide +kernel⟩
abbrev m_X7_row : MR := (RX7, yX7_row, cX7_row, 5, (some .int))
theorem mf_X7_row : MF m_X7_row := ⟨(inG (List.mem_of_getElem? (i := 657) (by decide +kernel)) (by decide +kernel)), by decide +kernel, rfl, by decide, (inG (List.mem_of_getElem? (i := 72) (by decide +kernel)) (by decide +kernel)), ⟨by decide +kernel, by decide +kernel⟩, by decide +kernel⟩
abbrev m_X7_value : MR := (RX7, yX7_value, cX7_value, 4, (some .long))
theorem mf_X7_value : MF m_X7_value := ⟨(inG (List.mem_of_getElem? (i := 663) (by decide +kernel)) (by decide +kernel)), by decide +kernel, rfl, by decide, (inG (List.mem_of_getElem? (i := 72) (by decide +kernel)) (by decide +kernel)), ⟨by decide +kernel, by decide +kernel⟩, by decide +kernel⟩
abbrev m_X7_text : MR := (RX7, yX7_text, cX7_text, 3, (some .int))
theorem mf_X7_text : MF m_X7_text := ⟨(inG (List.mem_of_getElem? (i := 667) (by decide +kernel)) (by decide +kernel)), by decide +kernel, rfl, by decide, (inG (List.mem_of_getElem? (i := 72) (by decide +kernel)) (by decide +kernel)), ⟨by decide +kernel, by decide +kernel⟩, by decide +kernel⟩
abbrev m_X7_at : MR := (RX7, yX7_at, cX7_at, 2, (some .int))
theorem mf_X7_at : MF m_X7_at := ⟨(inG (List.mem_of_getElem? (i := 763) (by decide +kernel)) (by decide +kernel)), by decide +kernel, rfl, by decide, (inG (List.mem_of_getElem? (i := 72) (by decide +kernel)) (by decide +kernel)), ⟨by decide +kernel, by decide +kernel⟩, by decide +kernel⟩
abbrev m_X7_among : MR := (RX7, yX7_among, cX7_among, 9, (some .int))
theorem mf_X7_among : MF m_X7_among := ⟨(inG (List.mem_of_getElem? (i := 771) (by decide +kernel)) (by decide +kernel)), by decide +kernel, rfl, by decide, (inG (List.mem_of_getElem? (i := 72) (by decide +kernel)) (by decide +kernel)), ⟨by decide +kernel, by decide +kernel⟩, by decide +kernel⟩
abbrev m_X7_papers : MR := (RX7, yX7_papers, cX7_papers, 10, (some .int))
theorem mf_X7_papers : MF m_X7_papers := ⟨(inG (List.mem_of_getElem? (i := 779) (by decide +kernel)) (by decide +kernel)), by decide +kernel, rfl, by decide, (inG (List.mem_of_getElem? (i := 72) (by decide +kernel)) (by decide +kernel)), ⟨by decide +kernel, by decide +kernel⟩, by decide +kernel⟩
abbrev m_X7_sum : MR := (RX7, yX7_sum, cX7_sum, 7, (some .long))
theorem mf_X7_sum : MF m_X7_sum := ⟨(inG (List.mem_of_getElem? (i := 783) (by decide +kernel)) (by decide +kernel)), by decide +kernel, rfl, by decide, (inG (List.mem_of_getElem? (i := 72) (by decide +kernel)) (by decide +kernel)), ⟨by decide +kernel, by decide +kernel⟩, by decide +kernel⟩
abbrev m_X7_both : MR := (RX7, yX7_both, cX7_both, 13, (some .int))
theorem mf_X7_both : MF m_X7_both := ⟨(inG (List.mem_of_getElem? (i := 787) (by decide +kernel)) (by decide +kernel)), by decide +kernel, rfl, by decide, (inG (List.mem_of_getElem? (i := 72) (by decide +kernel)) (by decide +kernel)), ⟨by decide +kernel, by decide +kernel⟩, by decide +kernel⟩
abbrev m_X7_rows : MR := (RX7, yX7_rows, cX7_rows, 9, (some .int))
theorem mf_X7_rows : MF m_X7_rows := ⟨(inG (List.mem_of_getElem? (i := 810) (by decide +kernel)) (by decide +kernel)), by decide +kernel, rfl, by decide, (inG (List.mem_of_getElem? (i := 72) (by decide +kernel)) (by decide +kernel)), ⟨by decide +kernel, by decide +kernel⟩, by decide +kernel⟩
abbrev m_X7_isPaper : MR := (RX7, yX7_isPaper, cX7_isPaper, 2, (some .boolean))
theorem mf_X7_isPaper : MF m_X7_isPaper := ⟨(inG (List.mem_of_getElem? (i := 619) (by decide +kernel)) (by decide +kernel)), by decide +kernel, rfl, by decide, (inG (List.mem_of_getElem? (i := 72) (by decide +kernel)) (by decide +kernel)), ⟨by decide +kernel, by decide +kernel⟩, by decide +kernel⟩
abbrev m_X7_tableOf : MR := (RX7, yX7_tableOf, cX7_tableOf, 2, (some (.object "TreeTables$Table")))
theorem mf_X7_tableOf : MF m_X7_tableOf := ⟨(inG (List.mem_of_getElem? (i := 446) (by decide +kernel)) (by decide +kernel)), by decide +kernel, rfl, by decide, (inG (List.mem_of_getElem? (i := 72) (by decide +kernel)) (by decide +kernel)), ⟨by decide +kernel, by decide +kernel⟩, by decide +kernel⟩
abbrev m_X7_beginTable : MR := (RX7, yX7_beginTable, cX7_beginTable, 4, none)
theorem mf_X7_beginTable : MF m_X7_beginTable := ⟨(inG (List.mem_of_getElem? (i := 442) (by decide +kernel)) (by decide +kernel)), by decide +kernel, rfl, by decide, (inG (List.mem_of_getElem? (i := 72) (by decide +kernel)) (by decide +kernel)), ⟨by decide +kernel, by decide +kernel⟩, by decide +kernel⟩
abbrev m_X7_forgetRows : MR := (RX7, yX7_forgetRows, cX7_forgetRows, 4, none)
theorem mf_X7_forgetRows : MF m_X7_forgetRows := ⟨(inG (List.mem_of_getElem? (i := 603) (by decide +kernel)) (by decide +kernel)), by decide +kernel, rfl, by decide, (inG (List.mem_of_getElem? (i := 72) (by decide +kernel)) (by decide +kernel)), ⟨by decide +kernel, by decide +kernel⟩, by decide +kernel⟩
abbrev m_X7_isLetter : MR := (RX7, yX7_isLetter, cX7_isLetter, 1, (some .boolean))
theorem mf_X7_isLetter : MF m_X7_isLetter := ⟨(inG (List.mem_of_getElem? (i := 379) (by decide +kernel)) (by decide +kernel)), by decide +kernel, rfl, by decide, (inG (List.mem_of_getElem? (i := 72) (by decide +kernel)) (by decide +kernel)), ⟨by decide +kernel, by decide +kernel⟩, by decide +kernel⟩
abbrev m_X7_isDigit : MR := (RX7, yX7_isDigit, cX7_isDigit, 1, (some .boolean))
theorem mf_X7_isDigit : MF m_X7_isDigit := ⟨(inG (List.mem_of_getElem? (i := 579) (by decide +kernel)) (by decide +kernel)), by decide +kernel, rfl, by decide, (inG (List.mem_of_getElem? (i := 72) (by decide +kernel)) (by decide +kernel)), ⟨by decide +kernel, by decide +kernel⟩, by decide +kernel⟩
abbrev m_X8_init : MR := (RX8, yX8_init, cX8_init, 1, none)
theorem mf_X8_init : MF m_X8_init := ⟨(inG (List.mem_of_getElem? (i := 815) (by decide +kernel)) (by decide +kernel)), by decide +kernel, rfl, by decide, (inG (List.mem_of_getElem? (i := 77) (by decide +kernel)) (by decide +kernel)), ⟨by decide +kernel, by decide +kernel⟩, by decide +kernel⟩
abbrev m_X8_feed : MR := (RX8, yX8_feed, cX8_feed, 8, (some .int))
theorem mf_X8_feed : MF m_X8_feed := ⟨(inG (List.mem_of_getElem? (i := 988) (by decide +kernel)) (by decide +kernel)), by decide +kernel, rfl, by decide, (inG (List.mem_of_getElem? (i := 77) (by decide +kernel)) (by decide +kernel)), ⟨by decide +kernel, by decide +kernel⟩, by decide +kernel⟩
abbrev m_X8_end : MR := (RX8, yX8_end, cX8_end, 2, (some .boolean))
theorem mf_X8_end : MF m_X8_end := ⟨(inG (List.mem_of_getElem? (i := 992) (by decide +kernel)) (by decide +kernel)), by decide +kernel, rfl, by decide, (inG (List.mem_of_getElem? (i := 77) (by decide +kernel)) (by decide +kernel)), ⟨by decide +kernel, by decide +kernel⟩, by decide +kernel⟩
abbrev m_X8_fail : MR := (RX8, yX8_fail, cX8_fail, 3, none)
theorem mf_X8_fail : MF m_X8_fail := ⟨(inG (List.mem_of_getElem? (i := 1012) (by decide +kernel)) (by decide +kernel)), by decide +kernel, rfl, by decide, (inG (List.mem_of_getElem? (i := 77) (by decide +kernel)) (by decide +kernel)), ⟨by decide +kernel, by decide +kernel⟩, by decide +kernel⟩
abbrev m_X8_isLetter : MR := (RX8, yX8_isLetter, cX8_isLetter, 1, (some .boolean))
theorem mf_X8_isLetter : MF m_X8_isLetter := ⟨(inG (List.mem_of_getElem? (i := 1023) (by decide +kernel)) (by decide +kernel)), by decide +kernel, rfl, by decide, (inG (List.mem_of_getElem? (i := 77) (by decide +kernel)) (by decide +kernel)), ⟨by decide +kernel, by decide +kernel⟩, by decide +kernel⟩
abbrev m_X8_isDigit : MR := (RX8, yX8_isDigit, cX8_isDigit, 1, (some .boolean))
theorem mf_X8_isDigit : MF m_X8_isDigit := ⟨(inG (List.mem_of_getElem? (i := 1075) (by decide +kernel)) (by decide +kernel)), by decide +kernel, rfl, by decide, (inG (List.mem_of_getElem? (i := 77) (by decide +kernel)) (by decide +kernel)), ⟨by decide +kernel, by decide +kernel⟩, by decide +kernel⟩
abbrev m_X8_next : MR := (RX8, yX8_next, cX8_next, 1, (some .int))
theorem mf_X8_next : MF m_X8_next := ⟨(inG (List.mem_of_getElem? (i := 1008) (by decide +kernel)) (by decide +kernel)), by decide +kernel, rfl, by decide, (inG (List.mem_of_getElem? (i := 77) (by decide +kernel)) (by decide +kernel)), ⟨by decide +kernel, by decide +kernel⟩, by decide +kernel⟩
abbrev m_X8_sign : MR := (RX8, yX8_sign, cX8_sign, 2, none)
theorem mf_X8_sign : MF m_X8_sign := ⟨(inG (List.mem_of_getElem? (i := 1028) (by decide +kernel)) (by decide +kernel)), by decide +kernel, rfl, by decide, (inG (List.mem_of_getElem? (i := 77) (by decide +kernel)) (by decide +kernel)), ⟨by decide +kernel, by decide +kernel⟩, by decide +kernel⟩
abbrev m_X8_word : MR := (RX8, yX8_word, cX8_word, 4, (some .long))
theorem mf_X8_word : MF m_X8_word := ⟨(inG (List.mem_of_getElem? (i := 1036) (by decide +kernel)) (by decide +kernel)), by decide +kernel, rfl, by decide, (inG (List.mem_of_getElem? (i := 77) (by decide +kernel)) (by decide +kernel)), ⟨by decide +kernel, by decide +kernel⟩, by decide +kernel⟩
abbrev m_X8_whole : MR := (RX8, yX8_whole, cX8_whole, 4, (some .long))
theorem mf_X8_whole : MF m_X8_whole := ⟨(inG (List.mem_of_getElem? (i := 1020) (by decide +kernel)) (by decide +kernel)), by decide +kernel, rfl, by decide, (inG (List.mem_of_getElem? (i := 77) (by decide +kernel)) (by decide +kernel)), ⟨by decide +kernel, by decide +kernel⟩, by decide +kernel⟩
abbrev m_X8_packed : MR := (RX8, yX8_packed, cX8_packed, 6, (some .long))
theorem mf_X8_packed : MF m_X8_packed := ⟨(inG (List.mem_of_getElem? (i := 819) (by decide +kernel)) (by decide +kernel)), by decide +kernel, rfl, by decide, (inG (List.mem_of_getElem? (i := 77) (by decide +kernel)) (by decide +kernel)), ⟨by decide +kernel, by decide +kernel⟩, by decide +kernel⟩
abbrev m_X8_isOwn : MR := (RX8, yX8_isOwn, cX8_isOwn, 3, (some .boolean))
theorem mf_X8_isOwn : MF m_X8_isOwn := ⟨(inG (List.mem_of_getElem? (i := 1040) (by decide +kernel)) (by decide +kernel)), by decide +kernel, rfl, by decide, (inG (List.mem_of_getElem? (i := 77) (by decide +kernel)) (by decide +kernel)), ⟨by decide +kernel, by decide +kernel⟩, by decide +kernel⟩
abbrev m_X8_begins : MR := (RX8, yX8_begins, cX8_begins, 1, none)
theorem mf_X8_begins : MF m_X8_begins := ⟨(inG (List.mem_of_getElem? (i := 1000) (by decide +kernel)) (by decide +kernel)), by decide +kernel, rfl, by decide, (inG (List.mem_of_getElem? (i := 77) (by decide +kernel)) (by decide +kernel)), ⟨by decide +kernel, by decide +kernel⟩, by decide +kernel⟩
abbrev m_X8_told : MR := (RX8, yX8_told, cX8_told, 1, none)
theorem mf_X8_told : MF m_X8_told := ⟨(inG (List.mem_of_getElem? (i := 1044) (by decide +kernel)) (by decide +kernel)), by decide +kernel, rfl, by decide, (inG (List.mem_of_getElem? (i := 77) (by decide +kernel)) (by decide +kernel)), ⟨by decide +kernel, by decide +kernel⟩, by decide +kernel⟩
abbrev m_X8_marks : MR := (RX8, yX8_marks, cX8_marks, 5, none)
theorem mf_X8_marks : MF m_X8_marks := ⟨(inG (List.mem_of_getElem? (i := 1016) (by decide +kernel)) (by decide +kernel)), by decide +kernel, rfl, by decide, (inG (List.mem_of_getElem? (i := 77) (by decide +kernel)) (by decide +kernel)), ⟨by decide +kernel, by decide +kernel⟩, by decide +kernel⟩
abbrev m_X8_field : MR := (RX8, yX8_field, cX8_field, 7, none)
theorem mf_X8_field : MF m_X8_field := ⟨(inG (List.mem_of_getElem? (i := 1032) (by decide +kernel)) (by decide +kernel)), by decide +kernel, rfl, by decide, (inG (List.mem_of_getElem? (i := 77) (by decide +kernel)) (by decide +kernel)), ⟨by decide +kernel, by decide +kernel⟩, by decide +kernel⟩
abbrev m_X8_readsShape : MR := (RX8, yX8_readsShape, cX8_readsShape, 4, none)
theorem mf_X8_readsShape : MF m_X8_readsShape := ⟨(inG (List.mem_of_getElem? (i := 1004) (by decide +kernel)) (by decide +kernel)), by decide +kernel, rfl, by decide, (inG (List.mem_of_getElem? (i := 77) (by decide +kernel)) (by decide +kernel)), ⟨by decide +kernel, by decide +kernel⟩, by decide +kernel⟩
abbrev m_X8_shape : MR := (RX8, yX8_shape, cX8_shape, 2, (some .int))
theorem mf_X8_shape : MF m_X8_shape := ⟨(inG (List.mem_of_getElem? (i := 996) (by decide +kernel)) (by decide +kernel)), by decide +kernel, rfl, by decide, (inG (List.mem_of_getElem? (i := 77) (by decide +kernel)) (by decide +kernel)), ⟨by decide +kernel, by decide +kernel⟩, by decide +kernel⟩
abbrev m_X8_fieldOf : MR := (RX8, yX8_fieldOf, cX8_fieldOf, 5, (some .int))
theorem mf_X8_fieldOf : MF m_X8_fieldOf := ⟨(inG (List.mem_of_getElem? (i := 1072) (by decide +kernel)) (by decide +kernel)), by decide +kernel, rfl, by decide, (inG (List.mem_of_getElem? (i := 77) (by decide +kernel)) (by decide +kernel)), ⟨by decide +kernel, by decide +kernel⟩, by decide +kernel⟩
abbrev m_X8_hasNode : MR := (RX8, yX8_hasNode, cX8_hasNode, 4, (some .boolean))
theorem mf_X8_hasNode : MF m_X8_hasNode := ⟨(inG (List.mem_of_getElem? (i := 1064) (by decide +kernel)) (by decide +kernel)), by decide +kernel, rfl, by decide, (inG (List.mem_of_getElem? (i := 77) (by decide +kernel)) (by decide +kernel)), ⟨by decide +kernel, by decide +kernel⟩, by decide +kernel⟩
abbrev m_X8_node : MR := (RX8, yX8_node, cX8_node, 5, (some .int))
theorem mf_X8_node : MF m_X8_node := ⟨(inG (List.mem_of_getElem? (i := 1056) (by decide +kernel)) (by decide +kernel)), by decide +kernel, rfl, by decide, (inG (List.mem_of_getElem? (i := 77) (by decide +kernel)) (by decide +kernel)), ⟨by decide +kernel, by decide +kernel⟩, by decide +kernel⟩
abbrev m_X8_lacks : MR := (RX8, yX8_lacks, cX8_lacks, 3, (some .boolean))
theorem mf_X8_lacks : MF m_X8_lacks := ⟨(inG (List.mem_of_getElem? (i := 1060) (by decide +kernel)) (by decide +kernel)), by decide +kernel, rfl, by decide, (inG (List.mem_of_getElem? (i := 77) (by decide +kernel)) (by decide +kernel)), ⟨by decide +kernel, by decide +kernel⟩, by decide +kernel⟩
abbrev m_X8_number : MR := (RX8, yX8_number, cX8_number, 5, (some .long))
theorem mf_X8_number : MF m_X8_number := ⟨(inG (List.mem_of_getElem? (i := 1079) (by decide +kernel)) (by decide +kernel)), by decide +kernel, rfl, by decide, (inG (List.mem_of_getElem? (i := 77) (by decide +kernel)) (by decide +kernel)), ⟨by decide +kernel, by decide +kernel⟩, by decide +kernel⟩
abbrev m_X8_entry : MR := (RX8, yX8_entry, cX8_entry, 10, none)
theorem mf_X8_entry : MF m_X8_entry := ⟨(inG (List.mem_of_getElem? (i := 1068) (by decide +kernel)) (by decide +kernel)), by decide +kernel, rfl, by decide, (inG (List.mem_of_getElem? (i := 77) (by decide +kernel)) (by decide +kernel)), ⟨by decide +kernel, by decide +kernel⟩, by decide +kernel⟩
abbrev m_X8_readsPaper : MR := (RX8, yX8_readsPaper, cX8_readsPaper, 3, none)
theorem mf_X8_readsPaper : MF m_X8_readsPaper := ⟨(inG (List.mem_of_getElem? (i := 1052) (by decide +kernel)) (by decide +kernel)), by decide +kernel, rfl, by decide, (inG (List.mem_of_getElem? (i := 77) (by decide +kernel)) (by decide +kernel)), ⟨by decide +kernel, by decide +kernel⟩, by decide +kernel⟩
abbrev m_X8_paper : MR := (RX8, yX8_paper, cX8_paper, 1, (some .int))
theorem mf_X8_paper : MF m_X8_paper := ⟨(inG (List.mem_of_getElem? (i := 1048) (by decide +kernel)) (by decide +kernel)), by decide +kernel, rfl, by decide, (inG (List.mem_of_getElem? (i := 77) (by decide +kernel)) (by decide +kernel)), ⟨by decide +kernel, by decide +kernel⟩, by decide +kernel⟩
abbrev m_X8_fault : MR := (RX8, yX8_fault, cX8_fault, 2, (some .int))
theorem mf_X8_fault : MF m_X8_fault := ⟨(inG (List.mem_of_getElem? (i := 1085) (by decide +kernel)) (by decide +kernel)), by decide +kernel, rfl, by decide, (inG (List.mem_of_getElem? (i := 77) (by decide +kernel)) (by decide +kernel)), ⟨by decide +kernel, by decide +kernel⟩, by decide +kernel⟩
abbrev m_X8_isPaper : MR := (RX8, yX8_isPaper, cX8_isPaper, 2, (some .boolean))
theorem mf_X8_isPaper : MF m_X8_isPaper := ⟨(inG (List.mem_of_getElem? (i := 1093) (by decide +kernel)) (by decide +kernel)), by decide +kernel, rfl, by decide, (inG (List.mem_of_getElem? (i := 77) (by decide +kernel)) (by decide +kernel)), ⟨by decide +kernel, by decide +kernel⟩, by decide +kernel⟩
abbrev m_X8_drop : MR := (RX8, yX8_drop, cX8_drop, 4, (some .int))
theorem mf_X8_drop : MF m_X8_drop := ⟨(inG (List.mem_of_getElem? (i := 1089) (by decide +kernel)) (by decide +kernel)), by decide +kernel, rfl, by decide, (inG (List.mem_of_getElem? (i := 77) (by decide +kernel)) (by decide +kernel)), ⟨by decide +kernel, by decide +kernel⟩, by decide +kernel⟩
abbrev m_X8_roadOf : MR := (RX8, yX8_roadOf, cX8_roadOf, 4, none)
theorem mf_X8_roadOf : MF m_X8_roadOf := ⟨(inG (List.mem_of_getElem? (i := 1109) (by decide +kernel)) (by decide +kernel)), by decide +kernel, rfl, by decide, (inG (List.mem_of_getElem? (i := 77) (by decide +kernel)) (by decide +kernel)), ⟨by decide +kernel, by decide +kernel⟩, by decide +kernel⟩
abbrev m_X8_manyUpTo : MR := (RX8, yX8_manyUpTo, cX8_manyUpTo, 4, (some .int))
theorem mf_X8_manyUpTo : MF m_X8_manyUpTo := ⟨(inG (List.mem_of_getElem? (i := 1121) (by decide +kernel)) (by decide +kernel)), by decide +kernel, rfl, by decide, (inG (List.mem_of_getElem? (i := 77) (by decide +kernel)) (by decide +kernel)), ⟨by decide +kernel, by decide +kernel⟩, by decide +kernel⟩
abbrev m_X8_putsRow : MR := (RX8, yX8_putsRow, cX8_putsRow, 7, none)
theorem mf_X8_putsRow : MF m_X8_putsRow := ⟨(inG (List.mem_of_getElem? (i := 1117) (by decide +kernel)) (by decide +kernel)), by decide +kernel, rfl, by decide, (inG (List.mem_of_getElem? (i := 77) (by decide +kernel)) (by decide +kernel)), ⟨by decide +kernel, by decide +kernel⟩, by decide +kernel⟩
abbrev m_X8_steps : MR := (RX8, yX8_steps, cX8_steps, 5, none)
theorem mf_X8_steps : MF m_X8_steps := ⟨(inG (List.mem_of_getElem? (i := 1113) (by decide +kernel)) (by decide +kernel)), by decide +kernel, rfl, by decide, (inG (List.mem_of_getElem? (i := 77) (by decide +kernel)) (by decide +kernel)), ⟨by decide +kernel, by decide +kernel⟩, by decide +kernel⟩
abbrev m_X8_table : MR := (RX8, yX8_table, cX8_table, 7, none)
theorem mf_X8_table : MF m_X8_table := ⟨(inG (List.mem_of_getElem? (i := 1105) (by decide +kernel)) (by decide +kernel)), by decide +kernel, rfl, by decide, (inG (List.mem_of_getElem? (i := 77) (by decide +kernel)) (by decide +kernel)), ⟨by decide +kernel, by decide +kernel⟩, by decide +kernel⟩
abbrev m_X8_isLeaf : MR := (RX8, yX8_isLeaf, cX8_isLeaf, 2, (some .boolean))
theorem mf_X8_isLeaf : MF m_X8_isLeaf := ⟨(inG (List.mem_of_getElem? (i := 1101) (by decide +kernel)) (by decide +kernel)), by decide +kernel, rfl, by decide, (inG (List.mem_of_getElem? (i := 77) (by decide +kernel)) (by decide +kernel)), ⟨by decide +kernel, by decide +kernel⟩, by decide +kernel⟩
abbrev m_X8_isFirstValue : MR := (RX8, yX8_isFirstValue, cX8_isFirstValue, 3, (some .boolean))
theorem mf_X8_isFirstValue : MF m_X8_isFirstValue := ⟨(inG (List.mem_of_getElem? (i := 1133) (by decide +kernel)) (by decide +kernel)), by decide +kernel, rfl, by decide, (inG (List.mem_of_getElem? (i := 77) (by decide +kernel)) (by decide +kernel)), ⟨by decide +kernel, by decide +kernel⟩, by decide +kernel⟩
abbrev m_X8_values : MR := (RX8, yX8_values, cX8_values, 4, (some .int))
theorem mf_X8_values : MF m_X8_values := ⟨(inG (List.mem_of_getElem? (i := 1129) (by decide +kernel)) (by decide +kernel)), by decide +kernel, rfl, by decide, (inG (List.mem_of_getElem? (i := 77) (by decide +kernel)) (by decide +kernel)), ⟨by decide +kernel, by decide +kernel⟩, by decide +kernel⟩
abbrev m_X8_runs : MR := (RX8, yX8_runs, cX8_runs, 4, (some .int))
theorem mf_X8_runs : MF m_X8_runs := ⟨(inG (List.mem_of_getElem? (i := 1141) (by decide +kernel)) (by decide +kernel)), by decide +kernel, rfl, by decide, (inG (List.mem_of_getElem? (i := 77) (by decide +kernel)) (by decide +kernel)), ⟨by decide +kernel, by decide +kernel⟩, by decide +kernel⟩
abbrev m_X8_deepOf : MR := (RX8, yX8_deepOf, cX8_deepOf, 3, (some .int))
theorem mf_X8_deepOf : MF m_X8_deepOf := ⟨(inG (List.mem_of_getElem? (i := 1125) (by decide +kernel)) (by decide +kernel)), by decide +kernel, rfl, by decide, (inG (List.mem_of_getElem? (i := 77) (by decide +kernel)) (by decide +kernel)), ⟨by decide +kernel, by decide +kernel⟩, by decide +kernel⟩
abbrev m_X8_sizeOf : MR := (RX8, yX8_sizeOf, cX8_sizeOf, 4, (some .int))
theorem mf_X8_sizeOf : MF m_X8_sizeOf := ⟨(inG (List.mem_of_getElem? (i := 1137) (by decide +kernel)) (by decide +kernel)), by decide +kernel, rfl, by decide, (inG (List.mem_of_getElem? (i := 77) (by decide +kernel)) (by decide +kernel)), ⟨by decide +kernel, by decide +kernel⟩, by decide +kernel⟩
abbrev m_X8_leaf : MR := (RX8, yX8_leaf, cX8_leaf, 3, (some .int))
theorem mf_X8_leaf : MF m_X8_leaf := ⟨(inG (List.mem_of_getElem? (i := 1097) (by decide +kernel)) (by decide +kernel)), by decide +kernel, rfl, by decide, (inG (List.mem_of_getElem? (i := 77) (by decide +kernel)) (by decide +kernel)), ⟨by decide +kernel, by decide +kernel⟩, by decide +kernel⟩
abbrev m_X8_isRow : MR := (RX8, yX8_isRow, cX8_isRow, 3, (some .boolean))
theorem mf_X8_isRow : MF m_X8_isRow := ⟨(inG (List.mem_of_getElem? (i := 1149) (by decide +kernel)) (by decide +kernel)), by decide +kernel, rfl, by decide, (inG (List.mem_of_getElem? (i := 77) (by decide +kernel)) (by decide +kernel)), ⟨by decide +kernel, by decide +kernel⟩, by decide +kernel⟩
abbrev m_X8_row : MR := (RX8, yX8_row, cX8_row, 4, (some .int))
theorem mf_X8_row : MF m_X8_row := ⟨(inG (List.mem_of_getElem? (i := 1145) (by decide +kernel)) (by decide +kernel)), by decide +kernel, rfl, by decide, (inG (List.mem_of_getElem? (i := 77) (by decide +kernel)) (by decide +kernel)), ⟨by decide +kernel, by decide +kernel⟩, by decide +kernel⟩
abbrev m_X8_value : MR := (RX8, yX8_value, cX8_value, 3, (some .long))
theorem mf_X8_value : MF m_X8_value := ⟨(inG (List.mem_of_getElem? (i := 1153) (by decide +kernel)) (by decide +kernel)), by decide +kernel, rfl, by decide, (inG (List.mem_of_getElem? (i := 77) (by decide +kernel)) (by decide +kernel)), ⟨by decide +kernel, by decide +kernel⟩, by decide +kernel⟩
abbrev m_X8_lays : MR := (RX8, yX8_lays, cX8_lays, 2, none)
theorem mf_X8_lays : MF m_X8_lays := ⟨(inG (List.mem_of_getElem? (i := 1161) (by decide +kernel)) (by decide +kernel)), by decide +kernel, rfl, by decide, (inG (List.mem_of_getElem? (i := 77) (by decide +kernel)) (by decide +kernel)), ⟨by decide +kernel, by decide +kernel⟩, by decide +kernel⟩
abbrev m_X8_laysWord : MR := (RX8, yX8_laysWord, cX8_laysWord, 7, none)
theorem mf_X8_laysWord : MF m_X8_laysWord := ⟨(inG (List.mem_of_getElem? (i := 1165) (by decide +kernel)) (by decide +kernel)), by decide +kernel, rfl, by decide, (inG (List.mem_of_getElem? (i := 77) (by decide +kernel)) (by decide +kernel)), ⟨by decide +kernel, by decide +kernel⟩, by decide +kernel⟩
abbrev m_X8_laysNumber : MR := (RX8, yX8_laysNumber, cX8_laysNumber, 9, none)
theorem mf_X8_laysNumber : MF m_X8_laysNumber := ⟨(inG (List.mem_of_getElem? (i := 1169) (by decide +kernel)) (by decide +kernel)), by decide +kernel, rfl, by decide, (inG (List.mem_of_getElem? (i := 77) (by decide +kernel)) (by decide +kernel)), ⟨by decide +kernel, by decide +kernel⟩, by decide +kernel⟩
abbrev m_X8_text : MR := (RX8, yX8_text, cX8_text, 7, (some .int))
theorem mf_X8_text : MF m_X8_text := ⟨(inG (List.mem_of_getElem? (i := 1157) (by decide +kernel)) (by decide +kernel)), by decide +kernel, rfl, by decide, (inG (List.mem_of_getElem? (i := 77) (by decide +kernel)) (by decide +kernel)), ⟨by decide +kernel, by decide +kernel⟩, by decide +kernel⟩
abbrev m_X8_at : MR := (RX8, yX8_at, cX8_at, 2, (some .int))
theorem mf_X8_at : MF m_X8_at := ⟨(inG (List.mem_of_getElem? (i := 1173) (by decide +kernel)) (by decide +kernel)), by decide +kernel, rfl, by decide, (inG (List.mem_of_getElem? (i := 77) (by decide +kernel)) (by decide +kernel)), ⟨by decide +kernel, by decide +kernel⟩, by decide +kernel⟩
abbrev m_X8_among : MR := (RX8, yX8_among, cX8_among, 8, (some .int))
theorem mf_X8_among : MF m_X8_among := ⟨(inG (List.mem_of_getElem? (i := 1177) (by decide +kernel)) (by decide +kernel)), by decide +kernel, rfl, by decide, (inG (List.mem_of_getElem? (i := 77) (by decide +kernel)) (by decide +kernel)), ⟨by decide +kernel, by decide +kernel⟩, by decide +kernel⟩
abbrev m_X8_papers : MR := (RX8, yX8_papers, cX8_papers, 9, (some .int))
theorem mf_X8_papers : MF m_X8_papers := ⟨(inG (List.mem_of_getElem? (i := 1181) (by decide +kernel)) (by decide +kernel)), by decide +kernel, rfl, by decide, (inG (List.mem_of_getElem? (i := 77) (by decide +kernel)) (by decide +kernel)), ⟨by decide +kernel, by decide +kernel⟩, by decide +kernel⟩
abbrev m_X8_sum : MR := (RX8, yX8_sum, cX8_sum, 6, (some .long))
theorem mf_X8_sum : MF m_X8_sum := ⟨(inG (List.mem_of_getElem? (i := 1185) (by decide +kernel)) (by decide +kernel)), by decide +kernel, rfl, by decide, (inG (List.mem_of_getElem? (i := 77) (by decide +kernel)) (by decide +kernel)), ⟨by decide +kernel, by decide +kernel⟩, by decide +kernel⟩
abbrev m_X8_isOn : MR := (RX8, yX8_isOn, cX8_isOn, 4, (some .boolean))
theorem mf_X8_isOn : MF m_X8_isOn := ⟨(inG (List.mem_of_getElem? (i := 1193) (by decide +kernel)) (by decide +kernel)), by decide +kernel, rfl, by decide, (inG (List.mem_of_getElem? (i := 77) (by decide +kernel)) (by decide +kernel)), ⟨by decide +kernel, by decide +kernel⟩, by decide +kernel⟩
abbrev m_X8_has : MR := (RX8, yX8_has, cX8_has, 8, (some .boolean))
theorem mf_X8_has : MF m_X8_has := ⟨(inG (List.mem_of_getElem? (i := 1197) (by decide +kernel)) (by decide +kernel)), by decide +kernel, rfl, by decide, (inG (List.mem_of_getElem? (i := 77) (by decide +kernel)) (by decide +kernel)), ⟨by decide +kernel, by decide +kernel⟩, by decide +kernel⟩
abbrev m_X8_both : MR := (RX8, yX8_both, cX8_both, 11, (some .int))
theorem mf_X8_both : MF m_X8_both := ⟨(inG (List.mem_of_getElem? (i := 1189) (by decide +kernel)) (by decide +kernel)), by decide +kernel, rfl, by decide, (inG (List.mem_of_getElem? (i := 77) (by decide +kernel)) (by decide +kernel)), ⟨by decide +kernel, by decide +kernel⟩, by decide +kernel⟩
abbrev m_X8_rows : MR := (RX8, yX8_rows, cX8_rows, 6, (some .int))
theorem mf_X8_rows : MF m_X8_rows := ⟨(inG (List.mem_of_getElem? (i := 1201) (by decide +kernel)) (by decide +kernel)), by decide +kernel, rfl, by decide, (inG (List.mem_of_getElem? (i := 77) (by decide +kernel)) (by decide +kernel)), ⟨by decide +kernel, by decide +kernel⟩, by decide +kernel⟩
abbrev m_J9_abs_067f4 : MR := (RJ9, yJ9_abs_067f4, cJ9_abs_067f4, 2, (some .long))
abbrev m_J9_max_7cf53 : MR := (RJ9, yJ9_max_7cf53, cJ9_max_7cf53, 2, (some .int))
abbrev m_J9_min_7cf53 : MR := (RJ9, yJ9_min_7cf53, cJ9_min_7cf53, 2, (some .int))
abbrev m_J7_copyOf_59c91 : MR := (RJ7, yJ7_copyOf_59c91, cJ7_copyOf_59c91, 3, (some (.array .int)))
theorem mf_J7_copyOf_59c91 : MF m_J7_copyOf_59c91 := ⟨(inG (List.mem_of_getElem? (i := 539) (by decide +kernel)) (by decide +kernel)), by decide +kernel, rfl, by decide, (inG (List.mem_of_getElem? (i := 80) (by decide +kernel)) (by decide +kernel)), ⟨by decide +kernel, by decide +kernel⟩, by decide +kernel⟩
abbrev m_J7_copyOf_c38d5 : MR := (RJ7, yJ7_copyOf_c38d5, cJ7_copyOf_c38d5, 3, (some (.array .long)))
theorem mf_J7_copyOf_c38d5 : MF m_J7_copyOf_c38d5 := ⟨(inG (List.mem_of_getElem? (i := 555) (by decide +kernel)) (by decide +kernel)), by decide +kernel, rfl, by decide, (inG (List.mem_of_getElem? (i := 80) (by decide +kernel)) (by decide +kernel)), ⟨by decide +kernel, by decide +kernel⟩, by decide +kernel⟩
theorem fz_0_0 : (clT 0 0).2.2.2 = true ∧ clY 0 0 = .object "TreeTables$Tape" ∧ ftc 0 0 = 2 := ⟨by rfl, by rfl, by rfl⟩
theorem fz_0_1 : (clT 0 1).2.2.2 = true ∧ clY 0 1 = .object "TreeTables$Shape" ∧ ftc 0 1 = 2 := ⟨by rfl, by rfl, by rfl⟩
theorem fz_0_2 : (clT 0 2).2.2.2 = true ∧ clY 0 2 = .array (.object "TreeTables$Table") ∧ ftc 0 2 = 2 := ⟨by rfl, by rfl, by rfl⟩
theorem fz_0_3 : (clT 0 3).2.2.2 = true ∧ clY 0 3 = .int ∧ ftc 0 3 = 0 := ⟨by rfl, by rfl, by rfl⟩
theorem fz_0_4 : (clT 0 4).2.2.2 = true ∧ clY 0 4 = .array .boolean ∧ ftc 0 4 = 2 := ⟨by rfl, by rfl, by rfl⟩
theorem fz_0_5 : (clT 0 5).2.2.2 = true ∧ clY 0 5 = .array .int ∧ ftc 0 5 = 2 := ⟨by rfl, by rfl, by rfl⟩
theorem fz_0_6 : (clT 0 6).2.2.2 = false ∧ clY 0 6 = .int ∧ ftc 0 6 = 0 := ⟨by rfl, by rfl, by rfl⟩
theorem fz_0_7 : (clT 0 7).2.2.2 = false ∧ clY 0 7 = .int ∧ ftc 0 7 = 0 := ⟨by rfl, by rfl, by rfl⟩
theorem fz_1_0 : (clT 1 0).2.2.2 = true ∧ clY 1 0 = .array .long ∧ ftc 1 0 = 2 := ⟨by rfl, by rfl, by rfl⟩
theorem fz_1_1 : (clT 1 1).2.2.2 = true ∧ clY 1 1 = .array .int ∧ ftc 1 1 = 2 := ⟨by rfl, by rfl, by rfl⟩
theorem fz_1_2 : (clT 1 2).2.2.2 = true ∧ clY 1 2 = .array .int ∧ ftc 1 2 = 2 := ⟨by rfl, by rfl, by rfl⟩
theorem fz_1_3 : (clT 1 3).2.2.2 = true ∧ clY 1 3 = .array .int ∧ ftc 1 3 = 2 := ⟨by rfl, by rfl, by rfl⟩
theorem fz_1_4 : (clT 1 4).2.2.2 = true ∧ clY 1 4 = .array .int ∧ ftc 1 4 = 2 := ⟨by rfl, by rfl, by rfl⟩
theorem fz_1_5 : (clT 1 5).2.2.2 = true ∧ clY 1 5 = .array .int ∧ ftc 1 5 = 2 := ⟨by rfl, by rfl, by rfl⟩
theorem fz_1_6 : (clT 1 6).2.2.2 = true ∧ clY 1 6 = .array .int ∧ ftc 1 6 = 2 := ⟨by rfl, by rfl, by rfl⟩
theorem fz_1_7 : (clT 1 7).2.2.2 = true ∧ clY 1 7 = .array .int ∧ ftc 1 7 = 2 := ⟨by rfl, by rfl, by rfl⟩
theorem fz_1_8 : (clT 1 8).2.2.2 = true ∧ clY 1 8 = .array .int ∧ ftc 1 8 = 2 := ⟨by rfl, by rfl, by rfl⟩
theorem fz_1_9 : (clT 1 9).2.2.2 = true ∧ clY 1 9 = .array .int ∧ ftc 1 9 = 2 := ⟨by rfl, by rfl, by rfl⟩
theorem fz_1_10 : (clT 1 10).2.2.2 = false ∧ clY 1 10 = .int ∧ ftc 1 10 = 0 := ⟨by rfl, by rfl, by rfl⟩
theorem fz_1_11 : (clT 1 11).2.2.2 = false ∧ clY 1 11 = .int ∧ ftc 1 11 = 0 := ⟨by rfl, by rfl, by rfl⟩
theorem fz_2_0 : (clT 2 0).2.2.2 = true ∧ clY 2 0 = .object "TreeTables$Tape" ∧ ftc 2 0 = 2 := ⟨by rfl, by rfl, by rfl⟩
theorem fz_2_1 : (clT 2 1).2.2.2 = true ∧ clY 2 1 = .object "TreeTables$Shape" ∧ ftc 2 1 = 2 := ⟨by rfl, by rfl, by rfl⟩
theorem fz_2_2 : (clT 2 2).2.2.2 = false ∧ clY 2 2 = .int ∧ ftc 2 2 = 0 := ⟨by rfl, by rfl, by rfl⟩
theorem fz_2_3 : (clT 2 3).2.2.2 = false ∧ clY 2 3 = .int ∧ ftc 2 3 = 0 := ⟨by rfl, by rfl, by rfl⟩
theorem fz_3_0 : (clT 3 0).2.2.2 = false ∧ clY 3 0 = .array .int ∧ ftc 3 0 = 2 := ⟨by rfl, by rfl, by rfl⟩
theorem fz_3_1 : (clT 3 1).2.2.2 = false ∧ clY 3 1 = .array .int ∧ ftc 3 1 = 2 := ⟨by rfl, by rfl, by rfl⟩
theorem fz_3_2 : (clT 3 2).2.2.2 = false ∧ clY 3 2 = .array .int ∧ ftc 3 2 = 2 := ⟨by rfl, by rfl, by rfl⟩
theorem fz_3_3 : (clT 3 3).2.2.2 = false ∧ clY 3 3 = .array .long ∧ ftc 3 3 = 2 := ⟨by rfl, by rfl, by rfl⟩
theorem fz_3_4 : (clT 3 4).2.2.2 = false ∧ clY 3 4 = .int ∧ ftc 3 4 = 0 := ⟨by rfl, by rfl, by rfl⟩
theorem fz_3_5 : (clT 3 5).2.2.2 = false ∧ clY 3 5 = .int ∧ ftc 3 5 = 0 := ⟨by rfl, by rfl, by rfl⟩
theorem fz_3_6 : (clT 3 6).2.2.2 = false ∧ clY 3 6 = .int ∧ ftc 3 6 = 0 := ⟨by rfl, by rfl, by rfl⟩
theorem fz_3_7 : (clT 3 7).2.2.2 = false ∧ clY 3 7 = .boolean ∧ ftc 3 7 = 3 := ⟨by rfl, by rfl, by rfl⟩
theorem fz_3_8 : (clT 3 8).2.2.2 = false ∧ clY 3 8 = .int ∧ ftc 3 8 = 0 := ⟨by rfl, by rfl, by rfl⟩
theorem fz_4_0 : (clT 4 0).2.2.2 = true ∧ clY 4 0 = .array .byte ∧ ftc 4 0 = 2 := ⟨by rfl, by rfl, by rfl⟩
theorem fz_4_1 : (clT 4 1).2.2.2 = false ∧ clY 4 1 = .int ∧ ftc 4 1 = 0 := ⟨by rfl, by rfl, by rfl⟩
theorem fz_4_2 : (clT 4 2).2.2.2 = false ∧ clY 4 2 = .int ∧ ftc 4 2 = 0 := ⟨by rfl, by rfl, by rfl⟩
theorem fz_4_3 : (clT 4 3).2.2.2 = false ∧ clY 4 3 = .int ∧ ftc 4 3 = 0 := ⟨by rfl, by rfl, by rfl⟩
theorem fz_4_4 : (clT 4 4).2.2.2 = false ∧ clY 4 4 = .int ∧ ftc 4 4 = 0 := ⟨by rfl, by rfl, by rfl⟩
theorem fz_4_5 : (clT 4 5).2.2.2 = false ∧ clY 4 5 = .int ∧ ftc 4 5 = 0 := ⟨by rfl, by rfl, by rfl⟩
theorem fz_4_6 : (clT 4 6).2.2.2 = false ∧ clY 4 6 = .int ∧ ftc 4 6 = 0 := ⟨by rfl, by rfl, by rfl⟩
theorem fz_4_7 : (clT 4 7).2.2.2 = false ∧ clY 4 7 = .long ∧ ftc 4 7 = 1 := ⟨by rfl, by rfl, by rfl⟩
theorem fz_5_0 : (clT 5 0).2.2.2 = true ∧ clY 5 0 = .array .byte ∧ ftc 5 0 = 2 := ⟨by rfl, by rfl, by rfl⟩
theorem fz_5_1 : (clT 5 1).2.2.2 = false ∧ clY 5 1 = .int ∧ ftc 5 1 = 0 := ⟨by rfl, by rfl, by rfl⟩
theorem fz_6_0 : (clT 6 0).2.2.2 = true ∧ clY 6 0 = .object "TreeTables$Shape" ∧ ftc 6 0 = 2 := ⟨by rfl, by rfl, by rfl⟩
theorem fz_6_1 : (clT 6 1).2.2.2 = true ∧ clY 6 1 = .array (.object "TreeTables$Table") ∧ ftc 6 1 = 2 := ⟨by rfl, by rfl, by rfl⟩
theorem fz_6_2 : (clT 6 2).2.2.2 = true ∧ clY 6 2 = .int ∧ ftc 6 2 = 0 := ⟨by rfl, by rfl, by rfl⟩
theorem fz_6_3 : (clT 6 3).2.2.2 = true ∧ clY 6 3 = .object "TreeTables$Text" ∧ ftc 6 3 = 2 := ⟨by rfl, by rfl, by rfl⟩
theorem fz_6_4 : (clT 6 4).2.2.2 = true ∧ clY 6 4 = .array .int ∧ ftc 6 4 = 2 := ⟨by rfl, by rfl, by rfl⟩
theorem fz_7_0 : (clT 7 0).2.2.2 = true ∧ clY 7 0 = .object "TreeTables$Tape" ∧ ftc 7 0 = 2 := ⟨by rfl, by rfl, by rfl⟩
theorem fz_7_1 : (clT 7 1).2.2.2 = true ∧ clY 7 1 = .array (.object "TreeTables$Table") ∧ ftc 7 1 = 2 := ⟨by rfl, by rfl, by rfl⟩
theorem fz_7_2 : (clT 7 2).2.2.2 = true ∧ clY 7 2 = .object "TreeTables$Text" ∧ ftc 7 2 = 2 := ⟨by rfl, by rfl, by rfl⟩
theorem fz_7_3 : (clT 7 3).2.2.2 = false ∧ clY 7 3 = .object "TreeTables$Shape" ∧ ftc 7 3 = 2 := ⟨by rfl, by rfl, by rfl⟩
theorem fz_7_4 : (clT 7 4).2.2.2 = false ∧ clY 7 4 = .object "TreeTables$Shape" ∧ ftc 7 4 = 2 := ⟨by rfl, by rfl, by rfl⟩
theorem fz_7_5 : (clT 7 5).2.2.2 = false ∧ clY 7 5 = .int ∧ ftc 7 5 = 0 := ⟨by rfl, by rfl, by rfl⟩
theorem fz_8_0 : (clT 8 0).2.2.2 = true ∧ clY 8 0 = .array .int ∧ ftc 8 0 = 2 := ⟨by rfl, by rfl, by rfl⟩
theorem fz_8_1 : (clT 8 1).2.2.2 = false ∧ clY 8 1 = .int ∧ ftc 8 1 = 0 := ⟨by rfl, by rfl, by rfl⟩
theorem fz_8_2 : (clT 8 2).2.2.2 = false ∧ clY 8 2 = .int ∧ ftc 8 2 = 0 := ⟨by rfl, by rfl, by rfl⟩
theorem fz_8_3 : (clT 8 3).2.2.2 = false ∧ clY 8 3 = .int ∧ ftc 8 3 = 0 := ⟨by rfl, by rfl, by rfl⟩
theorem fz_8_4 : (clT 8 4).2.2.2 = false ∧ clY 8 4 = .int ∧ ftc 8 4 = 0 := ⟨by rfl, by rfl, by rfl⟩
theorem fz_8_5 : (clT 8 5).2.2.2 = false ∧ clY 8 5 = .int ∧ ftc 8 5 = 0 := ⟨by rfl, by rfl, by rfl⟩
theorem fz_8_6 : (clT 8 6).2.2.2 = false ∧ clY 8 6 = .int ∧ ftc 8 6 = 0 := ⟨by rfl, by rfl, by rfl⟩
theorem fz_8_7 : (clT 8 7).2.2.2 = false ∧ clY 8 7 = .int ∧ ftc 8 7 = 0 := ⟨by rfl, by rfl, by rfl⟩
theorem fz_8_8 : (clT 8 8).2.2.2 = true ∧ clY 8 8 = .long ∧ ftc 8 8 = 1 := ⟨by rfl, by rfl, by rfl⟩
theorem fz_8_9 : (clT 8 9).2.2.2 = true ∧ clY 8 9 = .long ∧ ftc 8 9 = 1 := ⟨by rfl, by rfl, by rfl⟩
theorem fz_8_10 : (clT 8 10).2.2.2 = true ∧ clY 8 10 = .long ∧ ftc 8 10 = 1 := ⟨by rfl, by rfl, by rfl⟩
theorem fz_8_11 : (clT 8 11).2.2.2 = true ∧ clY 8 11 = .long ∧ ftc 8 11 = 1 := ⟨by rfl, by rfl, by rfl⟩
theorem fz_8_12 : (clT 8 12).2.2.2 = true ∧ clY 8 12 = .long ∧ ftc 8 12 = 1 := ⟨by rfl, by rfl, by rfl⟩
theorem fz_8_13 : (clT 8 13).2.2.2 = false ∧ clY 8 13 = .boolean ∧ ftc 8 13 = 3 := ⟨by rfl, by rfl, by rfl⟩
theorem fz_8_14 : (clT 8 14).2.2.2 = false ∧ clY 8 14 = .int ∧ ftc 8 14 = 0 := ⟨by rfl, by rfl, by rfl⟩
theorem fz_8_15 : (clT 8 15).2.2.2 = false ∧ clY 8 15 = .int ∧ ftc 8 15 = 0 := ⟨by rfl, by rfl, by rfl⟩
theorem fz_8_16 : (clT 8 16).2.2.2 = true ∧ clY 8 16 = .array .int ∧ ftc 8 16 = 2 := ⟨by rfl, by rfl, by rfl⟩
theorem fz_8_17 : (clT 8 17).2.2.2 = true ∧ clY 8 17 = .array .long ∧ ftc 8 17 = 2 := ⟨by rfl, by rfl, by rfl⟩
theorem fz_8_18 : (clT 8 18).2.2.2 = true ∧ clY 8 18 = .array .int ∧ ftc 8 18 = 2 := ⟨by rfl, by rfl, by rfl⟩
theorem fz_8_19 : (clT 8 19).2.2.2 = true ∧ clY 8 19 = .array .int ∧ ftc 8 19 = 2 := ⟨by rfl, by rfl, by rfl⟩
theorem fz_8_20 : (clT 8 20).2.2.2 = true ∧ clY 8 20 = .array .int ∧ ftc 8 20 = 2 := ⟨by rfl, by rfl, by rfl⟩
theorem fz_8_21 : (clT 8 21).2.2.2 = false ∧ clY 8 21 = .int ∧ ftc 8 21 = 0 := ⟨by rfl, by rfl, by rfl⟩
theorem fz_8_22 : (clT 8 22).2.2.2 = false ∧ clY 8 22 = .int ∧ ftc 8 22 = 0 := ⟨by rfl, by rfl, by rfl⟩
theorem fz_8_23 : (clT 8 23).2.2.2 = true ∧ clY 8 23 = .array .int ∧ ftc 8 23 = 2 := ⟨by rfl, by rfl, by rfl⟩
theorem fz_8_24 : (clT 8 24).2.2.2 = true ∧ clY 8 24 = .array .long ∧ ftc 8 24 = 2 := ⟨by rfl, by rfl, by rfl⟩
theorem fz_8_25 : (clT 8 25).2.2.2 = true ∧ clY 8 25 = .array .int ∧ ftc 8 25 = 2 := ⟨by rfl, by rfl, by rfl⟩
theorem fz_8_26 : (clT 8 26).2.2.2 = true ∧ clY 8 26 = .array .int ∧ ftc 8 26 = 2 := ⟨by rfl, by rfl, by rfl⟩
theorem fz_8_27 : (clT 8 27).2.2.2 = true ∧ clY 8 27 = .array .int ∧ ftc 8 27 = 2 := ⟨by rfl, by rfl, by rfl⟩
theorem fz_8_28 : (clT 8 28).2.2.2 = true ∧ clY 8 28 = .array .int ∧ ftc 8 28 = 2 := ⟨by rfl, by rfl, by rfl⟩
theorem fz_8_29 : (clT 8 29).2.2.2 = true ∧ clY 8 29 = .array .int ∧ ftc 8 29 = 2 := ⟨by rfl, by rfl, by rfl⟩
theorem fz_8_30 : (clT 8 30).2.2.2 = false ∧ clY 8 30 = .int ∧ ftc 8 30 = 0 := ⟨by rfl, by rfl, by rfl⟩
theorem fz_8_31 : (clT 8 31).2.2.2 = false ∧ clY 8 31 = .int ∧ ftc 8 31 = 0 := ⟨by rfl, by rfl, by rfl⟩
theorem fz_8_32 : (clT 8 32).2.2.2 = true ∧ clY 8 32 = .array .int ∧ ftc 8 32 = 2 := ⟨by rfl, by rfl, by rfl⟩
theorem fz_8_33 : (clT 8 33).2.2.2 = true ∧ clY 8 33 = .array .int ∧ ftc 8 33 = 2 := ⟨by rfl, by rfl, by rfl⟩
theorem fz_8_34 : (clT 8 34).2.2.2 = true ∧ clY 8 34 = .array .int ∧ ftc 8 34 = 2 := ⟨by rfl, by rfl, by rfl⟩
theorem fz_8_35 : (clT 8 35).2.2.2 = true ∧ clY 8 35 = .array .long ∧ ftc 8 35 = 2 := ⟨by rfl, by rfl, by rfl⟩
theorem fz_8_36 : (clT 8 36).2.2.2 = false ∧ clY 8 36 = .int ∧ ftc 8 36 = 0 := ⟨by rfl, by rfl, by rfl⟩
theorem fz_8_37 : (clT 8 37).2.2.2 = false ∧ clY 8 37 = .int ∧ ftc 8 37 = 0 := ⟨by rfl, by rfl, by rfl⟩
theorem fz_8_38 : (clT 8 38).2.2.2 = true ∧ clY 8 38 = .array .int ∧ ftc 8 38 = 2 := ⟨by rfl, by rfl, by rfl⟩
theorem fz_8_39 : (clT 8 39).2.2.2 = false ∧ clY 8 39 = .int ∧ ftc 8 39 = 0 := ⟨by rfl, by rfl, by rfl⟩
theorem fz_8_40 : (clT 8 40).2.2.2 = true ∧ clY 8 40 = .array .int ∧ ftc 8 40 = 2 := ⟨by rfl, by rfl, by rfl⟩
theorem fz_8_41 : (clT 8 41).2.2.2 = true ∧ clY 8 41 = .array .int ∧ ftc 8 41 = 2 := ⟨by rfl, by rfl, by rfl⟩
theorem fz_8_42 : (clT 8 42).2.2.2 = true ∧ clY 8 42 = .array .boolean ∧ ftc 8 42 = 2 := ⟨by rfl, by rfl, by rfl⟩
theorem fz_8_43 : (clT 8 43).2.2.2 = true ∧ clY 8 43 = .array .long ∧ ftc 8 43 = 2 := ⟨by rfl, by rfl, by rfl⟩
theorem fz_8_44 : (clT 8 44).2.2.2 = true ∧ clY 8 44 = .array .int ∧ ftc 8 44 = 2 := ⟨by rfl, by rfl, by rfl⟩
theorem fz_8_45 : (clT 8 45).2.2.2 = true ∧ clY 8 45 = .array .int ∧ ftc 8 45 = 2 := ⟨by rfl, by rfl, by rfl⟩
theorem fz_8_46 : (clT 8 46).2.2.2 = true ∧ clY 8 46 = .array .int ∧ ftc 8 46 = 2 := ⟨by rfl, by rfl, by rfl⟩
theorem fz_8_47 : (clT 8 47).2.2.2 = true ∧ clY 8 47 = .array .int ∧ ftc 8 47 = 2 := ⟨by rfl, by rfl, by rfl⟩
theorem fz_8_48 : (clT 8 48).2.2.2 = true ∧ clY 8 48 = .array .int ∧ ftc 8 48 = 2 := ⟨by rfl, by rfl, by rfl⟩
theorem fz_8_49 : (clT 8 49).2.2.2 = true ∧ clY 8 49 = .array .int ∧ ftc 8 49 = 2 := ⟨by rfl, by rfl, by rfl⟩
theorem fz_8_50 : (clT 8 50).2.2.2 = false ∧ clY 8 50 = .int ∧ ftc 8 50 = 0 := ⟨by rfl, by rfl, by rfl⟩
theorem fz_8_51 : (clT 8 51).2.2.2 = true ∧ clY 8 51 = .array .int ∧ ftc 8 51 = 2 := ⟨by rfl, by rfl, by rfl⟩
theorem fz_8_52 : (clT 8 52).2.2.2 = true ∧ clY 8 52 = .array .boolean ∧ ftc 8 52 = 2 := ⟨by rfl, by rfl, by rfl⟩
theorem fz_8_53 : (clT 8 53).2.2.2 = true ∧ clY 8 53 = .array .int ∧ ftc 8 53 = 2 := ⟨by rfl, by rfl, by rfl⟩
theorem ml_X7_3 : Cond.methodLink RX7 3 objectInit ∈ lw_g := (inG (List.mem_of_getElem? (i := 89) (by decide +kernel)) (by decide +kernel))
theorem kc_X7_9 : CLd RX7 9 4 := ⟨by decide, (inG (List.mem_of_getElem? (i := 92) (by decide +kernel)) (by decide +kernel)), (inG (List.mem_of_getElem? (i := 93) (by decide +kernel)) (by decide +kernel)), (inG (List.mem_of_getElem? (i := 73) (by decide +kernel)) (by decide +kernel)), by decide, by decide +kernel⟩
theorem ml_X7_11 : LIN RX7 11 m_X4_init 0 := ⟨by decide +kernel, (inG (List.mem_of_getElem? (i := 95) (by decide +kernel)) (by decide +kernel)), rfl, rfl, by decide +kernel⟩
theorem fl_X7_12 : FLd RX7 12 7 0 := ⟨by decide, by decide, (inG (List.mem_of_getElem? (i := 270) (by decide +kernel)) (by decide +kernel))⟩
theorem kc_X7_16 : CLd RX7 16 3 := ⟨by decide, (inG (List.mem_of_getElem? (i := 137) (by decide +kernel)) (by decide +kernel)), (inG (List.mem_of_getElem? (i := 139) (by decide +kernel)) (by decide +kernel)), (inG (List.mem_of_getElem? (i := 74) (by decide +kernel)) (by decide +kernel)), by decide, by decide +kernel⟩
theorem fl_X7_18 : FLd RX7 18 7 1 := ⟨by decide, by decide, (inG (List.mem_of_getElem? (i := 271) (by decide +kernel)) (by decide +kernel))⟩
theorem ml_X7_22 : LIN RX7 22 m_X3_init 0 := ⟨by decide +kernel, (inG (List.mem_of_getElem? (i := 141) (by decide +kernel)) (by decide +kernel)), rfl, rfl, by decide +kernel⟩
theorem kc_X7_23 : CLd RX7 23 5 := ⟨by decide, (inG (List.mem_of_getElem? (i := 186) (by decide +kernel)) (by decide +kernel)), (inG (List.mem_of_getElem? (i := 187) (by decide +kernel)) (by decide +kernel)), (inG (List.mem_of_getElem? (i := 75) (by decide +kernel)) (by decide +kernel)), by decide, by decide +kernel⟩
theorem ml_X7_25 : LIN RX7 25 m_X5_init 0 := ⟨by decide +kernel, (inG (List.mem_of_getElem? (i := 189) (by decide +kernel)) (by decide +kernel)), rfl, rfl, by decide +kernel⟩
theorem fl_X7_26 : FLd RX7 26 7 2 := ⟨by decide, by decide, (inG (List.mem_of_getElem? (i := 272) (by decide +kernel)) (by decide +kernel))⟩
theorem kc_X7_30 : CLd RX7 30 1 := ⟨by decide, (inG (List.mem_of_getElem? (i := 201) (by decide +kernel)) (by decide +kernel)), (inG (List.mem_of_getElem? (i := 202) (by decide +kernel)) (by decide +kernel)), (inG (List.mem_of_getElem? (i := 76) (by decide +kernel)) (by decide +kernel)), by decide, by decide +kernel⟩
theorem ml_X7_32 : LIN RX7 32 m_X1_init 0 := ⟨by decide +kernel, (inG (List.mem_of_getElem? (i := 204) (by decide +kernel)) (by decide +kernel)), rfl, rfl, by decide +kernel⟩
theorem fl_X7_33 : FLd RX7 33 7 3 := ⟨by decide, by decide, (inG (List.mem_of_getElem? (i := 273) (by decide +kernel)) (by decide +kernel))⟩
theorem fl_X7_37 : FLd RX7 37 7 4 := ⟨by decide, by decide, (inG (List.mem_of_getElem? (i := 274) (by decide +kernel)) (by decide +kernel))⟩
theorem fl_X7_40 : FLd RX7 40 7 5 := ⟨by decide, by decide, (inG (List.mem_of_getElem? (i := 275) (by decide +kernel)) (by decide +kernel))⟩
theorem fl_X7_44 : FLd RX7 44 4 1 := ⟨by decide, by decide, (inG (List.mem_of_getElem? (i := 100) (by decide +kernel)) (by decide +kernel))⟩
theorem ml_X7_47 : LV RX7 47 4 m_X4_put 1 := ⟨by decide, (inG (List.mem_of_getElem? (i := 293) (by decide +kernel)) (by decide +kernel)), (inG (List.mem_of_getElem? (i := 294) (by decide +kernel)) (by decide +kernel)), (inG (List.mem_of_getElem? (i := 295) (by decide +kernel)) (by decide +kernel)), (inG (List.mem_of_getElem? (i := 73) (by decide +kernel)) (by decide +kernel)), rfl, by decide +kernel⟩
theorem kc_X7_51 : CLd RX7 51 2 := ⟨by decide, (inG (List.mem_of_getElem? (i := 305) (by decide +kernel)) (by decide +kernel)), (inG (List.mem_of_getElem? (i := 306) (by decide +kernel)) (by decide +kernel)), (inG (List.mem_of_getElem? (i := 78) (by decide +kernel)) (by decide +kernel)), by decide, by decide +kernel⟩
theorem ml_X7_53 : LI RX7 53 m_X2_init 2 := ⟨(inG (List.mem_of_getElem? (i := 307) (by decide +kernel)) (by decide +kernel)), (inG (List.mem_of_getElem? (i := 308) (by decide +kernel)) (by decide +kernel)), rfl, rfl, by decide +kernel⟩
theorem ml_X7_56 : LV RX7 56 2 m_X2_readAll 0 := ⟨by decide, (inG (List.mem_of_getElem? (i := 324) (by decide +kernel)) (by decide +kernel)), (inG (List.mem_of_getElem? (i := 325) (by decide +kernel)) (by decide +kernel)), (inG (List.mem_of_getElem? (i := 326) (by decide +kernel)) (by decide +kernel)), (inG (List.mem_of_getElem? (i := 78) (by decide +kernel)) (by decide +kernel)), rfl, by decide +kernel⟩
theorem fl_X7_60 : FLd RX7 60 1 11 := ⟨by decide, by decide, (inG (List.mem_of_getElem? (i := 243) (by decide +kernel)) (by decide +kernel))⟩
theorem ml_X7_63 : LV RX7 63 7 m_X7_beginTable 1 := ⟨by decide, (inG (List.mem_of_getElem? (i := 439) (by decide +kernel)) (by decide +kernel)), (inG (List.mem_of_getElem? (i := 441) (by decide +kernel)) (by decide +kernel)), (inG (List.mem_of_getElem? (i := 8) (by decide +kernel)) (by decide +kernel)), (inG (List.mem_of_getElem? (i := 72) (by decide +kernel)) (by decide +kernel)), rfl, by decide +kernel⟩
theorem kc_X7_66 : CLd RX7 66 0 := ⟨by decide, (inG (List.mem_of_getElem? (i := 460) (by decide +kernel)) (by decide +kernel)), (inG (List.mem_of_getElem? (i := 461) (by decide +kernel)) (by decide +kernel)), (inG (List.mem_of_getElem? (i := 79) (by decide +kernel)) (by decide +kernel)), by decide, by decide +kernel⟩
theorem ml_X7_68 : LI RX7 68 m_X0_init 4 := ⟨(inG (List.mem_of_getElem? (i := 462) (by decide +kernel)) (by decide +kernel)), (inG (List.mem_of_getElem? (i := 463) (by decide +kernel)) (by decide +kernel)), rfl, rfl, by decide +kernel⟩
theorem ml_X7_71 : LV RX7 71 0 m_X0_readAll 0 := ⟨by decide, (inG (List.mem_of_getElem? (i := 492) (by decide +kernel)) (by decide +kernel)), (inG (List.mem_of_getElem? (i := 493) (by decide +kernel)) (by decide +kernel)), (inG (List.mem_of_getElem? (i := 494) (by decide +kernel)) (by decide +kernel)), (inG (List.mem_of_getElem? (i := 79) (by decide +kernel)) (by decide +kernel)), rfl, by decide +kernel⟩
theorem ml_X7_72 : LV RX7 72 7 m_X7_forgetRows 1 := ⟨by decide, (inG (List.mem_of_getElem? (i := 600) (by decide +kernel)) (by decide +kernel)), (inG (List.mem_of_getElem? (i := 602) (by decide +kernel)) (by decide +kernel)), (inG (List.mem_of_getElem? (i := 23) (by decide +kernel)) (by decide +kernel)), (inG (List.mem_of_getElem? (i := 72) (by decide +kernel)) (by decide +kernel)), rfl, by decide +kernel⟩
theorem fl_X7_75 : FLd RX7 75 4 3 := ⟨by decide, by decide, (inG (List.mem_of_getElem? (i := 107) (by decide +kernel)) (by decide +kernel))⟩
theorem fl_X7_78 : FLd RX7 78 4 4 := ⟨by decide, by decide, (inG (List.mem_of_getElem? (i := 109) (by decide +kernel)) (by decide +kernel))⟩
theorem ml_X7_81 : LV RX7 81 7 m_X7_isPaper 1 := ⟨by decide, (inG (List.mem_of_getElem? (i := 616) (by decide +kernel)) (by decide +kernel)), (inG (List.mem_of_getElem? (i := 618) (by decide +kernel)) (by decide +kernel)), (inG (List.mem_of_getElem? (i := 24) (by decide +kernel)) (by decide +kernel)), (inG (List.mem_of_getElem? (i := 72) (by decide +kernel)) (by decide +kernel)), rfl, by decide +kernel⟩
theorem ml_X7_85 : LV RX7 85 7 m_X7_tableOf 1 := ⟨by decide, (inG (List.mem_of_getElem? (i := 443) (by decide +kernel)) (by decide +kernel)), (inG (List.mem_of_getElem? (i := 445) (by decide +kernel)) (by decide +kernel)), (inG (List.mem_of_getElem? (i := 9) (by decide +kernel)) (by decide +kernel)), (inG (List.mem_of_getElem? (i := 72) (by decide +kernel)) (by decide +kernel)), rfl, by decide +kernel⟩
theorem fl_X7_89 : FLd RX7 89 3 5 := ⟨by decide, by decide, (inG (List.mem_of_getElem? (i := 157) (by decide +kernel)) (by decide +kernel))⟩
theorem fl_X7_92 : FLd RX7 92 3 6 := ⟨by decide, by decide, (inG (List.mem_of_getElem? (i := 159) (by decide +kernel)) (by decide +kernel))⟩
theorem fl_X7_95 : FLd RX7 95 3 7 := ⟨by decide, by decide, (inG (List.mem_of_getElem? (i := 162) (by decide +kernel)) (by decide +kernel))⟩
theorem fl_X7_99 : FLd RX7 99 3 8 := ⟨by decide, by decide, (inG (List.mem_of_getElem? (i := 164) (by decide +kernel)) (by decide +kernel))⟩
theorem fl_X7_102 : FLd RX7 102 3 4 := ⟨by decide, by decide, (inG (List.mem_of_getElem? (i := 155) (by decide +kernel)) (by decide +kernel))⟩
theorem ml_X7_105 : LV RX7 105 3 m_X3_countValues 0 := ⟨by decide, (inG (List.mem_of_getElem? (i := 624) (by decide +kernel)) (by decide +kernel)), (inG (List.mem_of_getElem? (i := 625) (by decide +kernel)) (by decide +kernel)), (inG (List.mem_of_getElem? (i := 626) (by decide +kernel)) (by decide +kernel)), (inG (List.mem_of_getElem? (i := 74) (by decide +kernel)) (by decide +kernel)), rfl, by decide +kernel⟩
theorem ml_X7_109 : LV RX7 109 3 m_X3_countUnlike 0 := ⟨by decide, (inG (List.mem_of_getElem? (i := 636) (by decide +kernel)) (by decide +kernel)), (inG (List.mem_of_getElem? (i := 637) (by decide +kernel)) (by decide +kernel)), (inG (List.mem_of_getElem? (i := 638) (by decide +kernel)) (by decide +kernel)), (inG (List.mem_of_getElem? (i := 74) (by decide +kernel)) (by decide +kernel)), rfl, by decide +kernel⟩
theorem ml_X7_112 : LV RX7 112 3 m_X3_measureSize 0 := ⟨by decide, (inG (List.mem_of_getElem? (i := 644) (by decide +kernel)) (by decide +kernel)), (inG (List.mem_of_getElem? (i := 645) (by decide +kernel)) (by decide +kernel)), (inG (List.mem_of_getElem? (i := 646) (by decide +kernel)) (by decide +kernel)), (inG (List.mem_of_getElem? (i := 74) (by decide +kernel)) (by decide +kernel)), rfl, by decide +kernel⟩
theorem ml_X7_115 : LV RX7 115 3 m_X3_isRow 1 := ⟨by decide, (inG (List.mem_of_getElem? (i := 658) (by decide +kernel)) (by decide +kernel)), (inG (List.mem_of_getElem? (i := 633) (by decide +kernel)) (by decide +kernel)), (inG (List.mem_of_getElem? (i := 634) (by decide +kernel)) (by decide +kernel)), (inG (List.mem_of_getElem? (i := 74) (by decide +kernel)) (by decide +kernel)), rfl, by decide +kernel⟩
theorem fl_X7_118 : FLd RX7 118 3 0 := ⟨by decide, by decide, (inG (List.mem_of_getElem? (i := 145) (by decide +kernel)) (by decide +kernel))⟩
theorem fl_X7_122 : FLd RX7 122 3 1 := ⟨by decide, by decide, (inG (List.mem_of_getElem? (i := 148) (by decide +kernel)) (by decide +kernel))⟩
theorem ml_X7_125 : LV RX7 125 3 m_X3_hasValue 1 := ⟨by decide, (inG (List.mem_of_getElem? (i := 659) (by decide +kernel)) (by decide +kernel)), (inG (List.mem_of_getElem? (i := 629) (by decide +kernel)) (by decide +kernel)), (inG (List.mem_of_getElem? (i := 630) (by decide +kernel)) (by decide +kernel)), (inG (List.mem_of_getElem? (i := 74) (by decide +kernel)) (by decide +kernel)), rfl, by decide +kernel⟩
theorem fl_X7_128 : FLd RX7 128 3 2 := ⟨by decide, by decide, (inG (List.mem_of_getElem? (i := 150) (by decide +kernel)) (by decide +kernel))⟩
theorem fl_X7_131 : FLd RX7 131 3 3 := ⟨by decide, by decide, (inG (List.mem_of_getElem? (i := 153) (by decide +kernel)) (by decide +kernel))⟩
theorem kc_X7_135 : CLd RX7 135 6 := ⟨by decide, (inG (List.mem_of_getElem? (i := 668) (by decide +kernel)) (by decide +kernel)), (inG (List.mem_of_getElem? (i := 669) (by decide +kernel)) (by decide +kernel)), (inG (List.mem_of_getElem? (i := 83) (by decide +kernel)) (by decide +kernel)), by decide, by decide +kernel⟩
theorem ml_X7_137 : LI RX7 137 m_X6_init 4 := ⟨(inG (List.mem_of_getElem? (i := 670) (by decide +kernel)) (by decide +kernel)), (inG (List.mem_of_getElem? (i := 671) (by decide +kernel)) (by decide +kernel)), rfl, rfl, by decide +kernel⟩
theorem ml_X7_140 : LV RX7 140 6 m_X6_writeAll 1 := ⟨by decide, (inG (List.mem_of_getElem? (i := 690) (by decide +kernel)) (by decide +kernel)), (inG (List.mem_of_getElem? (i := 691) (by decide +kernel)) (by decide +kernel)), (inG (List.mem_of_getElem? (i := 692) (by decide +kernel)) (by decide +kernel)), (inG (List.mem_of_getElem? (i := 83) (by decide +kernel)) (by decide +kernel)), rfl, by decide +kernel⟩
theorem fl_X7_143 : FLd RX7 143 5 1 := ⟨by decide, by decide, (inG (List.mem_of_getElem? (i := 195) (by decide +kernel)) (by decide +kernel))⟩
theorem ml_X7_144 : LV RX7 144 5 m_X5_byteAt 1 := ⟨by decide, (inG (List.mem_of_getElem? (i := 764) (by decide +kernel)) (by decide +kernel)), (inG (List.mem_of_getElem? (i := 765) (by decide +kernel)) (by decide +kernel)), (inG (List.mem_of_getElem? (i := 766) (by decide +kernel)) (by decide +kernel)), (inG (List.mem_of_getElem? (i := 75) (by decide +kernel)) (by decide +kernel)), rfl, by decide +kernel⟩
theorem ml_X7_148 : LV RX7 148 3 m_X3_hasValueWithin 3 := ⟨by decide, (inG (List.mem_of_getElem? (i := 772) (by decide +kernel)) (by decide +kernel)), (inG (List.mem_of_getElem? (i := 773) (by decide +kernel)) (by decide +kernel)), (inG (List.mem_of_getElem? (i := 774) (by decide +kernel)) (by decide +kernel)), (inG (List.mem_of_getElem? (i := 74) (by decide +kernel)) (by decide +kernel)), rfl, by decide +kernel⟩
theorem ml_X7_152 : LV RX7 152 1 m_X1_sharedMany 2 := ⟨by decide, (inG (List.mem_of_getElem? (i := 788) (by decide +kernel)) (by decide +kernel)), (inG (List.mem_of_getElem? (i := 789) (by decide +kernel)) (by decide +kernel)), (inG (List.mem_of_getElem? (i := 790) (by decide +kernel)) (by decide +kernel)), (inG (List.mem_of_getElem? (i := 76) (by decide +kernel)) (by decide +kernel)), rfl, by decide +kernel⟩
theorem ml_X7_156 : LV RX7 156 3 m_X3_holdsInStretch 3 := ⟨by decide, (inG (List.mem_of_getElem? (i := 797) (by decide +kernel)) (by decide +kernel)), (inG (List.mem_of_getElem? (i := 798) (by decide +kernel)) (by decide +kernel)), (inG (List.mem_of_getElem? (i := 799) (by decide +kernel)) (by decide +kernel)), (inG (List.mem_of_getElem? (i := 74) (by decide +kernel)) (by decide +kernel)), rfl, by decide +kernel⟩
theorem ml_X7_160 : LV RX7 160 3 m_X3_stretchEnd 2 := ⟨by decide, (inG (List.mem_of_getElem? (i := 806) (by decide +kernel)) (by decide +kernel)), (inG (List.mem_of_getElem? (i := 802) (by decide +kernel)) (by decide +kernel)), (inG (List.mem_of_getElem? (i := 803) (by decide +kernel)) (by decide +kernel)), (inG (List.mem_of_getElem? (i := 74) (by decide +kernel)) (by decide +kernel)), rfl, by decide +kernel⟩
theorem ml_X7_163 : LV RX7 163 1 m_X1_fieldOfLeaf 1 := ⟨by decide, (inG (List.mem_of_getElem? (i := 447) (by decide +kernel)) (by decide +kernel)), (inG (List.mem_of_getElem? (i := 448) (by decide +kernel)) (by decide +kernel)), (inG (List.mem_of_getElem? (i := 449) (by decide +kernel)) (by decide +kernel)), (inG (List.mem_of_getElem? (i := 76) (by decide +kernel)) (by decide +kernel)), rfl, by decide +kernel⟩
theorem ml_X7_166 : LV RX7 166 1 m_X1_isField 1 := ⟨by decide, (inG (List.mem_of_getElem? (i := 451) (by decide +kernel)) (by decide +kernel)), (inG (List.mem_of_getElem? (i := 365) (by decide +kernel)) (by decide +kernel)), (inG (List.mem_of_getElem? (i := 366) (by decide +kernel)) (by decide +kernel)), (inG (List.mem_of_getElem? (i := 76) (by decide +kernel)) (by decide +kernel)), rfl, by decide +kernel⟩
theorem fl_X7_169 : FLd RX7 169 1 5 := ⟨by decide, by decide, (inG (List.mem_of_getElem? (i := 227) (by decide +kernel)) (by decide +kernel))⟩
theorem fl_X7_171 : FLd RX7 171 1 6 := ⟨by decide, by decide, (inG (List.mem_of_getElem? (i := 231) (by decide +kernel)) (by decide +kernel))⟩
theorem fl_X7_173 : FLd RX7 173 1 1 := ⟨by decide, by decide, (inG (List.mem_of_getElem? (i := 212) (by decide +kernel)) (by decide +kernel))⟩
theorem fl_X7_176 : FLd RX7 176 1 7 := ⟨by decide, by decide, (inG (List.mem_of_getElem? (i := 233) (by decide +kernel)) (by decide +kernel))⟩
theorem ml_X7_179 : LV RX7 179 3 m_X3_begin 4 := ⟨by decide, (inG (List.mem_of_getElem? (i := 452) (by decide +kernel)) (by decide +kernel)), (inG (List.mem_of_getElem? (i := 453) (by decide +kernel)) (by decide +kernel)), (inG (List.mem_of_getElem? (i := 454) (by decide +kernel)) (by decide +kernel)), (inG (List.mem_of_getElem? (i := 74) (by decide +kernel)) (by decide +kernel)), rfl, by decide +kernel⟩
theorem ml_X7_183 : LV RX7 183 3 m_X3_forget 1 := ⟨by decide, (inG (List.mem_of_getElem? (i := 604) (by decide +kernel)) (by decide +kernel)), (inG (List.mem_of_getElem? (i := 605) (by decide +kernel)) (by decide +kernel)), (inG (List.mem_of_getElem? (i := 606) (by decide +kernel)) (by decide +kernel)), (inG (List.mem_of_getElem? (i := 74) (by decide +kernel)) (by decide +kernel)), rfl, by decide +kernel⟩
theorem ml_X0_3 : Cond.methodLink RX0 3 objectInit ∈ lw_g := (inG (List.mem_of_getElem? (i := 465) (by decide +kernel)) (by decide +kernel))
theorem fl_X0_9 : FLd RX0 9 0 0 := ⟨by decide, by decide, (inG (List.mem_of_getElem? (i := 466) (by decide +kernel)) (by decide +kernel))⟩
theorem fl_X0_15 : FLd RX0 15 0 1 := ⟨by decide, by decide, (inG (List.mem_of_getElem? (i := 467) (by decide +kernel)) (by decide +kernel))⟩
theorem fl_X0_19 : FLd RX0 19 0 2 := ⟨by decide, by decide, (inG (List.mem_of_getElem? (i := 468) (by decide +kernel)) (by decide +kernel))⟩
theorem fl_X0_23 : FLd RX0 23 0 3 := ⟨by decide, by decide, (inG (List.mem_of_getElem? (i := 469) (by decide +kernel)) (by decide +kernel))⟩
theorem fl_X0_27 : FLd RX0 27 0 4 := ⟨by decide, by decide, (inG (List.mem_of_getElem? (i := 470) (by decide +kernel)) (by decide +kernel))⟩
theorem fl_X0_31 : FLd RX0 31 0 5 := ⟨by decide, by decide, (inG (List.mem_of_getElem? (i := 471) (by decide +kernel)) (by decide +kernel))⟩
theorem fl_X0_35 : FLd RX0 35 0 6 := ⟨by decide, by decide, (inG (List.mem_of_getElem? (i := 472) (by decide +kernel)) (by decide +kernel))⟩
theorem fl_X0_38 : FLd RX0 38 0 7 := ⟨by decide, by decide, (inG (List.mem_of_getElem? (i := 473) (by decide +kernel)) (by decide +kernel))⟩
theorem ml_X0_41 : LV RX0 41 4 m_X4_begin 0 := ⟨by decide, (inG (List.mem_of_getElem? (i := 496) (by decide +kernel)) (by decide +kernel)), (inG (List.mem_of_getElem? (i := 329) (by decide +kernel)) (by decide +kernel)), (inG (List.mem_of_getElem? (i := 330) (by decide +kernel)) (by decide +kernel)), (inG (List.mem_of_getElem? (i := 73) (by decide +kernel)) (by decide +kernel)), rfl, by decide +kernel⟩
theorem ml_X0_46 : LV RX0 46 0 m_X0_readPart 0 := ⟨by decide, (inG (List.mem_of_getElem? (i := 497) (by decide +kernel)) (by decide +kernel)), (inG (List.mem_of_getElem? (i := 499) (by decide +kernel)) (by decide +kernel)), (inG (List.mem_of_getElem? (i := 10) (by decide +kernel)) (by decide +kernel)), (inG (List.mem_of_getElem? (i := 79) (by decide +kernel)) (by decide +kernel)), rfl, by decide +kernel⟩
theorem fl_X0_50 : FLd RX0 50 4 3 := ⟨by decide, by decide, (inG (List.mem_of_getElem? (i := 105) (by decide +kernel)) (by decide +kernel))⟩
theorem ml_X0_53 : LV RX0 53 4 m_X4_next 0 := ⟨by decide, (inG (List.mem_of_getElem? (i := 501) (by decide +kernel)) (by decide +kernel)), (inG (List.mem_of_getElem? (i := 341) (by decide +kernel)) (by decide +kernel)), (inG (List.mem_of_getElem? (i := 342) (by decide +kernel)) (by decide +kernel)), (inG (List.mem_of_getElem? (i := 73) (by decide +kernel)) (by decide +kernel)), rfl, by decide +kernel⟩
theorem ml_X0_57 : LV RX0 57 0 m_X0_readEnd 0 := ⟨by decide, (inG (List.mem_of_getElem? (i := 502) (by decide +kernel)) (by decide +kernel)), (inG (List.mem_of_getElem? (i := 504) (by decide +kernel)) (by decide +kernel)), (inG (List.mem_of_getElem? (i := 11) (by decide +kernel)) (by decide +kernel)), (inG (List.mem_of_getElem? (i := 79) (by decide +kernel)) (by decide +kernel)), rfl, by decide +kernel⟩
theorem ml_X0_60 : LV RX0 60 0 m_X0_readClose 0 := ⟨by decide, (inG (List.mem_of_getElem? (i := 561) (by decide +kernel)) (by decide +kernel)), (inG (List.mem_of_getElem? (i := 563) (by decide +kernel)) (by decide +kernel)), (inG (List.mem_of_getElem? (i := 17) (by decide +kernel)) (by decide +kernel)), (inG (List.mem_of_getElem? (i := 79) (by decide +kernel)) (by decide +kernel)), rfl, by decide +kernel⟩
theorem ml_X0_63 : LV RX0 63 0 m_X0_readEntry 0 := ⟨by decide, (inG (List.mem_of_getElem? (i := 567) (by decide +kernel)) (by decide +kernel)), (inG (List.mem_of_getElem? (i := 569) (by decide +kernel)) (by decide +kernel)), (inG (List.mem_of_getElem? (i := 18) (by decide +kernel)) (by decide +kernel)), (inG (List.mem_of_getElem? (i := 79) (by decide +kernel)) (by decide +kernel)), rfl, by decide +kernel⟩
theorem ml_X0_66 : LV RX0 66 4 m_X4_failHere 1 := ⟨by decide, (inG (List.mem_of_getElem? (i := 506) (by decide +kernel)) (by decide +kernel)), (inG (List.mem_of_getElem? (i := 353) (by decide +kernel)) (by decide +kernel)), (inG (List.mem_of_getElem? (i := 354) (by decide +kernel)) (by decide +kernel)), (inG (List.mem_of_getElem? (i := 73) (by decide +kernel)) (by decide +kernel)), rfl, by decide +kernel⟩
theorem ml_X0_70 : LV RX0 70 0 m_X0_layLacking 0 := ⟨by decide, (inG (List.mem_of_getElem? (i := 507) (by decide +kernel)) (by decide +kernel)), (inG (List.mem_of_getElem? (i := 509) (by decide +kernel)) (by decide +kernel)), (inG (List.mem_of_getElem? (i := 12) (by decide +kernel)) (by decide +kernel)), (inG (List.mem_of_getElem? (i := 79) (by decide +kernel)) (by decide +kernel)), rfl, by decide +kernel⟩
theorem ml_X0_73 : LV RX0 73 1 m_X1_isField 1 := ⟨by decide, (inG (List.mem_of_getElem? (i := 565) (by decide +kernel)) (by decide +kernel)), (inG (List.mem_of_getElem? (i := 365) (by decide +kernel)) (by decide +kernel)), (inG (List.mem_of_getElem? (i := 366) (by decide +kernel)) (by decide +kernel)), (inG (List.mem_of_getElem? (i := 76) (by decide +kernel)) (by decide +kernel)), rfl, by decide +kernel⟩
theorem fl_X0_78 : FLd RX0 78 4 2 := ⟨by decide, by decide, (inG (List.mem_of_getElem? (i := 102) (by decide +kernel)) (by decide +kernel))⟩
theorem fl_X0_81 : FLd RX0 81 1 3 := ⟨by decide, by decide, (inG (List.mem_of_getElem? (i := 219) (by decide +kernel)) (by decide +kernel))⟩
theorem ml_X0_84 : LV RX0 84 4 m_X4_pass 1 := ⟨by decide, (inG (List.mem_of_getElem? (i := 566) (by decide +kernel)) (by decide +kernel)), (inG (List.mem_of_getElem? (i := 389) (by decide +kernel)) (by decide +kernel)), (inG (List.mem_of_getElem? (i := 390) (by decide +kernel)) (by decide +kernel)), (inG (List.mem_of_getElem? (i := 73) (by decide +kernel)) (by decide +kernel)), rfl, by decide +kernel⟩
theorem ml_X0_87 : LV RX0 87 4 m_X4_readWord 0 := ⟨by decide, (inG (List.mem_of_getElem? (i := 571) (by decide +kernel)) (by decide +kernel)), (inG (List.mem_of_getElem? (i := 373) (by decide +kernel)) (by decide +kernel)), (inG (List.mem_of_getElem? (i := 374) (by decide +kernel)) (by decide +kernel)), (inG (List.mem_of_getElem? (i := 73) (by decide +kernel)) (by decide +kernel)), rfl, by decide +kernel⟩
theorem fl_X0_90 : FLd RX0 90 4 6 := ⟨by decide, by decide, (inG (List.mem_of_getElem? (i := 114) (by decide +kernel)) (by decide +kernel))⟩
theorem fl_X0_93 : FLd RX0 93 4 7 := ⟨by decide, by decide, (inG (List.mem_of_getElem? (i := 118) (by decide +kernel)) (by decide +kernel))⟩
theorem ml_X0_97 : LV RX0 97 1 m_X1_find 2 := ⟨by decide, (inG (List.mem_of_getElem? (i := 572) (by decide +kernel)) (by decide +kernel)), (inG (List.mem_of_getElem? (i := 411) (by decide +kernel)) (by decide +kernel)), (inG (List.mem_of_getElem? (i := 412) (by decide +kernel)) (by decide +kernel)), (inG (List.mem_of_getElem? (i := 76) (by decide +kernel)) (by decide +kernel)), rfl, by decide +kernel⟩
theorem fl_X0_101 : FLd RX0 101 4 5 := ⟨by decide, by decide, (inG (List.mem_of_getElem? (i := 112) (by decide +kernel)) (by decide +kernel))⟩
theorem ml_X0_104 : LV RX0 104 4 m_X4_fail 2 := ⟨by decide, (inG (List.mem_of_getElem? (i := 573) (by decide +kernel)) (by decide +kernel)), (inG (List.mem_of_getElem? (i := 357) (by decide +kernel)) (by decide +kernel)), (inG (List.mem_of_getElem? (i := 358) (by decide +kernel)) (by decide +kernel)), (inG (List.mem_of_getElem? (i := 73) (by decide +kernel)) (by decide +kernel)), rfl, by decide +kernel⟩
theorem fl_X0_108 : FLd RX0 108 1 2 := ⟨by decide, by decide, (inG (List.mem_of_getElem? (i := 215) (by decide +kernel)) (by decide +kernel))⟩
theorem ml_X0_111 : LSt RX0 111 m_X0_kindBegunBy 1 := ⟨(inG (List.mem_of_getElem? (i := 574) (by decide +kernel)) (by decide +kernel)), (inG (List.mem_of_getElem? (i := 575) (by decide +kernel)) (by decide +kernel)), by decide +kernel⟩
theorem fl_X0_115 : FLd RX0 115 1 1 := ⟨by decide, by decide, (inG (List.mem_of_getElem? (i := 211) (by decide +kernel)) (by decide +kernel))⟩
theorem fl_X0_118 : FLd RX0 118 1 6 := ⟨by decide, by decide, (inG (List.mem_of_getElem? (i := 230) (by decide +kernel)) (by decide +kernel))⟩
theorem ml_X0_121 : LV RX0 121 0 m_X0_levelHere 0 := ⟨by decide, (inG (List.mem_of_getElem? (i := 520) (by decide +kernel)) (by decide +kernel)), (inG (List.mem_of_getElem? (i := 522) (by decide +kernel)) (by decide +kernel)), (inG (List.mem_of_getElem? (i := 14) (by decide +kernel)) (by decide +kernel)), (inG (List.mem_of_getElem? (i := 79) (by decide +kernel)) (by decide +kernel)), rfl, by decide +kernel⟩
theorem ml_X0_124 : LV RX0 124 0 m_X0_readValue 2 := ⟨by decide, (inG (List.mem_of_getElem? (i := 581) (by decide +kernel)) (by decide +kernel)), (inG (List.mem_of_getElem? (i := 583) (by decide +kernel)) (by decide +kernel)), (inG (List.mem_of_getElem? (i := 19) (by decide +kernel)) (by decide +kernel)), (inG (List.mem_of_getElem? (i := 79) (by decide +kernel)) (by decide +kernel)), rfl, by decide +kernel⟩
theorem ml_X0_127 : LSN RX0 127 m_X7_isDigit 1 := ⟨by decide +kernel, (inG (List.mem_of_getElem? (i := 578) (by decide +kernel)) (by decide +kernel)), by decide +kernel⟩
theorem ml_X0_130 : LSN RX0 130 m_X7_isLetter 1 := ⟨by decide +kernel, (inG (List.mem_of_getElem? (i := 378) (by decide +kernel)) (by decide +kernel)), by decide +kernel⟩
theorem ml_X0_133 : LV RX0 133 0 m_X0_readNumber 2 := ⟨by decide, (inG (List.mem_of_getElem? (i := 585) (by decide +kernel)) (by decide +kernel)), (inG (List.mem_of_getElem? (i := 587) (by decide +kernel)) (by decide +kernel)), (inG (List.mem_of_getElem? (i := 20) (by decide +kernel)) (by decide +kernel)), (inG (List.mem_of_getElem? (i := 79) (by decide +kernel)) (by decide +kernel)), rfl, by decide +kernel⟩
theorem ml_X0_136 : LV RX0 136 0 m_X0_readLetters 2 := ⟨by decide, (inG (List.mem_of_getElem? (i := 591) (by decide +kernel)) (by decide +kernel)), (inG (List.mem_of_getElem? (i := 593) (by decide +kernel)) (by decide +kernel)), (inG (List.mem_of_getElem? (i := 21) (by decide +kernel)) (by decide +kernel)), (inG (List.mem_of_getElem? (i := 79) (by decide +kernel)) (by decide +kernel)), rfl, by decide +kernel⟩
theorem ml_X0_139 : LV RX0 139 0 m_X0_readOpen 2 := ⟨by decide, (inG (List.mem_of_getElem? (i := 596) (by decide +kernel)) (by decide +kernel)), (inG (List.mem_of_getElem? (i := 598) (by decide +kernel)) (by decide +kernel)), (inG (List.mem_of_getElem? (i := 22) (by decide +kernel)) (by decide +kernel)), (inG (List.mem_of_getElem? (i := 79) (by decide +kernel)) (by decide +kernel)), rfl, by decide +kernel⟩
theorem ml_X0_142 : LV RX0 142 4 m_X4_here 0 := ⟨by decide, (inG (List.mem_of_getElem? (i := 589) (by decide +kernel)) (by decide +kernel)), (inG (List.mem_of_getElem? (i := 345) (by decide +kernel)) (by decide +kernel)), (inG (List.mem_of_getElem? (i := 346) (by decide +kernel)) (by decide +kernel)), (inG (List.mem_of_getElem? (i := 73) (by decide +kernel)) (by decide +kernel)), rfl, by decide +kernel⟩
theorem kl_X0_145 : Cond.constantLong RX0 145 (10) ∈ lw_g := (inG (List.mem_of_getElem? (i := 590) (by decide +kernel)) (by decide +kernel))
theorem fl_X0_147 : FLd RX0 147 1 8 := ⟨by decide, by decide, (inG (List.mem_of_getElem? (i := 235) (by decide +kernel)) (by decide +kernel))⟩
theorem fl_X0_150 : FLd RX0 150 1 5 := ⟨by decide, by decide, (inG (List.mem_of_getElem? (i := 226) (by decide +kernel)) (by decide +kernel))⟩
theorem ml_X0_153 : LV RX0 153 0 m_X0_lay 4 := ⟨by decide, (inG (List.mem_of_getElem? (i := 525) (by decide +kernel)) (by decide +kernel)), (inG (List.mem_of_getElem? (i := 527) (by decide +kernel)) (by decide +kernel)), (inG (List.mem_of_getElem? (i := 15) (by decide +kernel)) (by decide +kernel)), (inG (List.mem_of_getElem? (i := 79) (by decide +kernel)) (by decide +kernel)), rfl, by decide +kernel⟩
theorem ml_X0_157 : LV RX0 157 4 m_X4_failAtLetterTooMany 0 := ⟨by decide, (inG (List.mem_of_getElem? (i := 595) (by decide +kernel)) (by decide +kernel)), (inG (List.mem_of_getElem? (i := 407) (by decide +kernel)) (by decide +kernel)), (inG (List.mem_of_getElem? (i := 408) (by decide +kernel)) (by decide +kernel)), (inG (List.mem_of_getElem? (i := 73) (by decide +kernel)) (by decide +kernel)), rfl, by decide +kernel⟩
theorem fl_X0_160 : FLd RX0 160 1 4 := ⟨by decide, by decide, (inG (List.mem_of_getElem? (i := 223) (by decide +kernel)) (by decide +kernel))⟩
theorem fl_X0_163 : FLd RX0 163 1 10 := ⟨by decide, by decide, (inG (List.mem_of_getElem? (i := 240) (by decide +kernel)) (by decide +kernel))⟩
theorem ml_X0_166 : LV RX0 166 0 m_X0_layLackingLeaves 1 := ⟨by decide, (inG (List.mem_of_getElem? (i := 511) (by decide +kernel)) (by decide +kernel)), (inG (List.mem_of_getElem? (i := 513) (by decide +kernel)) (by decide +kernel)), (inG (List.mem_of_getElem? (i := 13) (by decide +kernel)) (by decide +kernel)), (inG (List.mem_of_getElem? (i := 79) (by decide +kernel)) (by decide +kernel)), rfl, by decide +kernel⟩
theorem fl_X0_170 : FLd RX0 170 1 11 := ⟨by decide, by decide, (inG (List.mem_of_getElem? (i := 244) (by decide +kernel)) (by decide +kernel))⟩
theorem ml_X0_173 : LV RX0 173 1 m_X1_fieldOfLeaf 1 := ⟨by decide, (inG (List.mem_of_getElem? (i := 515) (by decide +kernel)) (by decide +kernel)), (inG (List.mem_of_getElem? (i := 448) (by decide +kernel)) (by decide +kernel)), (inG (List.mem_of_getElem? (i := 449) (by decide +kernel)) (by decide +kernel)), (inG (List.mem_of_getElem? (i := 76) (by decide +kernel)) (by decide +kernel)), rfl, by decide +kernel⟩
theorem ml_X0_176 : LV RX0 176 1 m_X1_isOnRoad 2 := ⟨by decide, (inG (List.mem_of_getElem? (i := 516) (by decide +kernel)) (by decide +kernel)), (inG (List.mem_of_getElem? (i := 517) (by decide +kernel)) (by decide +kernel)), (inG (List.mem_of_getElem? (i := 518) (by decide +kernel)) (by decide +kernel)), (inG (List.mem_of_getElem? (i := 76) (by decide +kernel)) (by decide +kernel)), rfl, by decide +kernel⟩
theorem ml_X0_179 : LV RX0 179 1 m_X1_deepUpTo 1 := ⟨by decide, (inG (List.mem_of_getElem? (i := 524) (by decide +kernel)) (by decide +kernel)), (inG (List.mem_of_getElem? (i := 436) (by decide +kernel)) (by decide +kernel)), (inG (List.mem_of_getElem? (i := 437) (by decide +kernel)) (by decide +kernel)), (inG (List.mem_of_getElem? (i := 76) (by decide +kernel)) (by decide +kernel)), rfl, by decide +kernel⟩
theorem ml_X0_182 : LV RX0 182 3 m_X3_add 4 := ⟨by decide, (inG (List.mem_of_getElem? (i := 529) (by decide +kernel)) (by decide +kernel)), (inG (List.mem_of_getElem? (i := 530) (by decide +kernel)) (by decide +kernel)), (inG (List.mem_of_getElem? (i := 531) (by decide +kernel)) (by decide +kernel)), (inG (List.mem_of_getElem? (i := 74) (by decide +kernel)) (by decide +kernel)), rfl, by decide +kernel⟩
theorem ml_X1_3 : Cond.methodLink RX1 3 objectInit ∈ lw_g := (inG (List.mem_of_getElem? (i := 206) (by decide +kernel)) (by decide +kernel))
theorem fl_X1_9 : FLd RX1 9 1 0 := ⟨by decide, by decide, (inG (List.mem_of_getElem? (i := 207) (by decide +kernel)) (by decide +kernel))⟩
theorem fl_X1_15 : FLd RX1 15 1 1 := ⟨by decide, by decide, (inG (List.mem_of_getElem? (i := 209) (by decide +kernel)) (by decide +kernel))⟩
theorem fl_X1_19 : FLd RX1 19 1 2 := ⟨by decide, by decide, (inG (List.mem_of_getElem? (i := 213) (by decide +kernel)) (by decide +kernel))⟩
theorem fl_X1_22 : FLd RX1 22 1 3 := ⟨by decide, by decide, (inG (List.mem_of_getElem? (i := 217) (by decide +kernel)) (by decide +kernel))⟩
theorem fl_X1_25 : FLd RX1 25 1 4 := ⟨by decide, by decide, (inG (List.mem_of_getElem? (i := 221) (by decide +kernel)) (by decide +kernel))⟩
theorem fl_X1_28 : FLd RX1 28 1 5 := ⟨by decide, by decide, (inG (List.mem_of_getElem? (i := 224) (by decide +kernel)) (by decide +kernel))⟩
theorem fl_X1_31 : FLd RX1 31 1 6 := ⟨by decide, by decide, (inG (List.mem_of_getElem? (i := 228) (by decide +kernel)) (by decide +kernel))⟩
theorem fl_X1_34 : FLd RX1 34 1 7 := ⟨by decide, by decide, (inG (List.mem_of_getElem? (i := 232) (by decide +kernel)) (by decide +kernel))⟩
theorem fl_X1_37 : FLd RX1 37 1 8 := ⟨by decide, by decide, (inG (List.mem_of_getElem? (i := 234) (by decide +kernel)) (by decide +kernel))⟩
theorem fl_X1_40 : FLd RX1 40 1 9 := ⟨by decide, by decide, (inG (List.mem_of_getElem? (i := 236) (by decide +kernel)) (by decide +kernel))⟩
theorem fl_X1_43 : FLd RX1 43 1 10 := ⟨by decide, by decide, (inG (List.mem_of_getElem? (i := 237) (by decide +kernel)) (by decide +kernel))⟩
theorem fl_X1_47 : FLd RX1 47 1 11 := ⟨by decide, by decide, (inG (List.mem_of_getElem? (i := 241) (by decide +kernel)) (by decide +kernel))⟩
theorem ml_X1_50 : LV RX1 50 1 m_X1_isField 1 := ⟨by decide, (inG (List.mem_of_getElem? (i := 430) (by decide +kernel)) (by decide +kernel)), (inG (List.mem_of_getElem? (i := 365) (by decide +kernel)) (by decide +kernel)), (inG (List.mem_of_getElem? (i := 366) (by decide +kernel)) (by decide +kernel)), (inG (List.mem_of_getElem? (i := 76) (by decide +kernel)) (by decide +kernel)), rfl, by decide +kernel⟩
theorem ml_X1_54 : LV RX1 54 1 m_X1_deepUpTo 1 := ⟨by decide, (inG (List.mem_of_getElem? (i := 435) (by decide +kernel)) (by decide +kernel)), (inG (List.mem_of_getElem? (i := 436) (by decide +kernel)) (by decide +kernel)), (inG (List.mem_of_getElem? (i := 437) (by decide +kernel)) (by decide +kernel)), (inG (List.mem_of_getElem? (i := 76) (by decide +kernel)) (by decide +kernel)), rfl, by decide +kernel⟩
theorem ml_X1_58 : LV RX1 58 1 m_X1_fieldOfLeaf 1 := ⟨by decide, (inG (List.mem_of_getElem? (i := 792) (by decide +kernel)) (by decide +kernel)), (inG (List.mem_of_getElem? (i := 448) (by decide +kernel)) (by decide +kernel)), (inG (List.mem_of_getElem? (i := 449) (by decide +kernel)) (by decide +kernel)), (inG (List.mem_of_getElem? (i := 76) (by decide +kernel)) (by decide +kernel)), rfl, by decide +kernel⟩
theorem ml_X1_61 : LV RX1 61 1 m_X1_isOnRoad 2 := ⟨by decide, (inG (List.mem_of_getElem? (i := 793) (by decide +kernel)) (by decide +kernel)), (inG (List.mem_of_getElem? (i := 517) (by decide +kernel)) (by decide +kernel)), (inG (List.mem_of_getElem? (i := 518) (by decide +kernel)) (by decide +kernel)), (inG (List.mem_of_getElem? (i := 76) (by decide +kernel)) (by decide +kernel)), rfl, by decide +kernel⟩
theorem ml_X1_65 : Cond.methodLink RX1 65 yJ9_max_7cf53 ∈ lw_g ∧ Cond.static yJ9_max_7cf53 ∈ lw_g := ⟨(inG (List.mem_of_getElem? (i := 794) (by decide +kernel)) (by decide +kernel)), (inG (List.mem_of_getElem? (i := 795) (by decide +kernel)) (by decide +kernel))⟩
theorem ml_X2_3 : Cond.methodLink RX2 3 objectInit ∈ lw_g := (inG (List.mem_of_getElem? (i := 310) (by decide +kernel)) (by decide +kernel))
theorem fl_X2_9 : FLd RX2 9 2 0 := ⟨by decide, by decide, (inG (List.mem_of_getElem? (i := 311) (by decide +kernel)) (by decide +kernel))⟩
theorem fl_X2_15 : FLd RX2 15 2 1 := ⟨by decide, by decide, (inG (List.mem_of_getElem? (i := 312) (by decide +kernel)) (by decide +kernel))⟩
theorem fl_X2_19 : FLd RX2 19 2 2 := ⟨by decide, by decide, (inG (List.mem_of_getElem? (i := 313) (by decide +kernel)) (by decide +kernel))⟩
theorem fl_X2_23 : FLd RX2 23 2 3 := ⟨by decide, by decide, (inG (List.mem_of_getElem? (i := 314) (by decide +kernel)) (by decide +kernel))⟩
theorem ml_X2_26 : LV RX2 26 4 m_X4_begin 0 := ⟨by decide, (inG (List.mem_of_getElem? (i := 328) (by decide +kernel)) (by decide +kernel)), (inG (List.mem_of_getElem? (i := 329) (by decide +kernel)) (by decide +kernel)), (inG (List.mem_of_getElem? (i := 330) (by decide +kernel)) (by decide +kernel)), (inG (List.mem_of_getElem? (i := 73) (by decide +kernel)) (by decide +kernel)), rfl, by decide +kernel⟩
theorem ml_X2_31 : LV RX2 31 1 m_X1_clear 0 := ⟨by decide, (inG (List.mem_of_getElem? (i := 332) (by decide +kernel)) (by decide +kernel)), (inG (List.mem_of_getElem? (i := 333) (by decide +kernel)) (by decide +kernel)), (inG (List.mem_of_getElem? (i := 334) (by decide +kernel)) (by decide +kernel)), (inG (List.mem_of_getElem? (i := 76) (by decide +kernel)) (by decide +kernel)), rfl, by decide +kernel⟩
theorem ml_X2_36 : LV RX2 36 2 m_X2_readPart 0 := ⟨by decide, (inG (List.mem_of_getElem? (i := 336) (by decide +kernel)) (by decide +kernel)), (inG (List.mem_of_getElem? (i := 338) (by decide +kernel)) (by decide +kernel)), (inG (List.mem_of_getElem? (i := 0) (by decide +kernel)) (by decide +kernel)), (inG (List.mem_of_getElem? (i := 78) (by decide +kernel)) (by decide +kernel)), rfl, by decide +kernel⟩
theorem ml_X2_40 : LV RX2 40 1 m_X1_measure 0 := ⟨by decide, (inG (List.mem_of_getElem? (i := 431) (by decide +kernel)) (by decide +kernel)), (inG (List.mem_of_getElem? (i := 432) (by decide +kernel)) (by decide +kernel)), (inG (List.mem_of_getElem? (i := 433) (by decide +kernel)) (by decide +kernel)), (inG (List.mem_of_getElem? (i := 76) (by decide +kernel)) (by decide +kernel)), rfl, by decide +kernel⟩
theorem fl_X2_43 : FLd RX2 43 4 3 := ⟨by decide, by decide, (inG (List.mem_of_getElem? (i := 106) (by decide +kernel)) (by decide +kernel))⟩
theorem ml_X2_46 : LV RX2 46 4 m_X4_next 0 := ⟨by decide, (inG (List.mem_of_getElem? (i := 340) (by decide +kernel)) (by decide +kernel)), (inG (List.mem_of_getElem? (i := 341) (by decide +kernel)) (by decide +kernel)), (inG (List.mem_of_getElem? (i := 342) (by decide +kernel)) (by decide +kernel)), (inG (List.mem_of_getElem? (i := 73) (by decide +kernel)) (by decide +kernel)), rfl, by decide +kernel⟩
theorem ml_X2_50 : LV RX2 50 2 m_X2_readEnd 0 := ⟨by decide, (inG (List.mem_of_getElem? (i := 348) (by decide +kernel)) (by decide +kernel)), (inG (List.mem_of_getElem? (i := 350) (by decide +kernel)) (by decide +kernel)), (inG (List.mem_of_getElem? (i := 1) (by decide +kernel)) (by decide +kernel)), (inG (List.mem_of_getElem? (i := 78) (by decide +kernel)) (by decide +kernel)), rfl, by decide +kernel⟩
theorem ml_X2_53 : LV RX2 53 2 m_X2_readClose 0 := ⟨by decide, (inG (List.mem_of_getElem? (i := 360) (by decide +kernel)) (by decide +kernel)), (inG (List.mem_of_getElem? (i := 362) (by decide +kernel)) (by decide +kernel)), (inG (List.mem_of_getElem? (i := 2) (by decide +kernel)) (by decide +kernel)), (inG (List.mem_of_getElem? (i := 78) (by decide +kernel)) (by decide +kernel)), rfl, by decide +kernel⟩
theorem ml_X2_56 : LV RX2 56 2 m_X2_readField 0 := ⟨by decide, (inG (List.mem_of_getElem? (i := 393) (by decide +kernel)) (by decide +kernel)), (inG (List.mem_of_getElem? (i := 395) (by decide +kernel)) (by decide +kernel)), (inG (List.mem_of_getElem? (i := 4) (by decide +kernel)) (by decide +kernel)), (inG (List.mem_of_getElem? (i := 78) (by decide +kernel)) (by decide +kernel)), rfl, by decide +kernel⟩
theorem ml_X2_59 : LV RX2 59 4 m_X4_failHere 1 := ⟨by decide, (inG (List.mem_of_getElem? (i := 352) (by decide +kernel)) (by decide +kernel)), (inG (List.mem_of_getElem? (i := 353) (by decide +kernel)) (by decide +kernel)), (inG (List.mem_of_getElem? (i := 354) (by decide +kernel)) (by decide +kernel)), (inG (List.mem_of_getElem? (i := 73) (by decide +kernel)) (by decide +kernel)), rfl, by decide +kernel⟩
theorem fl_X2_63 : FLd RX2 63 1 10 := ⟨by decide, by decide, (inG (List.mem_of_getElem? (i := 239) (by decide +kernel)) (by decide +kernel))⟩
theorem ml_X2_66 : LV RX2 66 1 m_X1_isField 1 := ⟨by decide, (inG (List.mem_of_getElem? (i := 364) (by decide +kernel)) (by decide +kernel)), (inG (List.mem_of_getElem? (i := 365) (by decide +kernel)) (by decide +kernel)), (inG (List.mem_of_getElem? (i := 366) (by decide +kernel)) (by decide +kernel)), (inG (List.mem_of_getElem? (i := 76) (by decide +kernel)) (by decide +kernel)), rfl, by decide +kernel⟩
theorem fl_X2_69 : FLd RX2 69 4 2 := ⟨by decide, by decide, (inG (List.mem_of_getElem? (i := 103) (by decide +kernel)) (by decide +kernel))⟩
theorem fl_X2_72 : FLd RX2 72 1 4 := ⟨by decide, by decide, (inG (List.mem_of_getElem? (i := 222) (by decide +kernel)) (by decide +kernel))⟩
theorem fl_X2_76 : FLd RX2 76 1 3 := ⟨by decide, by decide, (inG (List.mem_of_getElem? (i := 220) (by decide +kernel)) (by decide +kernel))⟩
theorem ml_X2_79 : LV RX2 79 2 m_X2_readMark 1 := ⟨by decide, (inG (List.mem_of_getElem? (i := 368) (by decide +kernel)) (by decide +kernel)), (inG (List.mem_of_getElem? (i := 370) (by decide +kernel)) (by decide +kernel)), (inG (List.mem_of_getElem? (i := 3) (by decide +kernel)) (by decide +kernel)), (inG (List.mem_of_getElem? (i := 78) (by decide +kernel)) (by decide +kernel)), rfl, by decide +kernel⟩
theorem ml_X2_82 : LV RX2 82 2 m_X2_readName 0 := ⟨by decide, (inG (List.mem_of_getElem? (i := 397) (by decide +kernel)) (by decide +kernel)), (inG (List.mem_of_getElem? (i := 399) (by decide +kernel)) (by decide +kernel)), (inG (List.mem_of_getElem? (i := 5) (by decide +kernel)) (by decide +kernel)), (inG (List.mem_of_getElem? (i := 78) (by decide +kernel)) (by decide +kernel)), rfl, by decide +kernel⟩
theorem fl_X2_85 : FLd RX2 85 4 7 := ⟨by decide, by decide, (inG (List.mem_of_getElem? (i := 117) (by decide +kernel)) (by decide +kernel))⟩
theorem ml_X2_89 : LV RX2 89 1 m_X1_add 2 := ⟨by decide, (inG (List.mem_of_getElem? (i := 414) (by decide +kernel)) (by decide +kernel)), (inG (List.mem_of_getElem? (i := 415) (by decide +kernel)) (by decide +kernel)), (inG (List.mem_of_getElem? (i := 416) (by decide +kernel)) (by decide +kernel)), (inG (List.mem_of_getElem? (i := 76) (by decide +kernel)) (by decide +kernel)), rfl, by decide +kernel⟩
theorem fl_X2_93 : FLd RX2 93 4 5 := ⟨by decide, by decide, (inG (List.mem_of_getElem? (i := 111) (by decide +kernel)) (by decide +kernel))⟩
theorem ml_X2_96 : LV RX2 96 4 m_X4_fail 2 := ⟨by decide, (inG (List.mem_of_getElem? (i := 387) (by decide +kernel)) (by decide +kernel)), (inG (List.mem_of_getElem? (i := 357) (by decide +kernel)) (by decide +kernel)), (inG (List.mem_of_getElem? (i := 358) (by decide +kernel)) (by decide +kernel)), (inG (List.mem_of_getElem? (i := 73) (by decide +kernel)) (by decide +kernel)), rfl, by decide +kernel⟩
theorem ml_X2_100 : LV RX2 100 2 m_X2_readOpen 1 := ⟨by decide, (inG (List.mem_of_getElem? (i := 418) (by decide +kernel)) (by decide +kernel)), (inG (List.mem_of_getElem? (i := 420) (by decide +kernel)) (by decide +kernel)), (inG (List.mem_of_getElem? (i := 6) (by decide +kernel)) (by decide +kernel)), (inG (List.mem_of_getElem? (i := 78) (by decide +kernel)) (by decide +kernel)), rfl, by decide +kernel⟩
theorem ml_X2_103 : LV RX2 103 2 m_X2_readLeaf 1 := ⟨by decide, (inG (List.mem_of_getElem? (i := 422) (by decide +kernel)) (by decide +kernel)), (inG (List.mem_of_getElem? (i := 424) (by decide +kernel)) (by decide +kernel)), (inG (List.mem_of_getElem? (i := 7) (by decide +kernel)) (by decide +kernel)), (inG (List.mem_of_getElem? (i := 78) (by decide +kernel)) (by decide +kernel)), rfl, by decide +kernel⟩
theorem ml_X2_106 : LV RX2 106 4 m_X4_readWord 0 := ⟨by decide, (inG (List.mem_of_getElem? (i := 372) (by decide +kernel)) (by decide +kernel)), (inG (List.mem_of_getElem? (i := 373) (by decide +kernel)) (by decide +kernel)), (inG (List.mem_of_getElem? (i := 374) (by decide +kernel)) (by decide +kernel)), (inG (List.mem_of_getElem? (i := 73) (by decide +kernel)) (by decide +kernel)), rfl, by decide +kernel⟩
theorem fl_X2_109 : FLd RX2 109 4 6 := ⟨by decide, by decide, (inG (List.mem_of_getElem? (i := 115) (by decide +kernel)) (by decide +kernel))⟩
theorem ml_X2_112 : LSt RX2 112 m_X2_isKeyWord 1 := ⟨(inG (List.mem_of_getElem? (i := 401) (by decide +kernel)) (by decide +kernel)), (inG (List.mem_of_getElem? (i := 402) (by decide +kernel)) (by decide +kernel)), by decide +kernel⟩
theorem ml_X2_116 : LV RX2 116 4 m_X4_failAtLetterTooMany 0 := ⟨by decide, (inG (List.mem_of_getElem? (i := 406) (by decide +kernel)) (by decide +kernel)), (inG (List.mem_of_getElem? (i := 407) (by decide +kernel)) (by decide +kernel)), (inG (List.mem_of_getElem? (i := 408) (by decide +kernel)) (by decide +kernel)), (inG (List.mem_of_getElem? (i := 73) (by decide +kernel)) (by decide +kernel)), rfl, by decide +kernel⟩
theorem ml_X2_119 : LV RX2 119 1 m_X1_find 2 := ⟨by decide, (inG (List.mem_of_getElem? (i := 410) (by decide +kernel)) (by decide +kernel)), (inG (List.mem_of_getElem? (i := 411) (by decide +kernel)) (by decide +kernel)), (inG (List.mem_of_getElem? (i := 412) (by decide +kernel)) (by decide +kernel)), (inG (List.mem_of_getElem? (i := 76) (by decide +kernel)) (by decide +kernel)), rfl, by decide +kernel⟩
theorem kl_X2_123 : Cond.constantLong RX2 123 (10786) ∈ lw_g := (inG (List.mem_of_getElem? (i := 404) (by decide +kernel)) (by decide +kernel))
theorem kl_X2_125 : Cond.constantLong RX2 125 (464134) ∈ lw_g := (inG (List.mem_of_getElem? (i := 405) (by decide +kernel)) (by decide +kernel))
theorem ml_X2_127 : LV RX2 127 1 m_X1_makeLeaf 2 := ⟨by decide, (inG (List.mem_of_getElem? (i := 426) (by decide +kernel)) (by decide +kernel)), (inG (List.mem_of_getElem? (i := 427) (by decide +kernel)) (by decide +kernel)), (inG (List.mem_of_getElem? (i := 428) (by decide +kernel)) (by decide +kernel)), (inG (List.mem_of_getElem? (i := 76) (by decide +kernel)) (by decide +kernel)), rfl, by decide +kernel⟩
theorem ml_X2_130 : LSt RX2 130 m_X2_markOf 1 := ⟨(inG (List.mem_of_getElem? (i := 381) (by decide +kernel)) (by decide +kernel)), (inG (List.mem_of_getElem? (i := 382) (by decide +kernel)) (by decide +kernel)), by decide +kernel⟩
theorem fl_X2_134 : FLd RX2 134 1 2 := ⟨by decide, by decide, (inG (List.mem_of_getElem? (i := 216) (by decide +kernel)) (by decide +kernel))⟩
theorem ml_X2_137 : LV RX2 137 4 m_X4_pass 1 := ⟨by decide, (inG (List.mem_of_getElem? (i := 388) (by decide +kernel)) (by decide +kernel)), (inG (List.mem_of_getElem? (i := 389) (by decide +kernel)) (by decide +kernel)), (inG (List.mem_of_getElem? (i := 390) (by decide +kernel)) (by decide +kernel)), (inG (List.mem_of_getElem? (i := 73) (by decide +kernel)) (by decide +kernel)), rfl, by decide +kernel⟩
theorem kl_X2_140 : Cond.constantLong RX2 140 (11318) ∈ lw_g := (inG (List.mem_of_getElem? (i := 384) (by decide +kernel)) (by decide +kernel))
theorem kl_X2_142 : Cond.constantLong RX2 142 (11387) ∈ lw_g := (inG (List.mem_of_getElem? (i := 385) (by decide +kernel)) (by decide +kernel))
theorem kl_X2_144 : Cond.constantLong RX2 144 (257011) ∈ lw_g := (inG (List.mem_of_getElem? (i := 386) (by decide +kernel)) (by decide +kernel))
theorem ml_X3_3 : Cond.methodLink RX3 3 objectInit ∈ lw_g := (inG (List.mem_of_getElem? (i := 143) (by decide +kernel)) (by decide +kernel))
theorem fl_X3_9 : FLd RX3 9 3 0 := ⟨by decide, by decide, (inG (List.mem_of_getElem? (i := 144) (by decide +kernel)) (by decide +kernel))⟩
theorem fl_X3_15 : FLd RX3 15 3 1 := ⟨by decide, by decide, (inG (List.mem_of_getElem? (i := 146) (by decide +kernel)) (by decide +kernel))⟩
theorem fl_X3_18 : FLd RX3 18 3 2 := ⟨by decide, by decide, (inG (List.mem_of_getElem? (i := 149) (by decide +kernel)) (by decide +kernel))⟩
theorem fl_X3_21 : FLd RX3 21 3 3 := ⟨by decide, by decide, (inG (List.mem_of_getElem? (i := 151) (by decide +kernel)) (by decide +kernel))⟩
theorem fl_X3_25 : FLd RX3 25 3 4 := ⟨by decide, by decide, (inG (List.mem_of_getElem? (i := 154) (by decide +kernel)) (by decide +kernel))⟩
theorem fl_X3_29 : FLd RX3 29 3 5 := ⟨by decide, by decide, (inG (List.mem_of_getElem? (i := 156) (by decide +kernel)) (by decide +kernel))⟩
theorem fl_X3_32 : FLd RX3 32 3 6 := ⟨by decide, by decide, (inG (List.mem_of_getElem? (i := 158) (by decide +kernel)) (by decide +kernel))⟩
theorem fl_X3_35 : FLd RX3 35 3 7 := ⟨by decide, by decide, (inG (List.mem_of_getElem? (i := 160) (by decide +kernel)) (by decide +kernel))⟩
theorem fl_X3_39 : FLd RX3 39 3 8 := ⟨by decide, by decide, (inG (List.mem_of_getElem? (i := 163) (by decide +kernel)) (by decide +kernel))⟩
theorem ml_X3_42 : LV RX3 42 3 m_X3_grow 0 := ⟨by decide, (inG (List.mem_of_getElem? (i := 533) (by decide +kernel)) (by decide +kernel)), (inG (List.mem_of_getElem? (i := 535) (by decide +kernel)) (by decide +kernel)), (inG (List.mem_of_getElem? (i := 16) (by decide +kernel)) (by decide +kernel)), (inG (List.mem_of_getElem? (i := 74) (by decide +kernel)) (by decide +kernel)), rfl, by decide +kernel⟩
theorem ml_X3_45 : LSt RX3 45 m_J7_copyOf_59c91 2 := ⟨(inG (List.mem_of_getElem? (i := 537) (by decide +kernel)) (by decide +kernel)), (inG (List.mem_of_getElem? (i := 538) (by decide +kernel)) (by decide +kernel)), by decide +kernel⟩
theorem ml_X3_51 : LSt RX3 51 m_J7_copyOf_c38d5 2 := ⟨(inG (List.mem_of_getElem? (i := 553) (by decide +kernel)) (by decide +kernel)), (inG (List.mem_of_getElem? (i := 554) (by decide +kernel)) (by decide +kernel)), by decide +kernel⟩
theorem ml_X3_54 : LV RX3 54 3 m_X3_isRow 1 := ⟨by decide, (inG (List.mem_of_getElem? (i := 632) (by decide +kernel)) (by decide +kernel)), (inG (List.mem_of_getElem? (i := 633) (by decide +kernel)) (by decide +kernel)), (inG (List.mem_of_getElem? (i := 634) (by decide +kernel)) (by decide +kernel)), (inG (List.mem_of_getElem? (i := 74) (by decide +kernel)) (by decide +kernel)), rfl, by decide +kernel⟩
theorem ml_X3_58 : LV RX3 58 3 m_X3_hasValue 1 := ⟨by decide, (inG (List.mem_of_getElem? (i := 628) (by decide +kernel)) (by decide +kernel)), (inG (List.mem_of_getElem? (i := 629) (by decide +kernel)) (by decide +kernel)), (inG (List.mem_of_getElem? (i := 630) (by decide +kernel)) (by decide +kernel)), (inG (List.mem_of_getElem? (i := 74) (by decide +kernel)) (by decide +kernel)), rfl, by decide +kernel⟩
theorem ml_X3_61 : LV RX3 61 3 m_X3_hasValueAhead 1 := ⟨by decide, (inG (List.mem_of_getElem? (i := 640) (by decide +kernel)) (by decide +kernel)), (inG (List.mem_of_getElem? (i := 642) (by decide +kernel)) (by decide +kernel)), (inG (List.mem_of_getElem? (i := 25) (by decide +kernel)) (by decide +kernel)), (inG (List.mem_of_getElem? (i := 74) (by decide +kernel)) (by decide +kernel)), rfl, by decide +kernel⟩
theorem ml_X3_64 : LV RX3 64 3 m_X3_countUnlike 0 := ⟨by decide, (inG (List.mem_of_getElem? (i := 648) (by decide +kernel)) (by decide +kernel)), (inG (List.mem_of_getElem? (i := 637) (by decide +kernel)) (by decide +kernel)), (inG (List.mem_of_getElem? (i := 638) (by decide +kernel)) (by decide +kernel)), (inG (List.mem_of_getElem? (i := 74) (by decide +kernel)) (by decide +kernel)), rfl, by decide +kernel⟩
theorem ml_X3_68 : LV RX3 68 3 m_X3_countRuns 1 := ⟨by decide, (inG (List.mem_of_getElem? (i := 649) (by decide +kernel)) (by decide +kernel)), (inG (List.mem_of_getElem? (i := 651) (by decide +kernel)) (by decide +kernel)), (inG (List.mem_of_getElem? (i := 26) (by decide +kernel)) (by decide +kernel)), (inG (List.mem_of_getElem? (i := 74) (by decide +kernel)) (by decide +kernel)), rfl, by decide +kernel⟩
theorem ml_X3_72 : LV RX3 72 3 m_X3_countValues 0 := ⟨by decide, (inG (List.mem_of_getElem? (i := 653) (by decide +kernel)) (by decide +kernel)), (inG (List.mem_of_getElem? (i := 625) (by decide +kernel)) (by decide +kernel)), (inG (List.mem_of_getElem? (i := 626) (by decide +kernel)) (by decide +kernel)), (inG (List.mem_of_getElem? (i := 74) (by decide +kernel)) (by decide +kernel)), rfl, by decide +kernel⟩
theorem ml_X3_75 : LV RX3 75 3 m_X3_stretchEnd 2 := ⟨by decide, (inG (List.mem_of_getElem? (i := 801) (by decide +kernel)) (by decide +kernel)), (inG (List.mem_of_getElem? (i := 802) (by decide +kernel)) (by decide +kernel)), (inG (List.mem_of_getElem? (i := 803) (by decide +kernel)) (by decide +kernel)), (inG (List.mem_of_getElem? (i := 74) (by decide +kernel)) (by decide +kernel)), rfl, by decide +kernel⟩
theorem ml_X3_79 : LV RX3 79 3 m_X3_hasValueWithin 3 := ⟨by decide, (inG (List.mem_of_getElem? (i := 805) (by decide +kernel)) (by decide +kernel)), (inG (List.mem_of_getElem? (i := 773) (by decide +kernel)) (by decide +kernel)), (inG (List.mem_of_getElem? (i := 774) (by decide +kernel)) (by decide +kernel)), (inG (List.mem_of_getElem? (i := 74) (by decide +kernel)) (by decide +kernel)), rfl, by decide +kernel⟩
theorem ml_X4_3 : Cond.methodLink RX4 3 objectInit ∈ lw_g := (inG (List.mem_of_getElem? (i := 97) (by decide +kernel)) (by decide +kernel))
theorem fl_X4_9 : FLd RX4 9 4 0 := ⟨by decide, by decide, (inG (List.mem_of_getElem? (i := 98) (by decide +kernel)) (by decide +kernel))⟩
theorem fl_X4_15 : FLd RX4 15 4 1 := ⟨by decide, by decide, (inG (List.mem_of_getElem? (i := 99) (by decide +kernel)) (by decide +kernel))⟩
theorem fl_X4_19 : FLd RX4 19 4 2 := ⟨by decide, by decide, (inG (List.mem_of_getElem? (i := 101) (by decide +kernel)) (by decide +kernel))⟩
theorem fl_X4_22 : FLd RX4 22 4 3 := ⟨by decide, by decide, (inG (List.mem_of_getElem? (i := 104) (by decide +kernel)) (by decide +kernel))⟩
theorem fl_X4_25 : FLd RX4 25 4 4 := ⟨by decide, by decide, (inG (List.mem_of_getElem? (i := 108) (by decide +kernel)) (by decide +kernel))⟩
theorem fl_X4_28 : FLd RX4 28 4 5 := ⟨by decide, by decide, (inG (List.mem_of_getElem? (i := 110) (by decide +kernel)) (by decide +kernel))⟩
theorem fl_X4_31 : FLd RX4 31 4 6 := ⟨by decide, by decide, (inG (List.mem_of_getElem? (i := 113) (by decide +kernel)) (by decide +kernel))⟩
theorem fl_X4_34 : FLd RX4 34 4 7 := ⟨by decide, by decide, (inG (List.mem_of_getElem? (i := 116) (by decide +kernel)) (by decide +kernel))⟩
theorem ml_X4_38 : LV RX4 38 4 m_X4_fail 2 := ⟨by decide, (inG (List.mem_of_getElem? (i := 356) (by decide +kernel)) (by decide +kernel)), (inG (List.mem_of_getElem? (i := 357) (by decide +kernel)) (by decide +kernel)), (inG (List.mem_of_getElem? (i := 358) (by decide +kernel)) (by decide +kernel)), (inG (List.mem_of_getElem? (i := 73) (by decide +kernel)) (by decide +kernel)), rfl, by decide +kernel⟩
theorem ml_X4_42 : LV RX4 42 4 m_X4_here 0 := ⟨by decide, (inG (List.mem_of_getElem? (i := 344) (by decide +kernel)) (by decide +kernel)), (inG (List.mem_of_getElem? (i := 345) (by decide +kernel)) (by decide +kernel)), (inG (List.mem_of_getElem? (i := 346) (by decide +kernel)) (by decide +kernel)), (inG (List.mem_of_getElem? (i := 73) (by decide +kernel)) (by decide +kernel)), rfl, by decide +kernel⟩
theorem ml_X4_46 : LV RX4 46 4 m_X4_next 0 := ⟨by decide, (inG (List.mem_of_getElem? (i := 376) (by decide +kernel)) (by decide +kernel)), (inG (List.mem_of_getElem? (i := 341) (by decide +kernel)) (by decide +kernel)), (inG (List.mem_of_getElem? (i := 342) (by decide +kernel)) (by decide +kernel)), (inG (List.mem_of_getElem? (i := 73) (by decide +kernel)) (by decide +kernel)), rfl, by decide +kernel⟩
theorem ml_X4_49 : LV RX4 49 4 m_X4_failHere 1 := ⟨by decide, (inG (List.mem_of_getElem? (i := 392) (by decide +kernel)) (by decide +kernel)), (inG (List.mem_of_getElem? (i := 353) (by decide +kernel)) (by decide +kernel)), (inG (List.mem_of_getElem? (i := 354) (by decide +kernel)) (by decide +kernel)), (inG (List.mem_of_getElem? (i := 73) (by decide +kernel)) (by decide +kernel)), rfl, by decide +kernel⟩
theorem ml_X4_53 : LSN RX4 53 m_X7_isLetter 1 := ⟨by decide +kernel, (inG (List.mem_of_getElem? (i := 378) (by decide +kernel)) (by decide +kernel)), by decide +kernel⟩
theorem kl_X4_56 : Cond.constantLong RX4 56 (27) ∈ lw_g := (inG (List.mem_of_getElem? (i := 380) (by decide +kernel)) (by decide +kernel))
theorem ml_X5_3 : Cond.methodLink RX5 3 objectInit ∈ lw_g := (inG (List.mem_of_getElem? (i := 191) (by decide +kernel)) (by decide +kernel))
theorem fl_X5_9 : FLd RX5 9 5 0 := ⟨by decide, by decide, (inG (List.mem_of_getElem? (i := 192) (by decide +kernel)) (by decide +kernel))⟩
theorem fl_X5_15 : FLd RX5 15 5 1 := ⟨by decide, by decide, (inG (List.mem_of_getElem? (i := 193) (by decide +kernel)) (by decide +kernel))⟩
theorem kl_X5_19 : Cond.constantLong RX5 19 (10460353203) ∈ lw_g := (inG (List.mem_of_getElem? (i := 729) (by decide +kernel)) (by decide +kernel))
theorem kl_X5_21 : Cond.constantLong RX5 21 (27) ∈ lw_g := (inG (List.mem_of_getElem? (i := 730) (by decide +kernel)) (by decide +kernel))
theorem kl_X5_23 : Cond.constantLong RX5 23 (96) ∈ lw_g := (inG (List.mem_of_getElem? (i := 731) (by decide +kernel)) (by decide +kernel))
theorem ml_X5_25 : LV RX5 25 5 m_X5_put 1 := ⟨by decide, (inG (List.mem_of_getElem? (i := 732) (by decide +kernel)) (by decide +kernel)), (inG (List.mem_of_getElem? (i := 733) (by decide +kernel)) (by decide +kernel)), (inG (List.mem_of_getElem? (i := 734) (by decide +kernel)) (by decide +kernel)), (inG (List.mem_of_getElem? (i := 75) (by decide +kernel)) (by decide +kernel)), rfl, by decide +kernel⟩
theorem ml_X5_29 : Cond.methodLink RX5 29 yJ9_abs_067f4 ∈ lw_g ∧ Cond.static yJ9_abs_067f4 ∈ lw_g := ⟨(inG (List.mem_of_getElem? (i := 750) (by decide +kernel)) (by decide +kernel)), (inG (List.mem_of_getElem? (i := 751) (by decide +kernel)) (by decide +kernel))⟩
theorem kl_X5_35 : Cond.constantLong RX5 35 (100000) ∈ lw_g := (inG (List.mem_of_getElem? (i := 753) (by decide +kernel)) (by decide +kernel))
theorem kl_X5_37 : Cond.constantLong RX5 37 (48) ∈ lw_g := (inG (List.mem_of_getElem? (i := 754) (by decide +kernel)) (by decide +kernel))
theorem kl_X5_39 : Cond.constantLong RX5 39 (10) ∈ lw_g := (inG (List.mem_of_getElem? (i := 755) (by decide +kernel)) (by decide +kernel))
theorem ml_X6_3 : Cond.methodLink RX6 3 objectInit ∈ lw_g := (inG (List.mem_of_getElem? (i := 673) (by decide +kernel)) (by decide +kernel))
theorem fl_X6_9 : FLd RX6 9 6 0 := ⟨by decide, by decide, (inG (List.mem_of_getElem? (i := 674) (by decide +kernel)) (by decide +kernel))⟩
theorem fl_X6_15 : FLd RX6 15 6 1 := ⟨by decide, by decide, (inG (List.mem_of_getElem? (i := 675) (by decide +kernel)) (by decide +kernel))⟩
theorem fl_X6_19 : FLd RX6 19 6 2 := ⟨by decide, by decide, (inG (List.mem_of_getElem? (i := 676) (by decide +kernel)) (by decide +kernel))⟩
theorem fl_X6_23 : FLd RX6 23 6 3 := ⟨by decide, by decide, (inG (List.mem_of_getElem? (i := 677) (by decide +kernel)) (by decide +kernel))⟩
theorem fl_X6_27 : FLd RX6 27 6 4 := ⟨by decide, by decide, (inG (List.mem_of_getElem? (i := 678) (by decide +kernel)) (by decide +kernel))⟩
theorem fl_X6_31 : FLd RX6 31 5 1 := ⟨by decide, by decide, (inG (List.mem_of_getElem? (i := 194) (by decide +kernel)) (by decide +kernel))⟩
theorem ml_X6_36 : LV RX6 36 6 m_X6_wantedTable 1 := ⟨by decide, (inG (List.mem_of_getElem? (i := 694) (by decide +kernel)) (by decide +kernel)), (inG (List.mem_of_getElem? (i := 696) (by decide +kernel)) (by decide +kernel)), (inG (List.mem_of_getElem? (i := 27) (by decide +kernel)) (by decide +kernel)), (inG (List.mem_of_getElem? (i := 83) (by decide +kernel)) (by decide +kernel)), rfl, by decide +kernel⟩
theorem ml_X6_40 : LV RX6 40 3 m_X3_firstRowOf 1 := ⟨by decide, (inG (List.mem_of_getElem? (i := 698) (by decide +kernel)) (by decide +kernel)), (inG (List.mem_of_getElem? (i := 699) (by decide +kernel)) (by decide +kernel)), (inG (List.mem_of_getElem? (i := 700) (by decide +kernel)) (by decide +kernel)), (inG (List.mem_of_getElem? (i := 74) (by decide +kernel)) (by decide +kernel)), rfl, by decide +kernel⟩
theorem ml_X6_46 : LV RX6 46 6 m_X6_writeParts 2 := ⟨by decide, (inG (List.mem_of_getElem? (i := 702) (by decide +kernel)) (by decide +kernel)), (inG (List.mem_of_getElem? (i := 704) (by decide +kernel)) (by decide +kernel)), (inG (List.mem_of_getElem? (i := 28) (by decide +kernel)) (by decide +kernel)), (inG (List.mem_of_getElem? (i := 83) (by decide +kernel)) (by decide +kernel)), rfl, by decide +kernel⟩
theorem fl_X6_50 : FLd RX6 50 1 11 := ⟨by decide, by decide, (inG (List.mem_of_getElem? (i := 242) (by decide +kernel)) (by decide +kernel))⟩
theorem fl_X6_55 : FLd RX6 55 1 10 := ⟨by decide, by decide, (inG (List.mem_of_getElem? (i := 238) (by decide +kernel)) (by decide +kernel))⟩
theorem fl_X6_58 : FLd RX6 58 1 3 := ⟨by decide, by decide, (inG (List.mem_of_getElem? (i := 218) (by decide +kernel)) (by decide +kernel))⟩
theorem ml_X6_61 : LV RX6 61 6 m_X6_writeField 2 := ⟨by decide, (inG (List.mem_of_getElem? (i := 706) (by decide +kernel)) (by decide +kernel)), (inG (List.mem_of_getElem? (i := 708) (by decide +kernel)) (by decide +kernel)), (inG (List.mem_of_getElem? (i := 29) (by decide +kernel)) (by decide +kernel)), (inG (List.mem_of_getElem? (i := 83) (by decide +kernel)) (by decide +kernel)), rfl, by decide +kernel⟩
theorem ml_X6_64 : LV RX6 64 6 m_X6_firstWantedLeaf 1 := ⟨by decide, (inG (List.mem_of_getElem? (i := 710) (by decide +kernel)) (by decide +kernel)), (inG (List.mem_of_getElem? (i := 712) (by decide +kernel)) (by decide +kernel)), (inG (List.mem_of_getElem? (i := 30) (by decide +kernel)) (by decide +kernel)), (inG (List.mem_of_getElem? (i := 83) (by decide +kernel)) (by decide +kernel)), rfl, by decide +kernel⟩
theorem ml_X6_67 : LV RX6 67 3 m_X3_isRow 1 := ⟨by decide, (inG (List.mem_of_getElem? (i := 720) (by decide +kernel)) (by decide +kernel)), (inG (List.mem_of_getElem? (i := 633) (by decide +kernel)) (by decide +kernel)), (inG (List.mem_of_getElem? (i := 634) (by decide +kernel)) (by decide +kernel)), (inG (List.mem_of_getElem? (i := 74) (by decide +kernel)) (by decide +kernel)), rfl, by decide +kernel⟩
theorem fl_X6_71 : FLd RX6 71 3 1 := ⟨by decide, by decide, (inG (List.mem_of_getElem? (i := 147) (by decide +kernel)) (by decide +kernel))⟩
theorem fl_X6_74 : FLd RX6 74 1 5 := ⟨by decide, by decide, (inG (List.mem_of_getElem? (i := 225) (by decide +kernel)) (by decide +kernel))⟩
theorem ml_X6_77 : LV RX6 77 6 m_X6_passLacking 1 := ⟨by decide, (inG (List.mem_of_getElem? (i := 721) (by decide +kernel)) (by decide +kernel)), (inG (List.mem_of_getElem? (i := 723) (by decide +kernel)) (by decide +kernel)), (inG (List.mem_of_getElem? (i := 32) (by decide +kernel)) (by decide +kernel)), (inG (List.mem_of_getElem? (i := 83) (by decide +kernel)) (by decide +kernel)), rfl, by decide +kernel⟩
theorem fl_X6_81 : FLd RX6 81 1 0 := ⟨by decide, by decide, (inG (List.mem_of_getElem? (i := 208) (by decide +kernel)) (by decide +kernel))⟩
theorem ml_X6_85 : LV RX6 85 5 m_X5_putWord 1 := ⟨by decide, (inG (List.mem_of_getElem? (i := 725) (by decide +kernel)) (by decide +kernel)), (inG (List.mem_of_getElem? (i := 726) (by decide +kernel)) (by decide +kernel)), (inG (List.mem_of_getElem? (i := 727) (by decide +kernel)) (by decide +kernel)), (inG (List.mem_of_getElem? (i := 75) (by decide +kernel)) (by decide +kernel)), rfl, by decide +kernel⟩
theorem ml_X6_89 : LV RX6 89 5 m_X5_put 1 := ⟨by decide, (inG (List.mem_of_getElem? (i := 736) (by decide +kernel)) (by decide +kernel)), (inG (List.mem_of_getElem? (i := 733) (by decide +kernel)) (by decide +kernel)), (inG (List.mem_of_getElem? (i := 734) (by decide +kernel)) (by decide +kernel)), (inG (List.mem_of_getElem? (i := 75) (by decide +kernel)) (by decide +kernel)), rfl, by decide +kernel⟩
theorem fl_X6_92 : FLd RX6 92 1 1 := ⟨by decide, by decide, (inG (List.mem_of_getElem? (i := 210) (by decide +kernel)) (by decide +kernel))⟩
theorem ml_X6_95 : LV RX6 95 6 m_X6_writeGroup 2 := ⟨by decide, (inG (List.mem_of_getElem? (i := 737) (by decide +kernel)) (by decide +kernel)), (inG (List.mem_of_getElem? (i := 739) (by decide +kernel)) (by decide +kernel)), (inG (List.mem_of_getElem? (i := 33) (by decide +kernel)) (by decide +kernel)), (inG (List.mem_of_getElem? (i := 83) (by decide +kernel)) (by decide +kernel)), rfl, by decide +kernel⟩
theorem ml_X6_98 : LV RX6 98 6 m_X6_writeLeaf 1 := ⟨by decide, (inG (List.mem_of_getElem? (i := 741) (by decide +kernel)) (by decide +kernel)), (inG (List.mem_of_getElem? (i := 743) (by decide +kernel)) (by decide +kernel)), (inG (List.mem_of_getElem? (i := 34) (by decide +kernel)) (by decide +kernel)), (inG (List.mem_of_getElem? (i := 83) (by decide +kernel)) (by decide +kernel)), rfl, by decide +kernel⟩
theorem fl_X6_101 : FLd RX6 101 1 2 := ⟨by decide, by decide, (inG (List.mem_of_getElem? (i := 214) (by decide +kernel)) (by decide +kernel))⟩
theorem fl_X6_104 : FLd RX6 104 1 6 := ⟨by decide, by decide, (inG (List.mem_of_getElem? (i := 229) (by decide +kernel)) (by decide +kernel))⟩
theorem ml_X6_107 : LV RX6 107 3 m_X3_hasLevel 2 := ⟨by decide, (inG (List.mem_of_getElem? (i := 756) (by decide +kernel)) (by decide +kernel)), (inG (List.mem_of_getElem? (i := 757) (by decide +kernel)) (by decide +kernel)), (inG (List.mem_of_getElem? (i := 758) (by decide +kernel)) (by decide +kernel)), (inG (List.mem_of_getElem? (i := 74) (by decide +kernel)) (by decide +kernel)), rfl, by decide +kernel⟩
theorem ml_X6_111 : LV RX6 111 3 m_X3_hasValue 1 := ⟨by decide, (inG (List.mem_of_getElem? (i := 745) (by decide +kernel)) (by decide +kernel)), (inG (List.mem_of_getElem? (i := 629) (by decide +kernel)) (by decide +kernel)), (inG (List.mem_of_getElem? (i := 630) (by decide +kernel)) (by decide +kernel)), (inG (List.mem_of_getElem? (i := 74) (by decide +kernel)) (by decide +kernel)), rfl, by decide +kernel⟩
theorem fl_X6_114 : FLd RX6 114 3 3 := ⟨by decide, by decide, (inG (List.mem_of_getElem? (i := 152) (by decide +kernel)) (by decide +kernel))⟩
theorem fl_X6_117 : FLd RX6 117 3 7 := ⟨by decide, by decide, (inG (List.mem_of_getElem? (i := 161) (by decide +kernel)) (by decide +kernel))⟩
theorem ml_X6_121 : LV RX6 121 5 m_X5_putNumber 1 := ⟨by decide, (inG (List.mem_of_getElem? (i := 746) (by decide +kernel)) (by decide +kernel)), (inG (List.mem_of_getElem? (i := 747) (by decide +kernel)) (by decide +kernel)), (inG (List.mem_of_getElem? (i := 748) (by decide +kernel)) (by decide +kernel)), (inG (List.mem_of_getElem? (i := 75) (by decide +kernel)) (by decide +kernel)), rfl, by decide +kernel⟩
theorem ml_X6_124 : LV RX6 124 6 m_X6_isWantedBelow 2 := ⟨by decide, (inG (List.mem_of_getElem? (i := 714) (by decide +kernel)) (by decide +kernel)), (inG (List.mem_of_getElem? (i := 716) (by decide +kernel)) (by decide +kernel)), (inG (List.mem_of_getElem? (i := 31) (by decide +kernel)) (by decide +kernel)), (inG (List.mem_of_getElem? (i := 83) (by decide +kernel)) (by decide +kernel)), rfl, by decide +kernel⟩
theorem ml_X6_127 : LV RX6 127 1 m_X1_fieldOfLeaf 1 := ⟨by decide, (inG (List.mem_of_getElem? (i := 718) (by decide +kernel)) (by decide +kernel)), (inG (List.mem_of_getElem? (i := 448) (by decide +kernel)) (by decide +kernel)), (inG (List.mem_of_getElem? (i := 449) (by decide +kernel)) (by decide +kernel)), (inG (List.mem_of_getElem? (i := 76) (by decide +kernel)) (by decide +kernel)), rfl, by decide +kernel⟩
theorem ml_X6_130 : LV RX6 130 1 m_X1_isOnRoad 2 := ⟨by decide, (inG (List.mem_of_getElem? (i := 719) (by decide +kernel)) (by decide +kernel)), (inG (List.mem_of_getElem? (i := 517) (by decide +kernel)) (by decide +kernel)), (inG (List.mem_of_getElem? (i := 518) (by decide +kernel)) (by decide +kernel)), (inG (List.mem_of_getElem? (i := 76) (by decide +kernel)) (by decide +kernel)), rfl, by decide +kernel⟩
theorem kc_L_7 : CLd RL 7 7 := ⟨by decide, (inG (List.mem_of_getElem? (i := 84) (by decide +kernel)) (by decide +kernel)), (inG (List.mem_of_getElem? (i := 85) (by decide +kernel)) (by decide +kernel)), (inG (List.mem_of_getElem? (i := 72) (by decide +kernel)) (by decide +kernel)), by decide, by decide +kernel⟩
theorem ml_L_9 : LI RL 9 m_X7_init 0 := ⟨(inG (List.mem_of_getElem? (i := 86) (by decide +kernel)) (by decide +kernel)), (inG (List.mem_of_getElem? (i := 87) (by decide +kernel)) (by decide +kernel)), rfl, rfl, by decide +kernel⟩
theorem kc_L_10 : CLd RL 10 8 := ⟨by decide, (inG (List.mem_of_getElem? (i := 811) (by decide +kernel)) (by decide +kernel)), (inG (List.mem_of_getElem? (i := 812) (by decide +kernel)) (by decide +kernel)), (inG (List.mem_of_getElem? (i := 77) (by decide +kernel)) (by decide +kernel)), by decide, by decide +kernel⟩
theorem ml_L_12 : LI RL 12 m_X8_init 0 := ⟨(inG (List.mem_of_getElem? (i := 813) (by decide +kernel)) (by decide +kernel)), (inG (List.mem_of_getElem? (i := 814) (by decide +kernel)) (by decide +kernel)), rfl, rfl, by decide +kernel⟩
theorem ml_L_13 : LV RL 13 7 m_X7_feed 5 := ⟨by decide, (inG (List.mem_of_getElem? (i := 289) (by decide +kernel)) (by decide +kernel)), (inG (List.mem_of_getElem? (i := 290) (by decide +kernel)) (by decide +kernel)), (inG (List.mem_of_getElem? (i := 291) (by decide +kernel)) (by decide +kernel)), (inG (List.mem_of_getElem? (i := 72) (by decide +kernel)) (by decide +kernel)), rfl, by decide +kernel⟩
theorem ml_L_17 : LV RL 17 8 m_X8_feed 5 := ⟨by decide, (inG (List.mem_of_getElem? (i := 985) (by decide +kernel)) (by decide +kernel)), (inG (List.mem_of_getElem? (i := 986) (by decide +kernel)) (by decide +kernel)), (inG (List.mem_of_getElem? (i := 987) (by decide +kernel)) (by decide +kernel)), (inG (List.mem_of_getElem? (i := 77) (by decide +kernel)) (by decide +kernel)), rfl, by decide +kernel⟩
theorem ml_L_18 : LV RL 18 7 m_X7_end 1 := ⟨by decide, (inG (List.mem_of_getElem? (i := 297) (by decide +kernel)) (by decide +kernel)), (inG (List.mem_of_getElem? (i := 298) (by decide +kernel)) (by decide +kernel)), (inG (List.mem_of_getElem? (i := 299) (by decide +kernel)) (by decide +kernel)), (inG (List.mem_of_getElem? (i := 72) (by decide +kernel)) (by decide +kernel)), rfl, by decide +kernel⟩
theorem ml_L_22 : LV RL 22 8 m_X8_end 1 := ⟨by decide, (inG (List.mem_of_getElem? (i := 989) (by decide +kernel)) (by decide +kernel)), (inG (List.mem_of_getElem? (i := 990) (by decide +kernel)) (by decide +kernel)), (inG (List.mem_of_getElem? (i := 991) (by decide +kernel)) (by decide +kernel)), (inG (List.mem_of_getElem? (i := 77) (by decide +kernel)) (by decide +kernel)), rfl, by decide +kernel⟩
theorem ml_L_23 : LV RL 23 7 m_X7_shape 0 := ⟨by decide, (inG (List.mem_of_getElem? (i := 301) (by decide +kernel)) (by decide +kernel)), (inG (List.mem_of_getElem? (i := 302) (by decide +kernel)) (by decide +kernel)), (inG (List.mem_of_getElem? (i := 303) (by decide +kernel)) (by decide +kernel)), (inG (List.mem_of_getElem? (i := 72) (by decide +kernel)) (by decide +kernel)), rfl, by decide +kernel⟩
theorem ml_L_27 : LV RL 27 8 m_X8_shape 0 := ⟨by decide, (inG (List.mem_of_getElem? (i := 993) (by decide +kernel)) (by decide +kernel)), (inG (List.mem_of_getElem? (i := 994) (by decide +kernel)) (by decide +kernel)), (inG (List.mem_of_getElem? (i := 995) (by decide +kernel)) (by decide +kernel)), (inG (List.mem_of_getElem? (i := 77) (by decide +kernel)) (by decide +kernel)), rfl, by decide +kernel⟩
theorem ml_L_28 : LV RL 28 7 m_X7_paper 0 := ⟨by decide, (inG (List.mem_of_getElem? (i := 456) (by decide +kernel)) (by decide +kernel)), (inG (List.mem_of_getElem? (i := 457) (by decide +kernel)) (by decide +kernel)), (inG (List.mem_of_getElem? (i := 458) (by decide +kernel)) (by decide +kernel)), (inG (List.mem_of_getElem? (i := 72) (by decide +kernel)) (by decide +kernel)), rfl, by decide +kernel⟩
theorem ml_L_31 : LV RL 31 8 m_X8_paper 0 := ⟨by decide, (inG (List.mem_of_getElem? (i := 1045) (by decide +kernel)) (by decide +kernel)), (inG (List.mem_of_getElem? (i := 1046) (by decide +kernel)) (by decide +kernel)), (inG (List.mem_of_getElem? (i := 1047) (by decide +kernel)) (by decide +kernel)), (inG (List.mem_of_getElem? (i := 77) (by decide +kernel)) (by decide +kernel)), rfl, by decide +kernel⟩
theorem ml_L_32 : LV RL 32 7 m_X7_fault 1 := ⟨by decide, (inG (List.mem_of_getElem? (i := 608) (by decide +kernel)) (by decide +kernel)), (inG (List.mem_of_getElem? (i := 609) (by decide +kernel)) (by decide +kernel)), (inG (List.mem_of_getElem? (i := 610) (by decide +kernel)) (by decide +kernel)), (inG (List.mem_of_getElem? (i := 72) (by decide +kernel)) (by decide +kernel)), rfl, by decide +kernel⟩
theorem ml_L_36 : LV RL 36 8 m_X8_fault 1 := ⟨by decide, (inG (List.mem_of_getElem? (i := 1082) (by decide +kernel)) (by decide +kernel)), (inG (List.mem_of_getElem? (i := 1083) (by decide +kernel)) (by decide +kernel)), (inG (List.mem_of_getElem? (i := 1084) (by decide +kernel)) (by decide +kernel)), (inG (List.mem_of_getElem? (i := 77) (by decide +kernel)) (by decide +kernel)), rfl, by decide +kernel⟩
theorem ml_L_37 : LV RL 37 7 m_X7_drop 1 := ⟨by decide, (inG (List.mem_of_getElem? (i := 612) (by decide +kernel)) (by decide +kernel)), (inG (List.mem_of_getElem? (i := 613) (by decide +kernel)) (by decide +kernel)), (inG (List.mem_of_getElem? (i := 614) (by decide +kernel)) (by decide +kernel)), (inG (List.mem_of_getElem? (i := 72) (by decide +kernel)) (by decide +kernel)), rfl, by decide +kernel⟩
theorem ml_L_40 : LV RL 40 8 m_X8_drop 1 := ⟨by decide, (inG (List.mem_of_getElem? (i := 1086) (by decide +kernel)) (by decide +kernel)), (inG (List.mem_of_getElem? (i := 1087) (by decide +kernel)) (by decide +kernel)), (inG (List.mem_of_getElem? (i := 1088) (by decide +kernel)) (by decide +kernel)), (inG (List.mem_of_getElem? (i := 77) (by decide +kernel)) (by decide +kernel)), rfl, by decide +kernel⟩
theorem ml_L_41 : LV RL 41 7 m_X7_leaf 2 := ⟨by decide, (inG (List.mem_of_getElem? (i := 620) (by decide +kernel)) (by decide +kernel)), (inG (List.mem_of_getElem? (i := 621) (by decide +kernel)) (by decide +kernel)), (inG (List.mem_of_getElem? (i := 622) (by decide +kernel)) (by decide +kernel)), (inG (List.mem_of_getElem? (i := 72) (by decide +kernel)) (by decide +kernel)), rfl, by decide +kernel⟩
theorem ml_L_45 : LV RL 45 8 m_X8_leaf 2 := ⟨by decide, (inG (List.mem_of_getElem? (i := 1094) (by decide +kernel)) (by decide +kernel)), (inG (List.mem_of_getElem? (i := 1095) (by decide +kernel)) (by decide +kernel)), (inG (List.mem_of_getElem? (i := 1096) (by decide +kernel)) (by decide +kernel)), (inG (List.mem_of_getElem? (i := 77) (by decide +kernel)) (by decide +kernel)), rfl, by decide +kernel⟩
theorem ml_L_46 : LV RL 46 7 m_X7_row 3 := ⟨by decide, (inG (List.mem_of_getElem? (i := 654) (by decide +kernel)) (by decide +kernel)), (inG (List.mem_of_getElem? (i := 655) (by decide +kernel)) (by decide +kernel)), (inG (List.mem_of_getElem? (i := 656) (by decide +kernel)) (by decide +kernel)), (inG (List.mem_of_getElem? (i := 72) (by decide +kernel)) (by decide +kernel)), rfl, by decide +kernel⟩
theorem ml_L_50 : LV RL 50 8 m_X8_row 3 := ⟨by decide, (inG (List.mem_of_getElem? (i := 1142) (by decide +kernel)) (by decide +kernel)), (inG (List.mem_of_getElem? (i := 1143) (by decide +kernel)) (by decide +kernel)), (inG (List.mem_of_getElem? (i := 1144) (by decide +kernel)) (by decide +kernel)), (inG (List.mem_of_getElem? (i := 77) (by decide +kernel)) (by decide +kernel)), rfl, by decide +kernel⟩
theorem ml_L_51 : LV RL 51 7 m_X7_value 2 := ⟨by decide, (inG (List.mem_of_getElem? (i := 660) (by decide +kernel)) (by decide +kernel)), (inG (List.mem_of_getElem? (i := 661) (by decide +kernel)) (by decide +kernel)), (inG (List.mem_of_getElem? (i := 662) (by decide +kernel)) (by decide +kernel)), (inG (List.mem_of_getElem? (i := 72) (by decide +kernel)) (by decide +kernel)), rfl, by decide +kernel⟩
theorem ml_L_55 : LV RL 55 8 m_X8_value 2 := ⟨by decide, (inG (List.mem_of_getElem? (i := 1150) (by decide +kernel)) (by decide +kernel)), (inG (List.mem_of_getElem? (i := 1151) (by decide +kernel)) (by decide +kernel)), (inG (List.mem_of_getElem? (i := 1152) (by decide +kernel)) (by decide +kernel)), (inG (List.mem_of_getElem? (i := 77) (by decide +kernel)) (by decide +kernel)), rfl, by decide +kernel⟩
theorem ml_L_56 : LV RL 56 7 m_X7_text 2 := ⟨by decide, (inG (List.mem_of_getElem? (i := 664) (by decide +kernel)) (by decide +kernel)), (inG (List.mem_of_getElem? (i := 665) (by decide +kernel)) (by decide +kernel)), (inG (List.mem_of_getElem? (i := 666) (by decide +kernel)) (by decide +kernel)), (inG (List.mem_of_getElem? (i := 72) (by decide +kernel)) (by decide +kernel)), rfl, by decide +kernel⟩
theorem ml_L_59 : LV RL 59 8 m_X8_text 2 := ⟨by decide, (inG (List.mem_of_getElem? (i := 1154) (by decide +kernel)) (by decide +kernel)), (inG (List.mem_of_getElem? (i := 1155) (by decide +kernel)) (by decide +kernel)), (inG (List.mem_of_getElem? (i := 1156) (by decide +kernel)) (by decide +kernel)), (inG (List.mem_of_getElem? (i := 77) (by decide +kernel)) (by decide +kernel)), rfl, by decide +kernel⟩
theorem ml_L_60 : LV RL 60 7 m_X7_at 1 := ⟨by decide, (inG (List.mem_of_getElem? (i := 760) (by decide +kernel)) (by decide +kernel)), (inG (List.mem_of_getElem? (i := 761) (by decide +kernel)) (by decide +kernel)), (inG (List.mem_of_getElem? (i := 762) (by decide +kernel)) (by decide +kernel)), (inG (List.mem_of_getElem? (i := 72) (by decide +kernel)) (by decide +kernel)), rfl, by decide +kernel⟩
theorem ml_L_63 : LV RL 63 8 m_X8_at 1 := ⟨by decide, (inG (List.mem_of_getElem? (i := 1170) (by decide +kernel)) (by decide +kernel)), (inG (List.mem_of_getElem? (i := 1171) (by decide +kernel)) (by decide +kernel)), (inG (List.mem_of_getElem? (i := 1172) (by decide +kernel)) (by decide +kernel)), (inG (List.mem_of_getElem? (i := 77) (by decide +kernel)) (by decide +kernel)), rfl, by decide +kernel⟩
theorem kl_L_64 : Cond.constantLong RL 64 (4294967295) ∈ lw_g := (inG (List.mem_of_getElem? (i := 1202) (by decide +kernel)) (by decide +kernel))
theorem ml_L_66 : LV RL 66 7 m_X7_among 3 := ⟨by decide, (inG (List.mem_of_getElem? (i := 768) (by decide +kernel)) (by decide +kernel)), (inG (List.mem_of_getElem? (i := 769) (by decide +kernel)) (by decide +kernel)), (inG (List.mem_of_getElem? (i := 770) (by decide +kernel)) (by decide +kernel)), (inG (List.mem_of_getElem? (i := 72) (by decide +kernel)) (by decide +kernel)), rfl, by decide +kernel⟩
theorem ml_L_70 : LV RL 70 8 m_X8_among 3 := ⟨by decide, (inG (List.mem_of_getElem? (i := 1174) (by decide +kernel)) (by decide +kernel)), (inG (List.mem_of_getElem? (i := 1175) (by decide +kernel)) (by decide +kernel)), (inG (List.mem_of_getElem? (i := 1176) (by decide +kernel)) (by decide +kernel)), (inG (List.mem_of_getElem? (i := 77) (by decide +kernel)) (by decide +kernel)), rfl, by decide +kernel⟩
theorem ml_L_71 : LV RL 71 7 m_X7_papers 3 := ⟨by decide, (inG (List.mem_of_getElem? (i := 776) (by decide +kernel)) (by decide +kernel)), (inG (List.mem_of_getElem? (i := 777) (by decide +kernel)) (by decide +kernel)), (inG (List.mem_of_getElem? (i := 778) (by decide +kernel)) (by decide +kernel)), (inG (List.mem_of_getElem? (i := 72) (by decide +kernel)) (by decide +kernel)), rfl, by decide +kernel⟩
theorem ml_L_74 : LV RL 74 8 m_X8_papers 3 := ⟨by decide, (inG (List.mem_of_getElem? (i := 1178) (by decide +kernel)) (by decide +kernel)), (inG (List.mem_of_getElem? (i := 1179) (by decide +kernel)) (by decide +kernel)), (inG (List.mem_of_getElem? (i := 1180) (by decide +kernel)) (by decide +kernel)), (inG (List.mem_of_getElem? (i := 77) (by decide +kernel)) (by decide +kernel)), rfl, by decide +kernel⟩
theorem ml_L_75 : LV RL 75 7 m_X7_sum 2 := ⟨by decide, (inG (List.mem_of_getElem? (i := 780) (by decide +kernel)) (by decide +kernel)), (inG (List.mem_of_getElem? (i := 781) (by decide +kernel)) (by decide +kernel)), (inG (List.mem_of_getElem? (i := 782) (by decide +kernel)) (by decide +kernel)), (inG (List.mem_of_getElem? (i := 72) (by decide +kernel)) (by decide +kernel)), rfl, by decide +kernel⟩
theorem ml_L_78 : LV RL 78 8 m_X8_sum 2 := ⟨by decide, (inG (List.mem_of_getElem? (i := 1182) (by decide +kernel)) (by decide +kernel)), (inG (List.mem_of_getElem? (i := 1183) (by decide +kernel)) (by decide +kernel)), (inG (List.mem_of_getElem? (i := 1184) (by decide +kernel)) (by decide +kernel)), (inG (List.mem_of_getElem? (i := 77) (by decide +kernel)) (by decide +kernel)), rfl, by decide +kernel⟩
theorem ml_L_79 : LV RL 79 7 m_X7_both 4 := ⟨by decide, (inG (List.mem_of_getElem? (i := 784) (by decide +kernel)) (by decide +kernel)), (inG (List.mem_of_getElem? (i := 785) (by decide +kernel)) (by decide +kernel)), (inG (List.mem_of_getElem? (i := 786) (by decide +kernel)) (by decide +kernel)), (inG (List.mem_of_getElem? (i := 72) (by decide +kernel)) (by decide +kernel)), rfl, by decide +kernel⟩
theorem ml_L_83 : LV RL 83 8 m_X8_both 4 := ⟨by decide, (inG (List.mem_of_getElem? (i := 1186) (by decide +kernel)) (by decide +kernel)), (inG (List.mem_of_getElem? (i := 1187) (by decide +kernel)) (by decide +kernel)), (inG (List.mem_of_getElem? (i := 1188) (by decide +kernel)) (by decide +kernel)), (inG (List.mem_of_getElem? (i := 77) (by decide +kernel)) (by decide +kernel)), rfl, by decide +kernel⟩
theorem ml_L_84 : LV RL 84 7 m_X7_rows 3 := ⟨by decide, (inG (List.mem_of_getElem? (i := 807) (by decide +kernel)) (by decide +kernel)), (inG (List.mem_of_getElem? (i := 808) (by decide +kernel)) (by decide +kernel)), (inG (List.mem_of_getElem? (i := 809) (by decide +kernel)) (by decide +kernel)), (inG (List.mem_of_getElem? (i := 72) (by decide +kernel)) (by decide +kernel)), rfl, by decide +kernel⟩
theorem ml_L_87 : LV RL 87 8 m_X8_rows 3 := ⟨by decide, (inG (List.mem_of_getElem? (i := 1198) (by decide +kernel)) (by decide +kernel)), (inG (List.mem_of_getElem? (i := 1199) (by decide +kernel)) (by decide +kernel)), (inG (List.mem_of_getElem? (i := 1200) (by decide +kernel)) (by decide +kernel)), (inG (List.mem_of_getElem? (i := 77) (by decide +kernel)) (by decide +kernel)), rfl, by decide +kernel⟩
theorem ml_X8_1 : Cond.methodLink RX8 1 objectInit ∈ lw_g := (inG (List.mem_of_getElem? (i := 816) (by decide +kernel)) (by decide +kernel))
theorem fl_X8_7 : FLd RX8 7 8 0 := ⟨by decide, by decide, (inG (List.mem_of_getElem? (i := 822) (by decide +kernel)) (by decide +kernel))⟩
theorem fl_X8_13 : FLd RX8 13 8 7 := ⟨by decide, by decide, (inG (List.mem_of_getElem? (i := 829) (by decide +kernel)) (by decide +kernel))⟩
theorem ml_X8_17 : LSt RX8 17 m_X8_packed 4 := ⟨(inG (List.mem_of_getElem? (i := 817) (by decide +kernel)) (by decide +kernel)), (inG (List.mem_of_getElem? (i := 818) (by decide +kernel)) (by decide +kernel)), by decide +kernel⟩
theorem fl_X8_21 : FLd RX8 21 8 8 := ⟨by decide, by decide, (inG (List.mem_of_getElem? (i := 830) (by decide +kernel)) (by decide +kernel))⟩
theorem fl_X8_25 : FLd RX8 25 8 9 := ⟨by decide, by decide, (inG (List.mem_of_getElem? (i := 831) (by decide +kernel)) (by decide +kernel))⟩
theorem fl_X8_28 : FLd RX8 28 8 10 := ⟨by decide, by decide, (inG (List.mem_of_getElem? (i := 832) (by decide +kernel)) (by decide +kernel))⟩
theorem fl_X8_31 : FLd RX8 31 8 11 := ⟨by decide, by decide, (inG (List.mem_of_getElem? (i := 833) (by decide +kernel)) (by decide +kernel))⟩
theorem fl_X8_34 : FLd RX8 34 8 12 := ⟨by decide, by decide, (inG (List.mem_of_getElem? (i := 834) (by decide +kernel)) (by decide +kernel))⟩
theorem fl_X8_37 : FLd RX8 37 8 16 := ⟨by decide, by decide, (inG (List.mem_of_getElem? (i := 838) (by decide +kernel)) (by decide +kernel))⟩
theorem fl_X8_40 : FLd RX8 40 8 17 := ⟨by decide, by decide, (inG (List.mem_of_getElem? (i := 839) (by decide +kernel)) (by decide +kernel))⟩
theorem fl_X8_44 : FLd RX8 44 8 18 := ⟨by decide, by decide, (inG (List.mem_of_getElem? (i := 840) (by decide +kernel)) (by decide +kernel))⟩
theorem fl_X8_47 : FLd RX8 47 8 19 := ⟨by decide, by decide, (inG (List.mem_of_getElem? (i := 841) (by decide +kernel)) (by decide +kernel))⟩
theorem fl_X8_50 : FLd RX8 50 8 20 := ⟨by decide, by decide, (inG (List.mem_of_getElem? (i := 842) (by decide +kernel)) (by decide +kernel))⟩
theorem fl_X8_53 : FLd RX8 53 8 23 := ⟨by decide, by decide, (inG (List.mem_of_getElem? (i := 845) (by decide +kernel)) (by decide +kernel))⟩
theorem fl_X8_56 : FLd RX8 56 8 24 := ⟨by decide, by decide, (inG (List.mem_of_getElem? (i := 846) (by decide +kernel)) (by decide +kernel))⟩
theorem fl_X8_59 : FLd RX8 59 8 25 := ⟨by decide, by decide, (inG (List.mem_of_getElem? (i := 847) (by decide +kernel)) (by decide +kernel))⟩
theorem fl_X8_62 : FLd RX8 62 8 26 := ⟨by decide, by decide, (inG (List.mem_of_getElem? (i := 848) (by decide +kernel)) (by decide +kernel))⟩
theorem fl_X8_65 : FLd RX8 65 8 27 := ⟨by decide, by decide, (inG (List.mem_of_getElem? (i := 849) (by decide +kernel)) (by decide +kernel))⟩
theorem fl_X8_68 : FLd RX8 68 8 28 := ⟨by decide, by decide, (inG (List.mem_of_getElem? (i := 850) (by decide +kernel)) (by decide +kernel))⟩
theorem fl_X8_71 : FLd RX8 71 8 29 := ⟨by decide, by decide, (inG (List.mem_of_getElem? (i := 851) (by decide +kernel)) (by decide +kernel))⟩
theorem fl_X8_74 : FLd RX8 74 8 32 := ⟨by decide, by decide, (inG (List.mem_of_getElem? (i := 854) (by decide +kernel)) (by decide +kernel))⟩
theorem fl_X8_77 : FLd RX8 77 8 33 := ⟨by decide, by decide, (inG (List.mem_of_getElem? (i := 855) (by decide +kernel)) (by decide +kernel))⟩
theorem fl_X8_80 : FLd RX8 80 8 34 := ⟨by decide, by decide, (inG (List.mem_of_getElem? (i := 856) (by decide +kernel)) (by decide +kernel))⟩
theorem fl_X8_83 : FLd RX8 83 8 35 := ⟨by decide, by decide, (inG (List.mem_of_getElem? (i := 857) (by decide +kernel)) (by decide +kernel))⟩
theorem fl_X8_86 : FLd RX8 86 8 38 := ⟨by decide, by decide, (inG (List.mem_of_getElem? (i := 860) (by decide +kernel)) (by decide +kernel))⟩
theorem fl_X8_89 : FLd RX8 89 8 40 := ⟨by decide, by decide, (inG (List.mem_of_getElem? (i := 862) (by decide +kernel)) (by decide +kernel))⟩
theorem fl_X8_92 : FLd RX8 92 8 41 := ⟨by decide, by decide, (inG (List.mem_of_getElem? (i := 863) (by decide +kernel)) (by decide +kernel))⟩
theorem fl_X8_95 : FLd RX8 95 8 42 := ⟨by decide, by decide, (inG (List.mem_of_getElem? (i := 864) (by decide +kernel)) (by decide +kernel))⟩
theorem fl_X8_99 : FLd RX8 99 8 43 := ⟨by decide, by decide, (inG (List.mem_of_getElem? (i := 865) (by decide +kernel)) (by decide +kernel))⟩
theorem fl_X8_102 : FLd RX8 102 8 44 := ⟨by decide, by decide, (inG (List.mem_of_getElem? (i := 866) (by decide +kernel)) (by decide +kernel))⟩
theorem fl_X8_105 : FLd RX8 105 8 45 := ⟨by decide, by decide, (inG (List.mem_of_getElem? (i := 867) (by decide +kernel)) (by decide +kernel))⟩
theorem fl_X8_108 : FLd RX8 108 8 46 := ⟨by decide, by decide, (inG (List.mem_of_getElem? (i := 868) (by decide +kernel)) (by decide +kernel))⟩
theorem fl_X8_111 : FLd RX8 111 8 47 := ⟨by decide, by decide, (inG (List.mem_of_getElem? (i := 869) (by decide +kernel)) (by decide +kernel))⟩
theorem fl_X8_114 : FLd RX8 114 8 48 := ⟨by decide, by decide, (inG (List.mem_of_getElem? (i := 870) (by decide +kernel)) (by decide +kernel))⟩
theorem fl_X8_117 : FLd RX8 117 8 49 := ⟨by decide, by decide, (inG (List.mem_of_getElem? (i := 871) (by decide +kernel)) (by decide +kernel))⟩
theorem fl_X8_120 : FLd RX8 120 8 51 := ⟨by decide, by decide, (inG (List.mem_of_getElem? (i := 873) (by decide +kernel)) (by decide +kernel))⟩
theorem fl_X8_123 : FLd RX8 123 8 52 := ⟨by decide, by decide, (inG (List.mem_of_getElem? (i := 874) (by decide +kernel)) (by decide +kernel))⟩
theorem fl_X8_126 : FLd RX8 126 8 53 := ⟨by decide, by decide, (inG (List.mem_of_getElem? (i := 875) (by decide +kernel)) (by decide +kernel))⟩
theorem fl_X8_129 : FLd RX8 129 8 1 := ⟨by decide, by decide, (inG (List.mem_of_getElem? (i := 823) (by decide +kernel)) (by decide +kernel))⟩
theorem fl_X8_132 : FLd RX8 132 8 4 := ⟨by decide, by decide, (inG (List.mem_of_getElem? (i := 826) (by decide +kernel)) (by decide +kernel))⟩
theorem fl_X8_135 : FLd RX8 135 8 5 := ⟨by decide, by decide, (inG (List.mem_of_getElem? (i := 827) (by decide +kernel)) (by decide +kernel))⟩
theorem fl_X8_138 : FLd RX8 138 8 2 := ⟨by decide, by decide, (inG (List.mem_of_getElem? (i := 824) (by decide +kernel)) (by decide +kernel))⟩
theorem fl_X8_141 : FLd RX8 141 8 3 := ⟨by decide, by decide, (inG (List.mem_of_getElem? (i := 825) (by decide +kernel)) (by decide +kernel))⟩
theorem ml_X8_144 : LV RX8 144 8 m_X8_next 0 := ⟨by decide, (inG (List.mem_of_getElem? (i := 1005) (by decide +kernel)) (by decide +kernel)), (inG (List.mem_of_getElem? (i := 1007) (by decide +kernel)) (by decide +kernel)), (inG (List.mem_of_getElem? (i := 37) (by decide +kernel)) (by decide +kernel)), (inG (List.mem_of_getElem? (i := 77) (by decide +kernel)) (by decide +kernel)), rfl, by decide +kernel⟩
theorem ml_X8_148 : LV RX8 148 8 m_X8_fail 2 := ⟨by decide, (inG (List.mem_of_getElem? (i := 1009) (by decide +kernel)) (by decide +kernel)), (inG (List.mem_of_getElem? (i := 1011) (by decide +kernel)) (by decide +kernel)), (inG (List.mem_of_getElem? (i := 38) (by decide +kernel)) (by decide +kernel)), (inG (List.mem_of_getElem? (i := 77) (by decide +kernel)) (by decide +kernel)), rfl, by decide +kernel⟩
theorem ml_X8_152 : LSt RX8 152 m_X8_isLetter 1 := ⟨(inG (List.mem_of_getElem? (i := 1021) (by decide +kernel)) (by decide +kernel)), (inG (List.mem_of_getElem? (i := 1022) (by decide +kernel)) (by decide +kernel)), by decide +kernel⟩
theorem kl_X8_156 : Cond.constantLong RX8 156 (27) ∈ lw_g := (inG (List.mem_of_getElem? (i := 820) (by decide +kernel)) (by decide +kernel))
theorem kl_X8_158 : Cond.constantLong RX8 158 (97) ∈ lw_g := (inG (List.mem_of_getElem? (i := 821) (by decide +kernel)) (by decide +kernel))
theorem kl_X8_160 : Cond.constantLong RX8 160 (-1) ∈ lw_g := (inG (List.mem_of_getElem? (i := 1024) (by decide +kernel)) (by decide +kernel))
theorem fl_X8_162 : FLd RX8 162 8 6 := ⟨by decide, by decide, (inG (List.mem_of_getElem? (i := 828) (by decide +kernel)) (by decide +kernel))⟩
theorem ml_X8_165 : LV RX8 165 8 m_X8_whole 0 := ⟨by decide, (inG (List.mem_of_getElem? (i := 1017) (by decide +kernel)) (by decide +kernel)), (inG (List.mem_of_getElem? (i := 1019) (by decide +kernel)) (by decide +kernel)), (inG (List.mem_of_getElem? (i := 40) (by decide +kernel)) (by decide +kernel)), (inG (List.mem_of_getElem? (i := 77) (by decide +kernel)) (by decide +kernel)), rfl, by decide +kernel⟩
theorem ml_X8_169 : LV RX8 169 8 m_X8_sign 1 := ⟨by decide, (inG (List.mem_of_getElem? (i := 1025) (by decide +kernel)) (by decide +kernel)), (inG (List.mem_of_getElem? (i := 1027) (by decide +kernel)) (by decide +kernel)), (inG (List.mem_of_getElem? (i := 41) (by decide +kernel)) (by decide +kernel)), (inG (List.mem_of_getElem? (i := 77) (by decide +kernel)) (by decide +kernel)), rfl, by decide +kernel⟩
theorem ml_X8_173 : LV RX8 173 8 m_X8_word 0 := ⟨by decide, (inG (List.mem_of_getElem? (i := 1033) (by decide +kernel)) (by decide +kernel)), (inG (List.mem_of_getElem? (i := 1035) (by decide +kernel)) (by decide +kernel)), (inG (List.mem_of_getElem? (i := 43) (by decide +kernel)) (by decide +kernel)), (inG (List.mem_of_getElem? (i := 77) (by decide +kernel)) (by decide +kernel)), rfl, by decide +kernel⟩
theorem ml_X8_176 : LV RX8 176 8 m_X8_isOwn 1 := ⟨by decide, (inG (List.mem_of_getElem? (i := 1037) (by decide +kernel)) (by decide +kernel)), (inG (List.mem_of_getElem? (i := 1039) (by decide +kernel)) (by decide +kernel)), (inG (List.mem_of_getElem? (i := 44) (by decide +kernel)) (by decide +kernel)), (inG (List.mem_of_getElem? (i := 77) (by decide +kernel)) (by decide +kernel)), rfl, by decide +kernel⟩
theorem fl_X8_180 : FLd RX8 180 8 30 := ⟨by decide, by decide, (inG (List.mem_of_getElem? (i := 852) (by decide +kernel)) (by decide +kernel))⟩
theorem fl_X8_183 : FLd RX8 183 8 21 := ⟨by decide, by decide, (inG (List.mem_of_getElem? (i := 843) (by decide +kernel)) (by decide +kernel))⟩
theorem fl_X8_186 : FLd RX8 186 8 22 := ⟨by decide, by decide, (inG (List.mem_of_getElem? (i := 844) (by decide +kernel)) (by decide +kernel))⟩
theorem ml_X8_189 : LV RX8 189 8 m_X8_marks 1 := ⟨by decide, (inG (List.mem_of_getElem? (i := 1013) (by decide +kernel)) (by decide +kernel)), (inG (List.mem_of_getElem? (i := 1015) (by decide +kernel)) (by decide +kernel)), (inG (List.mem_of_getElem? (i := 39) (by decide +kernel)) (by decide +kernel)), (inG (List.mem_of_getElem? (i := 77) (by decide +kernel)) (by decide +kernel)), rfl, by decide +kernel⟩
theorem ml_X8_192 : LV RX8 192 8 m_X8_field 0 := ⟨by decide, (inG (List.mem_of_getElem? (i := 1029) (by decide +kernel)) (by decide +kernel)), (inG (List.mem_of_getElem? (i := 1031) (by decide +kernel)) (by decide +kernel)), (inG (List.mem_of_getElem? (i := 42) (by decide +kernel)) (by decide +kernel)), (inG (List.mem_of_getElem? (i := 77) (by decide +kernel)) (by decide +kernel)), rfl, by decide +kernel⟩
theorem ml_X8_195 : LV RX8 195 8 m_X8_begins 0 := ⟨by decide, (inG (List.mem_of_getElem? (i := 997) (by decide +kernel)) (by decide +kernel)), (inG (List.mem_of_getElem? (i := 999) (by decide +kernel)) (by decide +kernel)), (inG (List.mem_of_getElem? (i := 35) (by decide +kernel)) (by decide +kernel)), (inG (List.mem_of_getElem? (i := 77) (by decide +kernel)) (by decide +kernel)), rfl, by decide +kernel⟩
theorem ml_X8_198 : LV RX8 198 8 m_X8_readsShape 0 := ⟨by decide, (inG (List.mem_of_getElem? (i := 1001) (by decide +kernel)) (by decide +kernel)), (inG (List.mem_of_getElem? (i := 1003) (by decide +kernel)) (by decide +kernel)), (inG (List.mem_of_getElem? (i := 36) (by decide +kernel)) (by decide +kernel)), (inG (List.mem_of_getElem? (i := 77) (by decide +kernel)) (by decide +kernel)), rfl, by decide +kernel⟩
theorem ml_X8_201 : LV RX8 201 8 m_X8_told 0 := ⟨by decide, (inG (List.mem_of_getElem? (i := 1041) (by decide +kernel)) (by decide +kernel)), (inG (List.mem_of_getElem? (i := 1043) (by decide +kernel)) (by decide +kernel)), (inG (List.mem_of_getElem? (i := 45) (by decide +kernel)) (by decide +kernel)), (inG (List.mem_of_getElem? (i := 77) (by decide +kernel)) (by decide +kernel)), rfl, by decide +kernel⟩
theorem fl_X8_204 : FLd RX8 204 8 13 := ⟨by decide, by decide, (inG (List.mem_of_getElem? (i := 835) (by decide +kernel)) (by decide +kernel))⟩
theorem fl_X8_208 : FLd RX8 208 8 14 := ⟨by decide, by decide, (inG (List.mem_of_getElem? (i := 836) (by decide +kernel)) (by decide +kernel))⟩
theorem fl_X8_211 : FLd RX8 211 8 15 := ⟨by decide, by decide, (inG (List.mem_of_getElem? (i := 837) (by decide +kernel)) (by decide +kernel))⟩
theorem fl_X8_214 : FLd RX8 214 8 31 := ⟨by decide, by decide, (inG (List.mem_of_getElem? (i := 853) (by decide +kernel)) (by decide +kernel))⟩
theorem fl_X8_217 : FLd RX8 217 8 36 := ⟨by decide, by decide, (inG (List.mem_of_getElem? (i := 858) (by decide +kernel)) (by decide +kernel))⟩
theorem ml_X8_220 : LV RX8 220 8 m_X8_hasNode 2 := ⟨by decide, (inG (List.mem_of_getElem? (i := 1061) (by decide +kernel)) (by decide +kernel)), (inG (List.mem_of_getElem? (i := 1063) (by decide +kernel)) (by decide +kernel)), (inG (List.mem_of_getElem? (i := 49) (by decide +kernel)) (by decide +kernel)), (inG (List.mem_of_getElem? (i := 77) (by decide +kernel)) (by decide +kernel)), rfl, by decide +kernel⟩
theorem ml_X8_224 : LSt RX8 224 m_X8_isDigit 1 := ⟨(inG (List.mem_of_getElem? (i := 1073) (by decide +kernel)) (by decide +kernel)), (inG (List.mem_of_getElem? (i := 1074) (by decide +kernel)) (by decide +kernel)), by decide +kernel⟩
theorem kl_X8_227 : Cond.constantLong RX8 227 (10) ∈ lw_g := (inG (List.mem_of_getElem? (i := 1080) (by decide +kernel)) (by decide +kernel))
theorem kl_X8_229 : Cond.constantLong RX8 229 (48) ∈ lw_g := (inG (List.mem_of_getElem? (i := 1081) (by decide +kernel)) (by decide +kernel))
theorem ml_X8_231 : LV RX8 231 8 m_X8_fieldOf 2 := ⟨by decide, (inG (List.mem_of_getElem? (i := 1069) (by decide +kernel)) (by decide +kernel)), (inG (List.mem_of_getElem? (i := 1071) (by decide +kernel)) (by decide +kernel)), (inG (List.mem_of_getElem? (i := 51) (by decide +kernel)) (by decide +kernel)), (inG (List.mem_of_getElem? (i := 77) (by decide +kernel)) (by decide +kernel)), rfl, by decide +kernel⟩
theorem ml_X8_235 : LV RX8 235 8 m_X8_node 3 := ⟨by decide, (inG (List.mem_of_getElem? (i := 1053) (by decide +kernel)) (by decide +kernel)), (inG (List.mem_of_getElem? (i := 1055) (by decide +kernel)) (by decide +kernel)), (inG (List.mem_of_getElem? (i := 47) (by decide +kernel)) (by decide +kernel)), (inG (List.mem_of_getElem? (i := 77) (by decide +kernel)) (by decide +kernel)), rfl, by decide +kernel⟩
theorem ml_X8_239 : LV RX8 239 8 m_X8_number 0 := ⟨by decide, (inG (List.mem_of_getElem? (i := 1076) (by decide +kernel)) (by decide +kernel)), (inG (List.mem_of_getElem? (i := 1078) (by decide +kernel)) (by decide +kernel)), (inG (List.mem_of_getElem? (i := 52) (by decide +kernel)) (by decide +kernel)), (inG (List.mem_of_getElem? (i := 77) (by decide +kernel)) (by decide +kernel)), rfl, by decide +kernel⟩
theorem ml_X8_242 : LV RX8 242 8 m_X8_lacks 1 := ⟨by decide, (inG (List.mem_of_getElem? (i := 1057) (by decide +kernel)) (by decide +kernel)), (inG (List.mem_of_getElem? (i := 1059) (by decide +kernel)) (by decide +kernel)), (inG (List.mem_of_getElem? (i := 48) (by decide +kernel)) (by decide +kernel)), (inG (List.mem_of_getElem? (i := 77) (by decide +kernel)) (by decide +kernel)), rfl, by decide +kernel⟩
theorem ml_X8_245 : LV RX8 245 8 m_X8_entry 0 := ⟨by decide, (inG (List.mem_of_getElem? (i := 1065) (by decide +kernel)) (by decide +kernel)), (inG (List.mem_of_getElem? (i := 1067) (by decide +kernel)) (by decide +kernel)), (inG (List.mem_of_getElem? (i := 50) (by decide +kernel)) (by decide +kernel)), (inG (List.mem_of_getElem? (i := 77) (by decide +kernel)) (by decide +kernel)), rfl, by decide +kernel⟩
theorem ml_X8_248 : LV RX8 248 8 m_X8_readsPaper 0 := ⟨by decide, (inG (List.mem_of_getElem? (i := 1049) (by decide +kernel)) (by decide +kernel)), (inG (List.mem_of_getElem? (i := 1051) (by decide +kernel)) (by decide +kernel)), (inG (List.mem_of_getElem? (i := 46) (by decide +kernel)) (by decide +kernel)), (inG (List.mem_of_getElem? (i := 77) (by decide +kernel)) (by decide +kernel)), rfl, by decide +kernel⟩
theorem ml_X8_251 : LV RX8 251 8 m_X8_isPaper 1 := ⟨by decide, (inG (List.mem_of_getElem? (i := 1090) (by decide +kernel)) (by decide +kernel)), (inG (List.mem_of_getElem? (i := 1092) (by decide +kernel)) (by decide +kernel)), (inG (List.mem_of_getElem? (i := 53) (by decide +kernel)) (by decide +kernel)), (inG (List.mem_of_getElem? (i := 77) (by decide +kernel)) (by decide +kernel)), rfl, by decide +kernel⟩
theorem fl_X8_254 : FLd RX8 254 8 37 := ⟨by decide, by decide, (inG (List.mem_of_getElem? (i := 859) (by decide +kernel)) (by decide +kernel))⟩
theorem fl_X8_257 : FLd RX8 257 8 39 := ⟨by decide, by decide, (inG (List.mem_of_getElem? (i := 861) (by decide +kernel)) (by decide +kernel))⟩
theorem ml_X8_260 : LV RX8 260 8 m_X8_roadOf 1 := ⟨by decide, (inG (List.mem_of_getElem? (i := 1106) (by decide +kernel)) (by decide +kernel)), (inG (List.mem_of_getElem? (i := 1108) (by decide +kernel)) (by decide +kernel)), (inG (List.mem_of_getElem? (i := 56) (by decide +kernel)) (by decide +kernel)), (inG (List.mem_of_getElem? (i := 77) (by decide +kernel)) (by decide +kernel)), rfl, by decide +kernel⟩
theorem ml_X8_263 : LV RX8 263 8 m_X8_steps 4 := ⟨by decide, (inG (List.mem_of_getElem? (i := 1110) (by decide +kernel)) (by decide +kernel)), (inG (List.mem_of_getElem? (i := 1112) (by decide +kernel)) (by decide +kernel)), (inG (List.mem_of_getElem? (i := 57) (by decide +kernel)) (by decide +kernel)), (inG (List.mem_of_getElem? (i := 77) (by decide +kernel)) (by decide +kernel)), rfl, by decide +kernel⟩
theorem ml_X8_267 : LV RX8 267 8 m_X8_putsRow 5 := ⟨by decide, (inG (List.mem_of_getElem? (i := 1114) (by decide +kernel)) (by decide +kernel)), (inG (List.mem_of_getElem? (i := 1116) (by decide +kernel)) (by decide +kernel)), (inG (List.mem_of_getElem? (i := 58) (by decide +kernel)) (by decide +kernel)), (inG (List.mem_of_getElem? (i := 77) (by decide +kernel)) (by decide +kernel)), rfl, by decide +kernel⟩
theorem ml_X8_271 : LV RX8 271 8 m_X8_manyUpTo 1 := ⟨by decide, (inG (List.mem_of_getElem? (i := 1118) (by decide +kernel)) (by decide +kernel)), (inG (List.mem_of_getElem? (i := 1120) (by decide +kernel)) (by decide +kernel)), (inG (List.mem_of_getElem? (i := 59) (by decide +kernel)) (by decide +kernel)), (inG (List.mem_of_getElem? (i := 77) (by decide +kernel)) (by decide +kernel)), rfl, by decide +kernel⟩
theorem ml_X8_275 : LV RX8 275 8 m_X8_isFirstValue 1 := ⟨by decide, (inG (List.mem_of_getElem? (i := 1130) (by decide +kernel)) (by decide +kernel)), (inG (List.mem_of_getElem? (i := 1132) (by decide +kernel)) (by decide +kernel)), (inG (List.mem_of_getElem? (i := 62) (by decide +kernel)) (by decide +kernel)), (inG (List.mem_of_getElem? (i := 77) (by decide +kernel)) (by decide +kernel)), rfl, by decide +kernel⟩
theorem ml_X8_278 : LV RX8 278 8 m_X8_values 1 := ⟨by decide, (inG (List.mem_of_getElem? (i := 1126) (by decide +kernel)) (by decide +kernel)), (inG (List.mem_of_getElem? (i := 1128) (by decide +kernel)) (by decide +kernel)), (inG (List.mem_of_getElem? (i := 61) (by decide +kernel)) (by decide +kernel)), (inG (List.mem_of_getElem? (i := 77) (by decide +kernel)) (by decide +kernel)), rfl, by decide +kernel⟩
theorem ml_X8_282 : LV RX8 282 8 m_X8_runs 1 := ⟨by decide, (inG (List.mem_of_getElem? (i := 1138) (by decide +kernel)) (by decide +kernel)), (inG (List.mem_of_getElem? (i := 1140) (by decide +kernel)) (by decide +kernel)), (inG (List.mem_of_getElem? (i := 64) (by decide +kernel)) (by decide +kernel)), (inG (List.mem_of_getElem? (i := 77) (by decide +kernel)) (by decide +kernel)), rfl, by decide +kernel⟩
theorem ml_X8_286 : LV RX8 286 8 m_X8_deepOf 0 := ⟨by decide, (inG (List.mem_of_getElem? (i := 1122) (by decide +kernel)) (by decide +kernel)), (inG (List.mem_of_getElem? (i := 1124) (by decide +kernel)) (by decide +kernel)), (inG (List.mem_of_getElem? (i := 60) (by decide +kernel)) (by decide +kernel)), (inG (List.mem_of_getElem? (i := 77) (by decide +kernel)) (by decide +kernel)), rfl, by decide +kernel⟩
theorem ml_X8_289 : LV RX8 289 8 m_X8_isLeaf 1 := ⟨by decide, (inG (List.mem_of_getElem? (i := 1098) (by decide +kernel)) (by decide +kernel)), (inG (List.mem_of_getElem? (i := 1100) (by decide +kernel)) (by decide +kernel)), (inG (List.mem_of_getElem? (i := 54) (by decide +kernel)) (by decide +kernel)), (inG (List.mem_of_getElem? (i := 77) (by decide +kernel)) (by decide +kernel)), rfl, by decide +kernel⟩
theorem ml_X8_292 : LV RX8 292 8 m_X8_table 1 := ⟨by decide, (inG (List.mem_of_getElem? (i := 1102) (by decide +kernel)) (by decide +kernel)), (inG (List.mem_of_getElem? (i := 1104) (by decide +kernel)) (by decide +kernel)), (inG (List.mem_of_getElem? (i := 55) (by decide +kernel)) (by decide +kernel)), (inG (List.mem_of_getElem? (i := 77) (by decide +kernel)) (by decide +kernel)), rfl, by decide +kernel⟩
theorem ml_X8_295 : LV RX8 295 8 m_X8_sizeOf 0 := ⟨by decide, (inG (List.mem_of_getElem? (i := 1134) (by decide +kernel)) (by decide +kernel)), (inG (List.mem_of_getElem? (i := 1136) (by decide +kernel)) (by decide +kernel)), (inG (List.mem_of_getElem? (i := 63) (by decide +kernel)) (by decide +kernel)), (inG (List.mem_of_getElem? (i := 77) (by decide +kernel)) (by decide +kernel)), rfl, by decide +kernel⟩
theorem ml_X8_298 : LV RX8 298 8 m_X8_isRow 2 := ⟨by decide, (inG (List.mem_of_getElem? (i := 1146) (by decide +kernel)) (by decide +kernel)), (inG (List.mem_of_getElem? (i := 1148) (by decide +kernel)) (by decide +kernel)), (inG (List.mem_of_getElem? (i := 65) (by decide +kernel)) (by decide +kernel)), (inG (List.mem_of_getElem? (i := 77) (by decide +kernel)) (by decide +kernel)), rfl, by decide +kernel⟩
theorem fl_X8_301 : FLd RX8 301 8 50 := ⟨by decide, by decide, (inG (List.mem_of_getElem? (i := 872) (by decide +kernel)) (by decide +kernel))⟩
theorem ml_X8_304 : LV RX8 304 8 m_X8_lays 1 := ⟨by decide, (inG (List.mem_of_getElem? (i := 1158) (by decide +kernel)) (by decide +kernel)), (inG (List.mem_of_getElem? (i := 1160) (by decide +kernel)) (by decide +kernel)), (inG (List.mem_of_getElem? (i := 66) (by decide +kernel)) (by decide +kernel)), (inG (List.mem_of_getElem? (i := 77) (by decide +kernel)) (by decide +kernel)), rfl, by decide +kernel⟩
theorem ml_X8_307 : LV RX8 307 8 m_X8_laysWord 1 := ⟨by decide, (inG (List.mem_of_getElem? (i := 1162) (by decide +kernel)) (by decide +kernel)), (inG (List.mem_of_getElem? (i := 1164) (by decide +kernel)) (by decide +kernel)), (inG (List.mem_of_getElem? (i := 67) (by decide +kernel)) (by decide +kernel)), (inG (List.mem_of_getElem? (i := 77) (by decide +kernel)) (by decide +kernel)), rfl, by decide +kernel⟩
theorem ml_X8_311 : LV RX8 311 8 m_X8_laysNumber 1 := ⟨by decide, (inG (List.mem_of_getElem? (i := 1166) (by decide +kernel)) (by decide +kernel)), (inG (List.mem_of_getElem? (i := 1168) (by decide +kernel)) (by decide +kernel)), (inG (List.mem_of_getElem? (i := 68) (by decide +kernel)) (by decide +kernel)), (inG (List.mem_of_getElem? (i := 77) (by decide +kernel)) (by decide +kernel)), rfl, by decide +kernel⟩
theorem ml_X8_314 : LV RX8 314 8 m_X8_isOn 2 := ⟨by decide, (inG (List.mem_of_getElem? (i := 1190) (by decide +kernel)) (by decide +kernel)), (inG (List.mem_of_getElem? (i := 1192) (by decide +kernel)) (by decide +kernel)), (inG (List.mem_of_getElem? (i := 69) (by decide +kernel)) (by decide +kernel)), (inG (List.mem_of_getElem? (i := 77) (by decide +kernel)) (by decide +kernel)), rfl, by decide +kernel⟩
theorem ml_X8_317 : LV RX8 317 8 m_X8_has 4 := ⟨by decide, (inG (List.mem_of_getElem? (i := 1194) (by decide +kernel)) (by decide +kernel)), (inG (List.mem_of_getElem? (i := 1196) (by decide +kernel)) (by decide +kernel)), (inG (List.mem_of_getElem? (i := 70) (by decide +kernel)) (by decide +kernel)), (inG (List.mem_of_getElem? (i := 77) (by decide +kernel)) (by decide +kernel)), rfl, by decide +kernel⟩
theorem ml_J7_150 : Cond.methodLink RJ7 150 arraycopyName ∈ lw_g := (inG (List.mem_of_getElem? (i := 550) (by decide +kernel)) (by decide +kernel))
theorem ml_J7_304 : Cond.methodLink RJ7 304 yJ9_min_7cf53 ∈ lw_g ∧ Cond.static yJ9_min_7cf53 ∈ lw_g := ⟨(inG (List.mem_of_getElem? (i := 547) (by decide +kernel)) (by decide +kernel)), (inG (List.mem_of_getElem? (i := 548) (by decide +kernel)) (by decide +kernel))⟩
-- no method for java/util/Arrays 316 ('[I', 'clone', '()Ljava/lang/Object;')
-- no method for java/util/Arrays 319 ('[J', 'clone', '()Ljava/lang/Object;')
end
section
/-! what a method comes to, as a predicate on answer and heap -/
def Xe (mm : MR) (d pc : Nat) (L : List (Nat × Value)) (st : List Value) (T : TH) (P : Option Value → TH → Prop) : Prop := ∃ (r : Option Value) (Tf : TH), X mm d pc L st T r Tf ∧ P r Tf
section XE
variable {mm cm : MR} {d pc pc' : Nat} {L L' : List (Nat × Value)} {st st' stk : List Value} {T T' : TH} {P Q : Option Value → TH → Prop}
theorem xe (f : ∀ r Tf, X mm d pc' L' st' T' r Tf → X mm d pc L st T r Tf) (k : Xe mm d pc' L' st' T' P) : Xe mm d pc L st T P := by
  obtain ⟨r, Tf, h, hp⟩ := k
  exact ⟨r, Tf, f r Tf h, hp⟩
theorem Xe.imp (k : Xe mm d pc L st T P) (h : ∀ r Tf, P r Tf → Q r Tf) : Xe mm d pc L st T Q := by
  obtain ⟨r, Tf, h1, hp⟩ := k
  exact ⟨r, Tf, h1, h r Tf hp⟩
theorem xe_loc (h : ∀ q ∈ L', q ∈ L) (k : Xe mm d pc L' st T P) : Xe mm d pc L st T P := xe (fun _ _ k => x_loc h k) k
theorem xe_T (h : T = T') (k : Xe mm d pc L st T' P) : Xe mm d pc L st T P := h ▸ k
theorem xe_ti {x y : Int32} (h : x = y) (k : Xe mm d pc L (.int y :: st) T P) : Xe mm d pc L (.int x :: st) T P := h ▸ k
theorem xe_tl {x y : Int64} (h : x = y) (k : Xe mm d pc L (.long y :: st) T P) : Xe mm d pc L (.long x :: st) T P := h ▸ k
theorem xe_tv {x y : Value} (h : x = y) (k : Xe mm d pc L (y :: st) T P) : Xe mm d pc L (x :: st) T P := h ▸ k
theorem xe_reti {x : Int32} (hd : decode mm.2.2.1 pc = .ok (.ireturn, 1)) (hr : mm.2.2.2.2 = some .int) (hP : P (some (.int x)) T) : Xe mm d pc L [.int x] T P := ⟨_, _, x_ret (by rw [hr]; exact hd) (by rw [hr]; trivial) rfl, hP⟩
theorem xe_retz {x : Int32} (hd : decode mm.2.2.1 pc = .ok (.ireturn, 1)) (hr : mm.2.2.2.2 = some .boolean) (hx : x = 0 ∨ x = 1) (hP : P (some (.int x)) T) : Xe mm d pc L [.int x] T P := ⟨_, _, x_ret (by rw [hr]; exact hd) (by rw [hr]; exact hx) rfl, hP⟩
theorem xe_retl {x : Int64} (hd : decode mm.2.2.1 pc = .ok (.lreturn, 1)) (hr : mm.2.2.2.2 = some .long) (hP : P (some (.long x)) T) : Xe mm d pc L [.long x] T P := ⟨_, _, x_ret (by rw [hr]; exact hd) (by rw [hr]; trivial) rfl, hP⟩
theorem xe_reta {a : Nat} {n : String} (hd : decode mm.2.2.1 pc = .ok (.areturn, 1)) (hr : mm.2.2.2.2 = some (.object n)) (hP : P (some (.ref a)) T) : Xe mm d pc L [.ref a] T P := ⟨_, _, x_ret (by rw [hr]; exact hd) (by rw [hr]; trivial) rfl, hP⟩
theorem xe_retn {n : String} (hd : decode mm.2.2.1 pc = .ok (.areturn, 1)) (hr : mm.2.2.2.2 = some (.object n)) (hP : P (some .null) T) : Xe mm d pc L [.null] T P := ⟨_, _, x_ret (by rw [hr]; exact hd) (by rw [hr]; trivial) rfl, hP⟩
theorem xe_retr {a : Nat} {t : FieldType} (hd : decode mm.2.2.1 pc = .ok (.areturn, 1)) (hr : mm.2.2.2.2 = some (.array t)) (hP : P (some (.ref a)) T) : Xe mm d pc L [.ref a] T P := ⟨_, _, x_ret (by rw [hr]; exact hd) (by rw [hr]; trivial) rfl, hP⟩
theorem xe_retv (hd : decode mm.2.2.1 pc = .ok (.return_, 1)) (hr : mm.2.2.2.2 = none) (hP : P none T) : Xe mm d pc L [] T P := ⟨_, _, x_ret (by rw [hr]; exact hd) (by rw [hr]; trivial) rfl, hP⟩
theorem xe_callV {idx ci n a : Nat} (As : List Value) (hd : decode mm.2.2.1 pc = .ok (.invokevirtual idx, 3)) (hl : LV mm.1 idx ci cm n) (hm : MF cm) (hK : e_K T a = ci + 1) (hX : Xe cm d 0 (lv_args 0 (.ref a :: As)) [] T Q) (hstk : stk = As.reverse ++ .ref a :: st) (hn : As.length = n) (hs : (lg_sl (.ref a :: As)).length ≤ cm.2.2.2.1) (hc : (st.map fun v => v.category).sum ≤ 8) (k : ∀ r T1, Q r T1 → Xe mm (d + 1) (pc + 3) L (r.toList ++ st) T1 P) : Xe mm (d + 1) pc L stk T P := by
  obtain ⟨r, T1, h1, hq⟩ := hX
  obtain ⟨r2, T2, h2, hp⟩ := k r T1 hq
  exact ⟨r2, T2, x_callV As hd hl hm hK h1 hstk hn hs hc h2, hp⟩
theorem xe_callS {idx n : Nat} (As : List Value) (hd : decode mm.2.2.1 pc = .ok (.invokestatic idx, 3)) (hl : LSt mm.1 idx cm n) (hm : MF cm) (hX : Xe cm d 0 (lv_args 0 As) [] T Q) (hstk : stk = As.reverse ++ st) (hn : As.length = n) (hs : (lg_sl As).length ≤ cm.2.2.2.1) (hc : (st.map fun v => v.category).sum ≤ 8) (k : ∀ r T1, Q r T1 → Xe mm (d + 1) (pc + 3) L (r.toList ++ st) T1 P) : Xe mm (d + 1) pc L stk T P := by
  obtain ⟨r, T1, h1, hq⟩ := hX
  obtain ⟨r2, T2, h2, hp⟩ := k r T1 hq
  exact ⟨r2, T2, x_callS As hd hl hm h1 hstk hn hs hc h2, hp⟩
theorem xe_callSN {idx n : Nat} (As : List Value) (hd : decode mm.2.2.1 pc = .ok (.invokestatic idx, 3)) (hl : LSN mm.1 idx cm n) (hm : MF cm) (hX : Xe cm d 0 (lv_args 0 As) [] T Q) (hstk : stk = As.reverse ++ st) (hn : As.length = n) (hs : (lg_sl As).length ≤ cm.2.2.2.1) (hc : (st.map fun v => v.category).sum ≤ 8) (k : ∀ r T1, Q r T1 → Xe mm (d + 1) (pc + 3) L (r.toList ++ st) T1 P) : Xe mm (d + 1) pc L stk T P := by
  obtain ⟨r, T1, h1, hq⟩ := hX
  obtain ⟨r2, T2, h2, hp⟩ := k r T1 hq
  exact ⟨r2, T2, x_callSN As hd hl hm h1 hstk hn hs hc h2, hp⟩
theorem xe_callI {idx n a : Nat} (As : List Value) (hd : decode mm.2.2.1 pc = .ok (.invokespecial idx, 3)) (hl : LI mm.1 idx cm n) (hm : MF cm) (hX : Xe cm d 0 (lv_args 0 (.ref a :: As)) [] T Q) (hstk : stk = As.reverse ++ .ref a :: st) (hn : As.length = n) (hs : (lg_sl (.ref a :: As)).length ≤ cm.2.2.2.1) (hc : (st.map fun v => v.category).sum ≤ 8) (k : ∀ r T1, Q r T1 → Xe mm (d + 1) (pc + 3) L (r.toList ++ st) T1 P) : Xe mm (d + 1) pc L stk T P := by
  obtain ⟨r, T1, h1, hq⟩ := hX
  obtain ⟨r2, T2, h2, hp⟩ := k r T1 hq
  exact ⟨r2, T2, x_callI As hd hl hm h1 hstk hn hs hc h2, hp⟩
theorem xe_callIN {idx n a : Nat} (As : List Value) (hd : decode mm.2.2.1 pc = .ok (.invokespecial idx, 3)) (hl : LIN mm.1 idx cm n) (hm : MF cm) (hX : Xe cm d 0 (lv_args 0 (.ref a :: As)) [] T Q) (hstk : stk = As.reverse ++ .ref a :: st) (hn : As.length = n) (hs : (lg_sl (.ref a :: As)).length ≤ cm.2.2.2.1) (hc : (st.map fun v => v.category).sum ≤ 8) (k : ∀ r T1, Q r T1 → Xe mm (d + 1) (pc + 3) L (r.toList ++ st) T1 P) : Xe mm (d + 1) pc L stk T P := by
  obtain ⟨r, T1, h1, hq⟩ := hX
  obtain ⟨r2, T2, h2, hp⟩ := k r T1 hq
  exact ⟨r2, T2, x_callIN As hd hl hm h1 hstk hn hs hc h2, hp⟩
theorem gvl_i {ci k a : Nat} {x : Int32} (hc : ftc ci k = 0) (h : e_i T (64 * ci + k) a = x) : gvl T ci k a = .int x := by simp [gvl, hc, h]
theorem gvl_z {ci k a : Nat} {x : Int32} (hc : ftc ci k = 3) (h : e_i T (64 * ci + k) a = x) : gvl T ci k a = .int x := by simp [gvl, hc, h]
theorem gvl_l {ci k a : Nat} {x : Int64} (hc : ftc ci k = 1) (h : e_l T (64 * ci + k) a = x) : gvl T ci k a = .long x := by simp [gvl, hc, h]
theorem gvl_r {ci k a : Nat} {o : Option Nat} (hc : ftc ci k = 2) (h : e_r T (64 * ci + k) a = o) : gvl T ci k a = va_rf o := by simp [gvl, hc, h]
theorem gvl_r1 {ci k a b : Nat} (hc : ftc ci k = 2) (h : e_r T (64 * ci + k) a = some b) : gvl T ci k a = .ref b := by simp [gvl, hc, h, va_rf]
/-! Math -/
theorem mm_c : Cond.code Lib.Math.max.name Lib.Math.max.code 2 (some .int) ∈ lw_g := inG (by decide +kernel) (by decide +kernel)
theorem mn_c : Cond.code Lib.Math.min.name Lib.Math.min.code 2 (some .int) ∈ lw_g := inG (by decide +kernel) (by decide +kernel)
theorem ma_c : Cond.code Lib.MathLoose.abs_long.x Lib.MathLoose.abs_long.code 2 (some .long) ∈ lw_g := inG (by decide +kernel) (by decide +kernel)
theorem mi_c : Cond.initialized "java/lang/Math" ∈ lw_g := inG (by decide +kernel) (by decide +kernel)
theorem x_mmax {x y : Int32} {idx : Nat} {r : Option Value} {Tf : TH} (hd : decode mm.2.2.1 pc = .ok (.invokestatic idx, 3)) (hl : Cond.methodLink mm.1 idx Lib.Math.max.name ∈ lw_g ∧ Cond.static Lib.Math.max.name ∈ lw_g) (hc : (st.map fun v => v.category).sum ≤ 8) (k : X mm (d + 1) (pc + 3) L (.int (if x < y then y else x) :: st) T r Tf) : X mm (d + 1) pc L (.int y :: .int x :: st) T r Tf := by
  have k1 := k.1.1
  have k2 := k.1.2.1
  refine ⟨k.1, fun E p l e R s m args below meth c H locs ls n0 s0 Z C g1 hls hp hS hz9 => ?_⟩
  have hR := C.2.2.2.2.2.2.2.2.2.2.1
  have hts := C.2.2.2.2.2.2.1
  have hcm := cat_map E st
  exact va_mmax C.1 C.2.1 (by rw [C.2.2.1, hls.1]) C.2.2.2.2.2.1 (hts _ hl.1) (hts _ hl.2) (hts _ mi_c) (hts _ mm_c) (by omega) (by omega) (by omega) (by omega) hd (k.2 E p l e R s m args below meth c H locs ls n0 s0 Z C g1 hls hp hS hz9)
theorem x_mmin {x y : Int32} {idx : Nat} {r : Option Value} {Tf : TH} (hd : decode mm.2.2.1 pc = .ok (.invokestatic idx, 3)) (hl : Cond.methodLink mm.1 idx Lib.Math.min.name ∈ lw_g ∧ Cond.static Lib.Math.min.name ∈ lw_g) (hc : (st.map fun v => v.category).sum ≤ 8) (k : X mm (d + 1) (pc + 3) L (.int (if y < x then y else x) :: st) T r Tf) : X mm (d + 1) pc L (.int y :: .int x :: st) T r Tf := by
  have k1 := k.1.1
  have k2 := k.1.2.1
  refine ⟨k.1, fun E p l e R s m args below meth c H locs ls n0 s0 Z C g1 hls hp hS hz9 => ?_⟩
  have hR := C.2.2.2.2.2.2.2.2.2.2.1
  have hts := C.2.2.2.2.2.2.1
  have hcm := cat_map E st
  exact va_mmin C.1 C.2.1 (by rw [C.2.2.1, hls.1]) C.2.2.2.2.2.1 (hts _ hl.1) (hts _ hl.2) (hts _ mi_c) (hts _ mn_c) (by omega) (by omega) (by omega) (by omega) hd (k.2 E p l e R s m args below meth c H locs ls n0 s0 Z C g1 hls hp hS hz9)
theorem x_mabs {x : Int64} {idx : Nat} {r : Option Value} {Tf : TH} (hd : decode mm.2.2.1 pc = .ok (.invokestatic idx, 3)) (hl : Cond.methodLink mm.1 idx Lib.MathLoose.abs_long.x ∈ lw_g ∧ Cond.static Lib.MathLoose.abs_long.x ∈ lw_g) (hc : (st.map fun v => v.category).sum ≤ 8) (k : X mm (d + 1) (pc + 3) L (.long (if 0 < x then x else -x) :: st) T r Tf) : X mm (d + 1) pc L (.long x :: st) T r Tf := by
  have k1 := k.1.1
  have k2 := k.1.2.1
  refine ⟨k.1, fun E p l e R s m args below meth c H locs ls n0 s0 Z C g1 hls hp hS hz9 => ?_⟩
  have hR := C.2.2.2.2.2.2.2.2.2.2.1
  have hts := C.2.2.2.2.2.2.1
  have hcm := cat_map E st
  exact va_mabs_long C.1 C.2.1 (by rw [C.2.2.1, hls.1]) C.2.2.2.2.2.1 (hts _ hl.1) (hts _ hl.2) (hts _ mi_c) (hts _ ma_c) (by omega) (by omega) (by omega) (by omega) hd (k.2 E p l e R s m args below meth c H locs ls n0 s0 Z C g1 hls hp hS hz9)
theorem xe_icmp_eq {x y : Int32} {off : Int} {tgt : Nat} (hd : decode mm.2.2.1 pc = .ok (.if_icmp .eq off, 3)) (ht : (pc : Int) + off = (tgt : Int)) (kt : x = y → Xe mm d tgt L st T P) (kf : ¬ x = y → Xe mm d (pc + 3) L st T P) : Xe mm d pc L (.int y :: .int x :: st) T P := by
  by_cases h : x = y
  · exact xe (fun _ _ k => x_icmp_eqT hd ht h k) (kt h)
  · exact xe (fun _ _ k => x_icmp_eqF hd ht h k) (kf h)
theorem xe_if_eq {x : Int32} {off : Int} {tgt : Nat} (hd : decode mm.2.2.1 pc = .ok (.ifCond .eq off, 3)) (ht : (pc : Int) + off = (tgt : Int)) (kt : x = 0 → Xe mm d tgt L st T P) (kf : ¬ x = 0 → Xe mm d (pc + 3) L st T P) : Xe mm d pc L (.int x :: st) T P := by
  by_cases h : x = 0
  · exact xe (fun _ _ k => x_if_eqT hd ht h k) (kt h)
  · exact xe (fun _ _ k => x_if_eqF hd ht h k) (kf h)
theorem xe_icmp_ne {x y : Int32} {off : Int} {tgt : Nat} (hd : decode mm.2.2.1 pc = .ok (.if_icmp .ne off, 3)) (ht : (pc : Int) + off = (tgt : Int)) (kt : ¬ x = y → Xe mm d tgt L st T P) (kf : x = y → Xe mm d (pc + 3) L st T P) : Xe mm d pc L (.int y :: .int x :: st) T P := by
  by_cases h : x = y
  · exact xe (fun _ _ k => x_icmp_neF hd ht h k) (kf h)
  · exact xe (fun _ _ k => x_icmp_neT hd ht h k) (kt h)
theorem xe_if_ne {x : Int32} {off : Int} {tgt : Nat} (hd : decode mm.2.2.1 pc = .ok (.ifCond .ne off, 3)) (ht : (pc : Int) + off = (tgt : Int)) (kt : ¬ x = 0 → Xe mm d tgt L st T P) (kf : x = 0 → Xe mm d (pc + 3) L st T P) : Xe mm d pc L (.int x :: st) T P := by
  by_cases h : x = 0
  · exact xe (fun _ _ k => x_if_neF hd ht h k) (kf h)
  · exact xe (fun _ _ k => x_if_neT hd ht h k) (kt h)
theorem xe_icmp_lt {x y : Int32} {off : Int} {tgt : Nat} (hd : decode mm.2.2.1 pc = .ok (.if_icmp .lt off, 3)) (ht : (pc : Int) + off = (tgt : Int)) (kt : x < y → Xe mm d tgt L st T P) (kf : ¬ x < y → Xe mm d (pc + 3) L st T P) : Xe mm d pc L (.int y :: .int x :: st) T P := by
  by_cases h : x < y
  · exact xe (fun _ _ k => x_icmp_ltT hd ht h k) (kt h)
  · exact xe (fun _ _ k => x_icmp_ltF hd ht h k) (kf h)
theorem xe_if_lt {x : Int32} {off : Int} {tgt : Nat} (hd : decode mm.2.2.1 pc = .ok (.ifCond .lt off, 3)) (ht : (pc : Int) + off = (tgt : Int)) (kt : x < 0 → Xe mm d tgt L st T P) (kf : ¬ x < 0 → Xe mm d (pc + 3) L st T P) : Xe mm d pc L (.int x :: st) T P := by
  by_cases h : x < 0
  · exact xe (fun _ _ k => x_if_ltT hd ht h k) (kt h)
  · exact xe (fun _ _ k => x_if_ltF hd ht h k) (kf h)
theorem xe_icmp_ge {x y : Int32} {off : Int} {tgt : Nat} (hd : decode mm.2.2.1 pc = .ok (.if_icmp .ge off, 3)) (ht : (pc : Int) + off = (tgt : Int)) (kt : y ≤ x → Xe mm d tgt L st T P) (kf : ¬ y ≤ x → Xe mm d (pc + 3) L st T P) : Xe mm d pc L (.int y :: .int x :: st) T P := by
  by_cases h : y ≤ x
  · exact xe (fun _ _ k => x_icmp_geT hd ht h k) (kt h)
  · exact xe (fun _ _ k => x_icmp_geF hd ht h k) (kf h)
theorem xe_if_ge {x : Int32} {off : Int} {tgt : Nat} (hd : decode mm.2.2.1 pc = .ok (.ifCond .ge off, 3)) (ht : (pc : Int) + off = (tgt : Int)) (kt : 0 ≤ x → Xe mm d tgt L st T P) (kf : ¬ 0 ≤ x → Xe mm d (pc + 3) L st T P) : Xe mm d pc L (.int x :: st) T P := by
  by_cases h : 0 ≤ x
  · exact xe (fun _ _ k => x_if_geT hd ht h k) (kt h)
  · exact xe (fun _ _ k => x_if_geF hd ht h k) (kf h)
theorem xe_icmp_gt {x y : Int32} {off : Int} {tgt : Nat} (hd : decode mm.2.2.1 pc = .ok (.if_icmp .gt off, 3)) (ht : (pc : Int) + off = (tgt : Int)) (kt : y < x → Xe mm d tgt L st T P) (kf : ¬ y < x → Xe mm d (pc + 3) L st T P) : Xe mm d pc L (.int y :: .int x :: st) T P := by
  by_cases h : y < x
  · exact xe (fun _ _ k => x_icmp_gtT hd ht h k) (kt h)
  · exact xe (fun _ _ k => x_icmp_gtF hd ht h k) (kf h)
theorem xe_if_gt {x : Int32} {off : Int} {tgt : Nat} (hd : decode mm.2.2.1 pc = .ok (.ifCond .gt off, 3)) (ht : (pc : Int) + off = (tgt : Int)) (kt : 0 < x → Xe mm d tgt L st T P) (kf : ¬ 0 < x → Xe mm d (pc + 3) L st T P) : Xe mm d pc L (.int x :: st) T P := by
  by_cases h : 0 < x
  · exact xe (fun _ _ k => x_if_gtT hd ht h k) (kt h)
  · exact xe (fun _ _ k => x_if_gtF hd ht h k) (kf h)
theorem xe_icmp_le {x y : Int32} {off : Int} {tgt : Nat} (hd : decode mm.2.2.1 pc = .ok (.if_icmp .le off, 3)) (ht : (pc : Int) + off = (tgt : Int)) (kt : x ≤ y → Xe mm d tgt L st T P) (kf : ¬ x ≤ y → Xe mm d (pc + 3) L st T P) : Xe mm d pc L (.int y :: .int x :: st) T P := by
  by_cases h : x ≤ y
  · exact xe (fun _ _ k => x_icmp_leT hd ht h k) (kt h)
  · exact xe (fun _ _ k => x_icmp_leF hd ht h k) (kf h)
theorem xe_if_le {x : Int32} {off : Int} {tgt : Nat} (hd : decode mm.2.2.1 pc = .ok (.ifCond .le off, 3)) (ht : (pc : Int) + off = (tgt : Int)) (kt : x ≤ 0 → Xe mm d tgt L st T P) (kf : ¬ x ≤ 0 → Xe mm d (pc + 3) L st T P) : Xe mm d pc L (.int x :: st) T P := by
  by_cases h : x ≤ 0
  · exact xe (fun _ _ k => x_if_leT hd ht h k) (kt h)
  · exact xe (fun _ _ k => x_if_leF hd ht h k) (kf h)
end XE
theorem ei_s (T : TH) (g a : Nat) (v : Int32) : e_i (s_i T g a v) g a = v := up2_s _ _ _ _
theorem ei_a (T : TH) {g a g' a' : Nat} (v : Int32) (h : a' ≠ a) : e_i (s_i T g a v) g' a' = e_i T g' a' := up2_a _ _ h
theorem ei_g (T : TH) {g a g' a' : Nat} (v : Int32) (h : g' ≠ g) : e_i (s_i T g a v) g' a' = e_i T g' a' := up2_g _ _ h
theorem el_s (T : TH) (g a : Nat) (v : Int64) : e_l (s_l T g a v) g a = v := up2_s _ _ _ _
theorem el_a (T : TH) {g a g' a' : Nat} (v : Int64) (h : a' ≠ a) : e_l (s_l T g a v) g' a' = e_l T g' a' := up2_a _ _ h
theorem el_g (T : TH) {g a g' a' : Nat} (v : Int64) (h : g' ≠ g) : e_l (s_l T g a v) g' a' = e_l T g' a' := up2_g _ _ h
theorem er_s (T : TH) (g a : Nat) (v : Option Nat) : e_r (s_r T g a v) g a = v := up2_s _ _ _ _
theorem er_a (T : TH) {g a g' a' : Nat} (v : Option Nat) (h : a' ≠ a) : e_r (s_r T g a v) g' a' = e_r T g' a' := up2_a _ _ h
theorem er_g (T : TH) {g a g' a' : Nat} (v : Option Nat) (h : g' ≠ g) : e_r (s_r T g a v) g' a' = e_r T g' a' := up2_g _ _ h
theorem eai_s (T : TH) (a j : Nat) (v : Int32) : e_ai (s_ai T a j v) a j = v := up2_s _ _ _ _
theorem eai_a (T : TH) {a j a' j' : Nat} (v : Int32) (h : a' ≠ a) : e_ai (s_ai T a j v) a' j' = e_ai T a' j' := up2_g _ _ h
theorem eai_j (T : TH) {a j a' j' : Nat} (v : Int32) (h : j' ≠ j) : e_ai (s_ai T a j v) a' j' = e_ai T a' j' := up2_a _ _ h
theorem eal_s (T : TH) (a j : Nat) (v : Int64) : e_al (s_al T a j v) a j = v := up2_s _ _ _ _
theorem eal_a (T : TH) {a j a' j' : Nat} (v : Int64) (h : a' ≠ a) : e_al (s_al T a j v) a' j' = e_al T a' j' := up2_g _ _ h
theorem eal_j (T : TH) {a j a' j' : Nat} (v : Int64) (h : j' ≠ j) : e_al (s_al T a j v) a' j' = e_al T a' j' := up2_a _ _ h
end
