section
-- ===== PART A: goes FIRST, ahead of the names: the tables' words, and 'selects' of the private methods out of them =====
/-- a private method of a class that the tables say can be made, by its rows of tables_1 -/
def lw_okq (q : MethodName × Nat) : Prop := (q.1.cls ≠ "java/lang/invoke/MethodHandle" ∧ q.1.cls ≠ "java/lang/invoke/VarHandle") ∧ Cond.instantiable q.1.cls q.2 ∈ tables_1 ∧ Cond.privateMethod q.1 ∈ tables_1 ∧ Cond.instanceMethod q.1 ∈ tables_1
theorem lw_p0 : lw_okq (⟨"SorryToWin$Tape", "skip", "()V"⟩, 5) := ⟨⟨by decide +kernel, by decide +kernel⟩, List.mem_of_getElem? (i := 27) (by decide +kernel), List.mem_of_getElem? (i := 428) (by decide +kernel), List.mem_of_getElem? (i := 429) (by decide +kernel)⟩
theorem lw_p1 : lw_okq (⟨"SorryToWin$Tape", "look", "()I"⟩, 5) := ⟨⟨by decide +kernel, by decide +kernel⟩, List.mem_of_getElem? (i := 27) (by decide +kernel), List.mem_of_getElem? (i := 432) (by decide +kernel), List.mem_of_getElem? (i := 433) (by decide +kernel)⟩
theorem lw_p2 : lw_okq (⟨"SorryToWin$Tape", "number", "(II)I"⟩, 5) := ⟨⟨by decide +kernel, by decide +kernel⟩, List.mem_of_getElem? (i := 27) (by decide +kernel), List.mem_of_getElem? (i := 436) (by decide +kernel), List.mem_of_getElem? (i := 437) (by decide +kernel)⟩
theorem lw_p3 : lw_okq (⟨"SorryToWin$Tape", "digit", "()I"⟩, 5) := ⟨⟨by decide +kernel, by decide +kernel⟩, List.mem_of_getElem? (i := 27) (by decide +kernel), List.mem_of_getElem? (i := 440) (by decide +kernel), List.mem_of_getElem? (i := 441) (by decide +kernel)⟩
theorem lw_p4 : lw_okq (⟨"SorryToWin$Tape", "clause", "()V"⟩, 5) := ⟨⟨by decide +kernel, by decide +kernel⟩, List.mem_of_getElem? (i := 27) (by decide +kernel), List.mem_of_getElem? (i := 444) (by decide +kernel), List.mem_of_getElem? (i := 445) (by decide +kernel)⟩
theorem lw_p5 : lw_okq (⟨"SorryToWin$Tape", "truthClause", "(I)V"⟩, 5) := ⟨⟨by decide +kernel, by decide +kernel⟩, List.mem_of_getElem? (i := 27) (by decide +kernel), List.mem_of_getElem? (i := 448) (by decide +kernel), List.mem_of_getElem? (i := 449) (by decide +kernel)⟩
theorem lw_p6 : lw_okq (⟨"SorryToWin", "saleAt", "(I)LSorryToWin$Sale;"⟩, 13) := ⟨⟨by decide +kernel, by decide +kernel⟩, List.mem_of_getElem? (i := 19) (by decide +kernel), List.mem_of_getElem? (i := 464) (by decide +kernel), List.mem_of_getElem? (i := 465) (by decide +kernel)⟩
theorem lw_p7 : lw_okq (⟨"SorryToWin", "hasTable", "(I)Z"⟩, 13) := ⟨⟨by decide +kernel, by decide +kernel⟩, List.mem_of_getElem? (i := 19) (by decide +kernel), List.mem_of_getElem? (i := 510) (by decide +kernel), List.mem_of_getElem? (i := 511) (by decide +kernel)⟩
theorem lw_p8 : lw_okq (⟨"SorryToWin", "bidOf", "(LSorryToWin$Sale;III)I"⟩, 13) := ⟨⟨by decide +kernel, by decide +kernel⟩, List.mem_of_getElem? (i := 19) (by decide +kernel), List.mem_of_getElem? (i := 526) (by decide +kernel), List.mem_of_getElem? (i := 527) (by decide +kernel)⟩
theorem lw_p9 : lw_okq (⟨"SorryToWin", "tallyOf", "(LSorryToWin$Sale;)V"⟩, 13) := ⟨⟨by decide +kernel, by decide +kernel⟩, List.mem_of_getElem? (i := 19) (by decide +kernel), List.mem_of_getElem? (i := 543) (by decide +kernel), List.mem_of_getElem? (i := 544) (by decide +kernel)⟩
theorem lw_p10 : lw_okq (⟨"SorryToWin", "rowOf", "(LSorryToWin$Sale;III)V"⟩, 13) := ⟨⟨by decide +kernel, by decide +kernel⟩, List.mem_of_getElem? (i := 19) (by decide +kernel), List.mem_of_getElem? (i := 547) (by decide +kernel), List.mem_of_getElem? (i := 548) (by decide +kernel)⟩
theorem lw_p11 : lw_okq (⟨"SorryToWin$Crowd", "reckon", "(I)V"⟩, 12) := ⟨⟨by decide +kernel, by decide +kernel⟩, List.mem_of_getElem? (i := 131) (by decide +kernel), List.mem_of_getElem? (i := 572) (by decide +kernel), List.mem_of_getElem? (i := 573) (by decide +kernel)⟩
theorem lw_p12 : lw_okq (⟨"SorryToWin$Crowd", "rank", "()V"⟩, 12) := ⟨⟨by decide +kernel, by decide +kernel⟩, List.mem_of_getElem? (i := 131) (by decide +kernel), List.mem_of_getElem? (i := 576) (by decide +kernel), List.mem_of_getElem? (i := 577) (by decide +kernel)⟩
theorem lw_p13 : lw_okq (⟨"SorryToWin$Tally", "addCases", "(LSorryToWin$Crowd;Z)V"⟩, 7) := ⟨⟨by decide +kernel, by decide +kernel⟩, List.mem_of_getElem? (i := 192) (by decide +kernel), List.mem_of_getElem? (i := 584) (by decide +kernel), List.mem_of_getElem? (i := 585) (by decide +kernel)⟩
theorem lw_p14 : lw_okq (⟨"SorryToWin", "wins", "(LSorryToWin$Sale;II)Z"⟩, 13) := ⟨⟨by decide +kernel, by decide +kernel⟩, List.mem_of_getElem? (i := 19) (by decide +kernel), List.mem_of_getElem? (i := 614) (by decide +kernel), List.mem_of_getElem? (i := 615) (by decide +kernel)⟩
theorem lw_p15 : lw_okq (⟨"SorryToWin", "rowsWithout", "(LSorryToWin$Sale;I)V"⟩, 13) := ⟨⟨by decide +kernel, by decide +kernel⟩, List.mem_of_getElem? (i := 19) (by decide +kernel), List.mem_of_getElem? (i := 626) (by decide +kernel), List.mem_of_getElem? (i := 627) (by decide +kernel)⟩
def lw_privs_1 : List (MethodName × Nat) := [(⟨"SorryToWin$Tape", "skip", "()V"⟩, 5), (⟨"SorryToWin$Tape", "look", "()I"⟩, 5), (⟨"SorryToWin$Tape", "number", "(II)I"⟩, 5), (⟨"SorryToWin$Tape", "digit", "()I"⟩, 5), (⟨"SorryToWin$Tape", "clause", "()V"⟩, 5), (⟨"SorryToWin$Tape", "truthClause", "(I)V"⟩, 5), (⟨"SorryToWin", "saleAt", "(I)LSorryToWin$Sale;"⟩, 13), (⟨"SorryToWin", "hasTable", "(I)Z"⟩, 13), (⟨"SorryToWin", "bidOf", "(LSorryToWin$Sale;III)I"⟩, 13), (⟨"SorryToWin", "tallyOf", "(LSorryToWin$Sale;)V"⟩, 13), (⟨"SorryToWin", "rowOf", "(LSorryToWin$Sale;III)V"⟩, 13), (⟨"SorryToWin$Crowd", "reckon", "(I)V"⟩, 12), (⟨"SorryToWin$Crowd", "rank", "()V"⟩, 12), (⟨"SorryToWin$Tally", "addCases", "(LSorryToWin$Crowd;Z)V"⟩, 7), (⟨"SorryToWin", "wins", "(LSorryToWin$Sale;II)Z"⟩, 13), (⟨"SorryToWin", "rowsWithout", "(LSorryToWin$Sale;I)V"⟩, 13)]
theorem lw_r1 : ∀ q ∈ lw_privs_1, lw_okq q := List.forall_mem_cons.mpr ⟨lw_p0, List.forall_mem_cons.mpr ⟨lw_p1, List.forall_mem_cons.mpr ⟨lw_p2, List.forall_mem_cons.mpr ⟨lw_p3, List.forall_mem_cons.mpr ⟨lw_p4, List.forall_mem_cons.mpr ⟨lw_p5, List.forall_mem_cons.mpr ⟨lw_p6, List.forall_mem_cons.mpr ⟨lw_p7, List.forall_mem_cons.mpr ⟨lw_p8, List.forall_mem_cons.mpr ⟨lw_p9, List.forall_mem_cons.mpr ⟨lw_p10, List.forall_mem_cons.mpr ⟨lw_p11, List.forall_mem_cons.mpr ⟨lw_p12, List.forall_mem_cons.mpr ⟨lw_p13, List.forall_mem_cons.mpr ⟨lw_p14, List.forall_mem_cons.mpr ⟨lw_p15, fun _ h => absurd h List.not_mem_nil⟩⟩⟩⟩⟩⟩⟩⟩⟩⟩⟩⟩⟩⟩⟩⟩
theorem lw_p16 : lw_okq (⟨"SorryToWin", "rivalsBySign", "(LSorryToWin$Sale;I)V"⟩, 13) := ⟨⟨by decide +kernel, by decide +kernel⟩, List.mem_of_getElem? (i := 19) (by decide +kernel), List.mem_of_getElem? (i := 630) (by decide +kernel), List.mem_of_getElem? (i := 631) (by decide +kernel)⟩
theorem lw_p17 : lw_okq (⟨"SorryToWin$Rivals", "addCases", "(LSorryToWin$Crowd;)V"⟩, 5) := ⟨⟨by decide +kernel, by decide +kernel⟩, List.mem_of_getElem? (i := 227) (by decide +kernel), List.mem_of_getElem? (i := 639) (by decide +kernel), List.mem_of_getElem? (i := 640) (by decide +kernel)⟩
theorem lw_p18 : lw_okq (⟨"SorryToWin$Rivals", "reckon", "(II)V"⟩, 5) := ⟨⟨by decide +kernel, by decide +kernel⟩, List.mem_of_getElem? (i := 227) (by decide +kernel), List.mem_of_getElem? (i := 644) (by decide +kernel), List.mem_of_getElem? (i := 645) (by decide +kernel)⟩
theorem lw_p19 : lw_okq (⟨"SorryToWin$Turns", "keep", "()V"⟩, 6) := ⟨⟨by decide +kernel, by decide +kernel⟩, List.mem_of_getElem? (i := 262) (by decide +kernel), List.mem_of_getElem? (i := 674) (by decide +kernel), List.mem_of_getElem? (i := 675) (by decide +kernel)⟩
theorem lw_p20 : lw_okq (⟨"SorryToWin", "turnOf", "(LSorryToWin$Sale;)V"⟩, 13) := ⟨⟨by decide +kernel, by decide +kernel⟩, List.mem_of_getElem? (i := 19) (by decide +kernel), List.mem_of_getElem? (i := 682) (by decide +kernel), List.mem_of_getElem? (i := 683) (by decide +kernel)⟩
theorem lw_p21 : lw_okq (⟨"SorryToWin$Turns", "isRow", "(I)Z"⟩, 6) := ⟨⟨by decide +kernel, by decide +kernel⟩, List.mem_of_getElem? (i := 262) (by decide +kernel), List.mem_of_getElem? (i := 690) (by decide +kernel), List.mem_of_getElem? (i := 691) (by decide +kernel)⟩
theorem lw_p22 : lw_okq (⟨"SorryToWin", "rowsAlike", "(LSorryToWin$Sale;IZ)V"⟩, 13) := ⟨⟨by decide +kernel, by decide +kernel⟩, List.mem_of_getElem? (i := 19) (by decide +kernel), List.mem_of_getElem? (i := 698) (by decide +kernel), List.mem_of_getElem? (i := 699) (by decide +kernel)⟩
theorem lw_p23 : lw_okq (⟨"SorryToWin", "rivalsByTruth", "(LSorryToWin$Sale;I)V"⟩, 13) := ⟨⟨by decide +kernel, by decide +kernel⟩, List.mem_of_getElem? (i := 19) (by decide +kernel), List.mem_of_getElem? (i := 727) (by decide +kernel), List.mem_of_getElem? (i := 728) (by decide +kernel)⟩
theorem lw_p24 : lw_okq (⟨"SorryToWin", "laidFor", "(LSorryToWin$Sale;)Z"⟩, 13) := ⟨⟨by decide +kernel, by decide +kernel⟩, List.mem_of_getElem? (i := 19) (by decide +kernel), List.mem_of_getElem? (i := 752) (by decide +kernel), List.mem_of_getElem? (i := 753) (by decide +kernel)⟩
theorem lw_p25 : lw_okq (⟨"SorryToWin$Rising", "oneLeaves", "(LSorryToWin$Sale;[I)V"⟩, 7) := ⟨⟨by decide +kernel, by decide +kernel⟩, List.mem_of_getElem? (i := 290) (by decide +kernel), List.mem_of_getElem? (i := 760) (by decide +kernel), List.mem_of_getElem? (i := 761) (by decide +kernel)⟩
theorem lw_p26 : lw_okq (⟨"SorryToWin$Rising", "limitOf", "(LSorryToWin$Sale;[II)I"⟩, 7) := ⟨⟨by decide +kernel, by decide +kernel⟩, List.mem_of_getElem? (i := 290) (by decide +kernel), List.mem_of_getElem? (i := 764) (by decide +kernel), List.mem_of_getElem? (i := 765) (by decide +kernel)⟩
theorem lw_p27 : lw_okq (⟨"SorryToWin$Learner", "drawTruth", "()I"⟩, 8) := ⟨⟨by decide +kernel, by decide +kernel⟩, List.mem_of_getElem? (i := 323) (by decide +kernel), List.mem_of_getElem? (i := 788) (by decide +kernel), List.mem_of_getElem? (i := 789) (by decide +kernel)⟩
theorem lw_p28 : lw_okq (⟨"SorryToWin$Learner", "draw", "(I)I"⟩, 8) := ⟨⟨by decide +kernel, by decide +kernel⟩, List.mem_of_getElem? (i := 323) (by decide +kernel), List.mem_of_getElem? (i := 793) (by decide +kernel), List.mem_of_getElem? (i := 794) (by decide +kernel)⟩
theorem lw_p29 : lw_okq (⟨"SorryToWin$Learner", "drawSign", "(I)I"⟩, 8) := ⟨⟨by decide +kernel, by decide +kernel⟩, List.mem_of_getElem? (i := 323) (by decide +kernel), List.mem_of_getElem? (i := 799) (by decide +kernel), List.mem_of_getElem? (i := 800) (by decide +kernel)⟩
theorem lw_p30 : lw_okq (⟨"SorryToWin$Learner", "highest", "(I)I"⟩, 8) := ⟨⟨by decide +kernel, by decide +kernel⟩, List.mem_of_getElem? (i := 323) (by decide +kernel), List.mem_of_getElem? (i := 804) (by decide +kernel), List.mem_of_getElem? (i := 805) (by decide +kernel)⟩
theorem lw_p31 : lw_okq (⟨"SorryToWin$Learner", "bidNow", "(I)I"⟩, 8) := ⟨⟨by decide +kernel, by decide +kernel⟩, List.mem_of_getElem? (i := 323) (by decide +kernel), List.mem_of_getElem? (i := 808) (by decide +kernel), List.mem_of_getElem? (i := 809) (by decide +kernel)⟩
def lw_privs_2 : List (MethodName × Nat) := [(⟨"SorryToWin", "rivalsBySign", "(LSorryToWin$Sale;I)V"⟩, 13), (⟨"SorryToWin$Rivals", "addCases", "(LSorryToWin$Crowd;)V"⟩, 5), (⟨"SorryToWin$Rivals", "reckon", "(II)V"⟩, 5), (⟨"SorryToWin$Turns", "keep", "()V"⟩, 6), (⟨"SorryToWin", "turnOf", "(LSorryToWin$Sale;)V"⟩, 13), (⟨"SorryToWin$Turns", "isRow", "(I)Z"⟩, 6), (⟨"SorryToWin", "rowsAlike", "(LSorryToWin$Sale;IZ)V"⟩, 13), (⟨"SorryToWin", "rivalsByTruth", "(LSorryToWin$Sale;I)V"⟩, 13), (⟨"SorryToWin", "laidFor", "(LSorryToWin$Sale;)Z"⟩, 13), (⟨"SorryToWin$Rising", "oneLeaves", "(LSorryToWin$Sale;[I)V"⟩, 7), (⟨"SorryToWin$Rising", "limitOf", "(LSorryToWin$Sale;[II)I"⟩, 7), (⟨"SorryToWin$Learner", "drawTruth", "()I"⟩, 8), (⟨"SorryToWin$Learner", "draw", "(I)I"⟩, 8), (⟨"SorryToWin$Learner", "drawSign", "(I)I"⟩, 8), (⟨"SorryToWin$Learner", "highest", "(I)I"⟩, 8), (⟨"SorryToWin$Learner", "bidNow", "(I)I"⟩, 8)]
theorem lw_r2 : ∀ q ∈ lw_privs_2, lw_okq q := List.forall_mem_cons.mpr ⟨lw_p16, List.forall_mem_cons.mpr ⟨lw_p17, List.forall_mem_cons.mpr ⟨lw_p18, List.forall_mem_cons.mpr ⟨lw_p19, List.forall_mem_cons.mpr ⟨lw_p20, List.forall_mem_cons.mpr ⟨lw_p21, List.forall_mem_cons.mpr ⟨lw_p22, List.forall_mem_cons.mpr ⟨lw_p23, List.forall_mem_cons.mpr ⟨lw_p24, List.forall_mem_cons.mpr ⟨lw_p25, List.forall_mem_cons.mpr ⟨lw_p26, List.forall_mem_cons.mpr ⟨lw_p27, List.forall_mem_cons.mpr ⟨lw_p28, List.forall_mem_cons.mpr ⟨lw_p29, List.forall_mem_cons.mpr ⟨lw_p30, List.forall_mem_cons.mpr ⟨lw_p31, fun _ h => absurd h List.not_mem_nil⟩⟩⟩⟩⟩⟩⟩⟩⟩⟩⟩⟩⟩⟩⟩⟩
theorem lw_p32 : lw_okq (⟨"SorryToWin$Learner", "noneBids", "(I)V"⟩, 8) := ⟨⟨by decide +kernel, by decide +kernel⟩, List.mem_of_getElem? (i := 323) (by decide +kernel), List.mem_of_getElem? (i := 812) (by decide +kernel), List.mem_of_getElem? (i := 813) (by decide +kernel)⟩
theorem lw_p33 : lw_okq (⟨"SorryToWin$Learner", "move", "(II)V"⟩, 8) := ⟨⟨by decide +kernel, by decide +kernel⟩, List.mem_of_getElem? (i := 323) (by decide +kernel), List.mem_of_getElem? (i := 816) (by decide +kernel), List.mem_of_getElem? (i := 817) (by decide +kernel)⟩
theorem lw_p34 : lw_okq (⟨"SorryToWin$Learner", "drawWinner", "(I)I"⟩, 8) := ⟨⟨by decide +kernel, by decide +kernel⟩, List.mem_of_getElem? (i := 323) (by decide +kernel), List.mem_of_getElem? (i := 824) (by decide +kernel), List.mem_of_getElem? (i := 825) (by decide +kernel)⟩
theorem lw_p35 : lw_okq (⟨"SorryToWin$Learner", "oneWins", "(II)V"⟩, 8) := ⟨⟨by decide +kernel, by decide +kernel⟩, List.mem_of_getElem? (i := 323) (by decide +kernel), List.mem_of_getElem? (i := 828) (by decide +kernel), List.mem_of_getElem? (i := 829) (by decide +kernel)⟩
theorem lw_p36 : lw_okq (⟨"java/lang/Throwable", "fillInStackTrace", "(I)Ljava/lang/Throwable;"⟩, 6) := ⟨⟨by decide +kernel, by decide +kernel⟩, List.mem_of_getElem? (i := 884) (by decide +kernel), List.mem_of_getElem? (i := 882) (by decide +kernel), List.mem_of_getElem? (i := 883) (by decide +kernel)⟩
theorem lw_p37 : lw_okq (⟨"SorryToWinModel", "readSale", "(I)I"⟩, 54) := ⟨⟨by decide +kernel, by decide +kernel⟩, List.mem_of_getElem? (i := 924) (by decide +kernel), List.mem_of_getElem? (i := 1112) (by decide +kernel), List.mem_of_getElem? (i := 1113) (by decide +kernel)⟩
theorem lw_p38 : lw_okq (⟨"SorryToWinModel", "look", "()I"⟩, 54) := ⟨⟨by decide +kernel, by decide +kernel⟩, List.mem_of_getElem? (i := 924) (by decide +kernel), List.mem_of_getElem? (i := 1116) (by decide +kernel), List.mem_of_getElem? (i := 1117) (by decide +kernel)⟩
theorem lw_p39 : lw_okq (⟨"SorryToWinModel", "here", "()I"⟩, 54) := ⟨⟨by decide +kernel, by decide +kernel⟩, List.mem_of_getElem? (i := 924) (by decide +kernel), List.mem_of_getElem? (i := 1120) (by decide +kernel), List.mem_of_getElem? (i := 1121) (by decide +kernel)⟩
theorem lw_p40 : lw_okq (⟨"SorryToWinModel", "bad", "()V"⟩, 54) := ⟨⟨by decide +kernel, by decide +kernel⟩, List.mem_of_getElem? (i := 924) (by decide +kernel), List.mem_of_getElem? (i := 1124) (by decide +kernel), List.mem_of_getElem? (i := 1125) (by decide +kernel)⟩
theorem lw_p41 : lw_okq (⟨"SorryToWinModel", "number", "(II)I"⟩, 54) := ⟨⟨by decide +kernel, by decide +kernel⟩, List.mem_of_getElem? (i := 924) (by decide +kernel), List.mem_of_getElem? (i := 1128) (by decide +kernel), List.mem_of_getElem? (i := 1129) (by decide +kernel)⟩
theorem lw_p42 : lw_okq (⟨"SorryToWinModel", "statement", "(I)V"⟩, 54) := ⟨⟨by decide +kernel, by decide +kernel⟩, List.mem_of_getElem? (i := 924) (by decide +kernel), List.mem_of_getElem? (i := 1138) (by decide +kernel), List.mem_of_getElem? (i := 1139) (by decide +kernel)⟩
theorem lw_p43 : lw_okq (⟨"SorryToWinModel", "readTruth", "(I)V"⟩, 54) := ⟨⟨by decide +kernel, by decide +kernel⟩, List.mem_of_getElem? (i := 924) (by decide +kernel), List.mem_of_getElem? (i := 1142) (by decide +kernel), List.mem_of_getElem? (i := 1143) (by decide +kernel)⟩
theorem lw_p44 : lw_okq (⟨"SorryToWinModel", "isSale", "(I)Z"⟩, 54) := ⟨⟨by decide +kernel, by decide +kernel⟩, List.mem_of_getElem? (i := 924) (by decide +kernel), List.mem_of_getElem? (i := 1154) (by decide +kernel), List.mem_of_getElem? (i := 1155) (by decide +kernel)⟩
theorem lw_p45 : lw_okq (⟨"SorryToWinModel", "allWeights", "(I)I"⟩, 54) := ⟨⟨by decide +kernel, by decide +kernel⟩, List.mem_of_getElem? (i := 924) (by decide +kernel), List.mem_of_getElem? (i := 1158) (by decide +kernel), List.mem_of_getElem? (i := 1159) (by decide +kernel)⟩
theorem lw_p46 : lw_okq (⟨"SorryToWinModel", "isSign", "(II)Z"⟩, 54) := ⟨⟨by decide +kernel, by decide +kernel⟩, List.mem_of_getElem? (i := 924) (by decide +kernel), List.mem_of_getElem? (i := 1174) (by decide +kernel), List.mem_of_getElem? (i := 1175) (by decide +kernel)⟩
theorem lw_p47 : lw_okq (⟨"SorryToWinModel", "isSignOrNone", "(II)Z"⟩, 54) := ⟨⟨by decide +kernel, by decide +kernel⟩, List.mem_of_getElem? (i := 924) (by decide +kernel), List.mem_of_getElem? (i := 1178) (by decide +kernel), List.mem_of_getElem? (i := 1179) (by decide +kernel)⟩
def lw_privs_3 : List (MethodName × Nat) := [(⟨"SorryToWin$Learner", "noneBids", "(I)V"⟩, 8), (⟨"SorryToWin$Learner", "move", "(II)V"⟩, 8), (⟨"SorryToWin$Learner", "drawWinner", "(I)I"⟩, 8), (⟨"SorryToWin$Learner", "oneWins", "(II)V"⟩, 8), (⟨"java/lang/Throwable", "fillInStackTrace", "(I)Ljava/lang/Throwable;"⟩, 6), (⟨"SorryToWinModel", "readSale", "(I)I"⟩, 54), (⟨"SorryToWinModel", "look", "()I"⟩, 54), (⟨"SorryToWinModel", "here", "()I"⟩, 54), (⟨"SorryToWinModel", "bad", "()V"⟩, 54), (⟨"SorryToWinModel", "number", "(II)I"⟩, 54), (⟨"SorryToWinModel", "statement", "(I)V"⟩, 54), (⟨"SorryToWinModel", "readTruth", "(I)V"⟩, 54), (⟨"SorryToWinModel", "isSale", "(I)Z"⟩, 54), (⟨"SorryToWinModel", "allWeights", "(I)I"⟩, 54), (⟨"SorryToWinModel", "isSign", "(II)Z"⟩, 54), (⟨"SorryToWinModel", "isSignOrNone", "(II)Z"⟩, 54)]
theorem lw_r3 : ∀ q ∈ lw_privs_3, lw_okq q := List.forall_mem_cons.mpr ⟨lw_p32, List.forall_mem_cons.mpr ⟨lw_p33, List.forall_mem_cons.mpr ⟨lw_p34, List.forall_mem_cons.mpr ⟨lw_p35, List.forall_mem_cons.mpr ⟨lw_p36, List.forall_mem_cons.mpr ⟨lw_p37, List.forall_mem_cons.mpr ⟨lw_p38, List.forall_mem_cons.mpr ⟨lw_p39, List.forall_mem_cons.mpr ⟨lw_p40, List.forall_mem_cons.mpr ⟨lw_p41, List.forall_mem_cons.mpr ⟨lw_p42, List.forall_mem_cons.mpr ⟨lw_p43, List.forall_mem_cons.mpr ⟨lw_p44, List.forall_mem_cons.mpr ⟨lw_p45, List.forall_mem_cons.mpr ⟨lw_p46, List.forall_mem_cons.mpr ⟨lw_p47, fun _ h => absurd h List.not_mem_nil⟩⟩⟩⟩⟩⟩⟩⟩⟩⟩⟩⟩⟩⟩⟩⟩
theorem lw_p48 : lw_okq (⟨"SorryToWinModel", "see", "(IIII)V"⟩, 54) := ⟨⟨by decide +kernel, by decide +kernel⟩, List.mem_of_getElem? (i := 924) (by decide +kernel), List.mem_of_getElem? (i := 1182) (by decide +kernel), List.mem_of_getElem? (i := 1183) (by decide +kernel)⟩
theorem lw_p49 : lw_okq (⟨"SorryToWinModel", "weigh", "(I)V"⟩, 54) := ⟨⟨by decide +kernel, by decide +kernel⟩, List.mem_of_getElem? (i := 924) (by decide +kernel), List.mem_of_getElem? (i := 1186) (by decide +kernel), List.mem_of_getElem? (i := 1187) (by decide +kernel)⟩
theorem lw_p50 : lw_okq (⟨"SorryToWinModel", "isSeat", "(II)Z"⟩, 54) := ⟨⟨by decide +kernel, by decide +kernel⟩, List.mem_of_getElem? (i := 924) (by decide +kernel), List.mem_of_getElem? (i := 1215) (by decide +kernel), List.mem_of_getElem? (i := 1216) (by decide +kernel)⟩
theorem lw_p51 : lw_okq (⟨"SorryToWinModel", "begin", "(I)V"⟩, 54) := ⟨⟨by decide +kernel, by decide +kernel⟩, List.mem_of_getElem? (i := 924) (by decide +kernel), List.mem_of_getElem? (i := 1219) (by decide +kernel), List.mem_of_getElem? (i := 1220) (by decide +kernel)⟩
theorem lw_p52 : lw_okq (⟨"SorryToWinModel", "fill", "(II)V"⟩, 54) := ⟨⟨by decide +kernel, by decide +kernel⟩, List.mem_of_getElem? (i := 924) (by decide +kernel), List.mem_of_getElem? (i := 1223) (by decide +kernel), List.mem_of_getElem? (i := 1224) (by decide +kernel)⟩
theorem lw_p53 : lw_okq (⟨"SorryToWinModel", "bidBy", "(IIII)I"⟩, 54) := ⟨⟨by decide +kernel, by decide +kernel⟩, List.mem_of_getElem? (i := 924) (by decide +kernel), List.mem_of_getElem? (i := 1227) (by decide +kernel), List.mem_of_getElem? (i := 1228) (by decide +kernel)⟩
theorem lw_p54 : lw_okq (⟨"SorryToWinModel", "held", "(IIII)I"⟩, 54) := ⟨⟨by decide +kernel, by decide +kernel⟩, List.mem_of_getElem? (i := 924) (by decide +kernel), List.mem_of_getElem? (i := 1231) (by decide +kernel), List.mem_of_getElem? (i := 1232) (by decide +kernel)⟩
theorem lw_p55 : lw_okq (⟨"SorryToWinModel", "heldNow", "(I)I"⟩, 54) := ⟨⟨by decide +kernel, by decide +kernel⟩, List.mem_of_getElem? (i := 924) (by decide +kernel), List.mem_of_getElem? (i := 1235) (by decide +kernel), List.mem_of_getElem? (i := 1236) (by decide +kernel)⟩
theorem lw_p56 : lw_okq (⟨"SorryToWinModel", "ask", "(III)V"⟩, 54) := ⟨⟨by decide +kernel, by decide +kernel⟩, List.mem_of_getElem? (i := 924) (by decide +kernel), List.mem_of_getElem? (i := 1244) (by decide +kernel), List.mem_of_getElem? (i := 1245) (by decide +kernel)⟩
theorem lw_p57 : lw_okq (⟨"SorryToWinModel", "goThrough", "(II)V"⟩, 54) := ⟨⟨by decide +kernel, by decide +kernel⟩, List.mem_of_getElem? (i := 924) (by decide +kernel), List.mem_of_getElem? (i := 1248) (by decide +kernel), List.mem_of_getElem? (i := 1249) (by decide +kernel)⟩
theorem lw_p58 : lw_okq (⟨"SorryToWinModel", "lay", "(I)V"⟩, 54) := ⟨⟨by decide +kernel, by decide +kernel⟩, List.mem_of_getElem? (i := 924) (by decide +kernel), List.mem_of_getElem? (i := 1252) (by decide +kernel), List.mem_of_getElem? (i := 1253) (by decide +kernel)⟩
theorem lw_p59 : lw_okq (⟨"SorryToWinModel", "settle", "()V"⟩, 54) := ⟨⟨by decide +kernel, by decide +kernel⟩, List.mem_of_getElem? (i := 924) (by decide +kernel), List.mem_of_getElem? (i := 1256) (by decide +kernel), List.mem_of_getElem? (i := 1257) (by decide +kernel)⟩
theorem lw_p60 : lw_okq (⟨"SorryToWinModel", "count", "(II)V"⟩, 54) := ⟨⟨by decide +kernel, by decide +kernel⟩, List.mem_of_getElem? (i := 924) (by decide +kernel), List.mem_of_getElem? (i := 1261) (by decide +kernel), List.mem_of_getElem? (i := 1262) (by decide +kernel)⟩
theorem lw_p61 : lw_okq (⟨"SorryToWinModel", "taken", "()J"⟩, 54) := ⟨⟨by decide +kernel, by decide +kernel⟩, List.mem_of_getElem? (i := 924) (by decide +kernel), List.mem_of_getElem? (i := 1266) (by decide +kernel), List.mem_of_getElem? (i := 1267) (by decide +kernel)⟩
theorem lw_p62 : lw_okq (⟨"SorryToWinModel", "pays", "()I"⟩, 54) := ⟨⟨by decide +kernel, by decide +kernel⟩, List.mem_of_getElem? (i := 924) (by decide +kernel), List.mem_of_getElem? (i := 1270) (by decide +kernel), List.mem_of_getElem? (i := 1271) (by decide +kernel)⟩
theorem lw_p63 : lw_okq (⟨"SorryToWinModel", "gains", "(II)J"⟩, 54) := ⟨⟨by decide +kernel, by decide +kernel⟩, List.mem_of_getElem? (i := 924) (by decide +kernel), List.mem_of_getElem? (i := 1274) (by decide +kernel), List.mem_of_getElem? (i := 1275) (by decide +kernel)⟩
def lw_privs_4 : List (MethodName × Nat) := [(⟨"SorryToWinModel", "see", "(IIII)V"⟩, 54), (⟨"SorryToWinModel", "weigh", "(I)V"⟩, 54), (⟨"SorryToWinModel", "isSeat", "(II)Z"⟩, 54), (⟨"SorryToWinModel", "begin", "(I)V"⟩, 54), (⟨"SorryToWinModel", "fill", "(II)V"⟩, 54), (⟨"SorryToWinModel", "bidBy", "(IIII)I"⟩, 54), (⟨"SorryToWinModel", "held", "(IIII)I"⟩, 54), (⟨"SorryToWinModel", "heldNow", "(I)I"⟩, 54), (⟨"SorryToWinModel", "ask", "(III)V"⟩, 54), (⟨"SorryToWinModel", "goThrough", "(II)V"⟩, 54), (⟨"SorryToWinModel", "lay", "(I)V"⟩, 54), (⟨"SorryToWinModel", "settle", "()V"⟩, 54), (⟨"SorryToWinModel", "count", "(II)V"⟩, 54), (⟨"SorryToWinModel", "taken", "()J"⟩, 54), (⟨"SorryToWinModel", "pays", "()I"⟩, 54), (⟨"SorryToWinModel", "gains", "(II)J"⟩, 54)]
theorem lw_r4 : ∀ q ∈ lw_privs_4, lw_okq q := List.forall_mem_cons.mpr ⟨lw_p48, List.forall_mem_cons.mpr ⟨lw_p49, List.forall_mem_cons.mpr ⟨lw_p50, List.forall_mem_cons.mpr ⟨lw_p51, List.forall_mem_cons.mpr ⟨lw_p52, List.forall_mem_cons.mpr ⟨lw_p53, List.forall_mem_cons.mpr ⟨lw_p54, List.forall_mem_cons.mpr ⟨lw_p55, List.forall_mem_cons.mpr ⟨lw_p56, List.forall_mem_cons.mpr ⟨lw_p57, List.forall_mem_cons.mpr ⟨lw_p58, List.forall_mem_cons.mpr ⟨lw_p59, List.forall_mem_cons.mpr ⟨lw_p60, List.forall_mem_cons.mpr ⟨lw_p61, List.forall_mem_cons.mpr ⟨lw_p62, List.forall_mem_cons.mpr ⟨lw_p63, fun _ h => absurd h List.not_mem_nil⟩⟩⟩⟩⟩⟩⟩⟩⟩⟩⟩⟩⟩⟩⟩⟩
theorem lw_p64 : lw_okq (⟨"SorryToWinModel", "findWon", "(III)Z"⟩, 54) := ⟨⟨by decide +kernel, by decide +kernel⟩, List.mem_of_getElem? (i := 924) (by decide +kernel), List.mem_of_getElem? (i := 1287) (by decide +kernel), List.mem_of_getElem? (i := 1288) (by decide +kernel)⟩
theorem lw_p65 : lw_okq (⟨"SorryToWinModel", "bestOf", "(III)I"⟩, 54) := ⟨⟨by decide +kernel, by decide +kernel⟩, List.mem_of_getElem? (i := 924) (by decide +kernel), List.mem_of_getElem? (i := 1299) (by decide +kernel), List.mem_of_getElem? (i := 1300) (by decide +kernel)⟩
theorem lw_p66 : lw_okq (⟨"SorryToWinModel", "gainBy", "(IIII)J"⟩, 54) := ⟨⟨by decide +kernel, by decide +kernel⟩, List.mem_of_getElem? (i := 924) (by decide +kernel), List.mem_of_getElem? (i := 1303) (by decide +kernel), List.mem_of_getElem? (i := 1304) (by decide +kernel)⟩
theorem lw_p67 : lw_okq (⟨"SorryToWinModel", "fillAll", "(II)V"⟩, 54) := ⟨⟨by decide +kernel, by decide +kernel⟩, List.mem_of_getElem? (i := 924) (by decide +kernel), List.mem_of_getElem? (i := 1315) (by decide +kernel), List.mem_of_getElem? (i := 1316) (by decide +kernel)⟩
theorem lw_p68 : lw_okq (⟨"SorryToWinModel", "keep", "(II)V"⟩, 54) := ⟨⟨by decide +kernel, by decide +kernel⟩, List.mem_of_getElem? (i := 924) (by decide +kernel), List.mem_of_getElem? (i := 1319) (by decide +kernel), List.mem_of_getElem? (i := 1320) (by decide +kernel)⟩
theorem lw_p69 : lw_okq (⟨"SorryToWinModel", "turns", "(I)I"⟩, 54) := ⟨⟨by decide +kernel, by decide +kernel⟩, List.mem_of_getElem? (i := 924) (by decide +kernel), List.mem_of_getElem? (i := 1323) (by decide +kernel), List.mem_of_getElem? (i := 1324) (by decide +kernel)⟩
theorem lw_p70 : lw_okq (⟨"SorryToWinModel", "isKept", "(II)Z"⟩, 54) := ⟨⟨by decide +kernel, by decide +kernel⟩, List.mem_of_getElem? (i := 924) (by decide +kernel), List.mem_of_getElem? (i := 1327) (by decide +kernel), List.mem_of_getElem? (i := 1328) (by decide +kernel)⟩
theorem lw_p71 : lw_okq (⟨"SorryToWinModel", "sell", "(IIII)V"⟩, 54) := ⟨⟨by decide +kernel, by decide +kernel⟩, List.mem_of_getElem? (i := 924) (by decide +kernel), List.mem_of_getElem? (i := 1335) (by decide +kernel), List.mem_of_getElem? (i := 1336) (by decide +kernel)⟩
theorem lw_p72 : lw_okq (⟨"SorryToWinModel", "nearBest", "(II)I"⟩, 54) := ⟨⟨by decide +kernel, by decide +kernel⟩, List.mem_of_getElem? (i := 924) (by decide +kernel), List.mem_of_getElem? (i := 1351) (by decide +kernel), List.mem_of_getElem? (i := 1352) (by decide +kernel)⟩
theorem lw_p73 : lw_okq (⟨"SorryToWinModel", "nearBy", "(III)J"⟩, 54) := ⟨⟨by decide +kernel, by decide +kernel⟩, List.mem_of_getElem? (i := 924) (by decide +kernel), List.mem_of_getElem? (i := 1355) (by decide +kernel), List.mem_of_getElem? (i := 1356) (by decide +kernel)⟩
theorem lw_p74 : lw_okq (⟨"SorryToWinModel", "rise", "(I)Z"⟩, 54) := ⟨⟨by decide +kernel, by decide +kernel⟩, List.mem_of_getElem? (i := 924) (by decide +kernel), List.mem_of_getElem? (i := 1375) (by decide +kernel), List.mem_of_getElem? (i := 1376) (by decide +kernel)⟩
theorem lw_p75 : lw_okq (⟨"SorryToWinModel", "heldOf", "(III)I"⟩, 54) := ⟨⟨by decide +kernel, by decide +kernel⟩, List.mem_of_getElem? (i := 924) (by decide +kernel), List.mem_of_getElem? (i := 1385) (by decide +kernel), List.mem_of_getElem? (i := 1386) (by decide +kernel)⟩
theorem lw_p76 : lw_okq (⟨"SorryToWinModel", "round", "(I)Z"⟩, 54) := ⟨⟨by decide +kernel, by decide +kernel⟩, List.mem_of_getElem? (i := 924) (by decide +kernel), List.mem_of_getElem? (i := 1401) (by decide +kernel), List.mem_of_getElem? (i := 1402) (by decide +kernel)⟩
theorem lw_p77 : lw_okq (⟨"SorryToWinModel", "drawTruth", "(I)I"⟩, 54) := ⟨⟨by decide +kernel, by decide +kernel⟩, List.mem_of_getElem? (i := 924) (by decide +kernel), List.mem_of_getElem? (i := 1405) (by decide +kernel), List.mem_of_getElem? (i := 1406) (by decide +kernel)⟩
theorem lw_p78 : lw_okq (⟨"SorryToWinModel", "draw", "(I)I"⟩, 54) := ⟨⟨by decide +kernel, by decide +kernel⟩, List.mem_of_getElem? (i := 924) (by decide +kernel), List.mem_of_getElem? (i := 1409) (by decide +kernel), List.mem_of_getElem? (i := 1410) (by decide +kernel)⟩
theorem lw_p79 : lw_okq (⟨"SorryToWinModel", "drawSign", "(II)I"⟩, 54) := ⟨⟨by decide +kernel, by decide +kernel⟩, List.mem_of_getElem? (i := 924) (by decide +kernel), List.mem_of_getElem? (i := 1415) (by decide +kernel), List.mem_of_getElem? (i := 1416) (by decide +kernel)⟩
def lw_privs_5 : List (MethodName × Nat) := [(⟨"SorryToWinModel", "findWon", "(III)Z"⟩, 54), (⟨"SorryToWinModel", "bestOf", "(III)I"⟩, 54), (⟨"SorryToWinModel", "gainBy", "(IIII)J"⟩, 54), (⟨"SorryToWinModel", "fillAll", "(II)V"⟩, 54), (⟨"SorryToWinModel", "keep", "(II)V"⟩, 54), (⟨"SorryToWinModel", "turns", "(I)I"⟩, 54), (⟨"SorryToWinModel", "isKept", "(II)Z"⟩, 54), (⟨"SorryToWinModel", "sell", "(IIII)V"⟩, 54), (⟨"SorryToWinModel", "nearBest", "(II)I"⟩, 54), (⟨"SorryToWinModel", "nearBy", "(III)J"⟩, 54), (⟨"SorryToWinModel", "rise", "(I)Z"⟩, 54), (⟨"SorryToWinModel", "heldOf", "(III)I"⟩, 54), (⟨"SorryToWinModel", "round", "(I)Z"⟩, 54), (⟨"SorryToWinModel", "drawTruth", "(I)I"⟩, 54), (⟨"SorryToWinModel", "draw", "(I)I"⟩, 54), (⟨"SorryToWinModel", "drawSign", "(II)I"⟩, 54)]
theorem lw_r5 : ∀ q ∈ lw_privs_5, lw_okq q := List.forall_mem_cons.mpr ⟨lw_p64, List.forall_mem_cons.mpr ⟨lw_p65, List.forall_mem_cons.mpr ⟨lw_p66, List.forall_mem_cons.mpr ⟨lw_p67, List.forall_mem_cons.mpr ⟨lw_p68, List.forall_mem_cons.mpr ⟨lw_p69, List.forall_mem_cons.mpr ⟨lw_p70, List.forall_mem_cons.mpr ⟨lw_p71, List.forall_mem_cons.mpr ⟨lw_p72, List.forall_mem_cons.mpr ⟨lw_p73, List.forall_mem_cons.mpr ⟨lw_p74, List.forall_mem_cons.mpr ⟨lw_p75, List.forall_mem_cons.mpr ⟨lw_p76, List.forall_mem_cons.mpr ⟨lw_p77, List.forall_mem_cons.mpr ⟨lw_p78, List.forall_mem_cons.mpr ⟨lw_p79, fun _ h => absurd h List.not_mem_nil⟩⟩⟩⟩⟩⟩⟩⟩⟩⟩⟩⟩⟩⟩⟩⟩
theorem lw_p80 : lw_okq (⟨"SorryToWinModel", "change", "(II)V"⟩, 54) := ⟨⟨by decide +kernel, by decide +kernel⟩, List.mem_of_getElem? (i := 924) (by decide +kernel), List.mem_of_getElem? (i := 1419) (by decide +kernel), List.mem_of_getElem? (i := 1420) (by decide +kernel)⟩
def lw_privs_6 : List (MethodName × Nat) := [(⟨"SorryToWinModel", "change", "(II)V"⟩, 54)]
theorem lw_r6 : ∀ q ∈ lw_privs_6, lw_okq q := List.forall_mem_cons.mpr ⟨lw_p80, fun _ h => absurd h List.not_mem_nil⟩
def lw_privs : List (MethodName × Nat) := lw_privs_1 ++ (lw_privs_2 ++ (lw_privs_3 ++ (lw_privs_4 ++ (lw_privs_5 ++ (lw_privs_6)))))
def lw_tbl : List Cond := k2_sels lw_privs ++ tables_1
theorem lw_privs_ok : ∀ q ∈ lw_privs, lw_okq q := by
  show ∀ q ∈ lw_privs_1 ++ (lw_privs_2 ++ (lw_privs_3 ++ (lw_privs_4 ++ (lw_privs_5 ++ (lw_privs_6))))), lw_okq q
  exact List.forall_mem_append.mpr ⟨lw_r1, List.forall_mem_append.mpr ⟨lw_r2, List.forall_mem_append.mpr ⟨lw_r3, List.forall_mem_append.mpr ⟨lw_r4, List.forall_mem_append.mpr ⟨lw_r5, lw_r6⟩⟩⟩⟩⟩
end
section
/-! names, words, fields: begun from the text that the kit prints of the program -/
def RX0 : String := "SorryToWin$Bars"
def TX0 : u_T := fun k => match k with
  | 0 => ("SorryToWin$Bars", "high", "[J", true)
  | _ => ("SorryToWin$Bars", "next", "[J", true)
def tyX0 : Nat → FieldType := fun k => match k with
  | 0 => .array .long
  | _ => .array .long
theorem nmX0 : ∀ a, a < 2 → ∀ b, b < 2 → a ≠ b → (TX0 a).2.1 ≠ (TX0 b).2.1 := by decide +kernel
theorem tyX0_ok : ∀ k, k < 2 → parseFieldDescriptor (TX0 k).2.2.1 = some (tyX0 k) := by decide +kernel
abbrev cX0_init : ByteArray := prog_2_method_1_code
def yX0_init : MethodName := ⟨RX0, "<init>", "()V"⟩
abbrev cX0_gather : ByteArray := prog_2_method_2_code
def yX0_gather : MethodName := ⟨RX0, "gather", "(LSorryToWin$Crowd;LSorryToWin$Sale;)V"⟩
abbrev cX0_addTo : ByteArray := prog_2_method_3_code
def yX0_addTo : MethodName := ⟨RX0, "addTo", "([JIJ)V"⟩
abbrev cX0_pick : ByteArray := prog_2_method_4_code
def yX0_pick : MethodName := ⟨RX0, "pick", "()I"⟩
def RX1 : String := "SorryToWin$Crowd"
def TX1 : u_T := fun k => match k with
  | 0 => ("SorryToWin$Crowd", "row", "[I", true)
  | 1 => ("SorryToWin$Crowd", "sign", "[I", true)
  | 2 => ("SorryToWin$Crowd", "part", "[J", true)
  | 3 => ("SorryToWin$Crowd", "of", "LSorryToWin$Sale;", false)
  | 4 => ("SorryToWin$Crowd", "bidders", "I", false)
  | 5 => ("SorryToWin$Crowd", "least", "I", false)
  | 6 => ("SorryToWin$Crowd", "weight", "J", false)
  | 7 => ("SorryToWin$Crowd", "worth", "J", false)
  | 8 => ("SorryToWin$Crowd", "high", "I", false)
  | 9 => ("SorryToWin$Crowd", "alike", "I", false)
  | 10 => ("SorryToWin$Crowd", "next", "I", false)
  | _ => ("SorryToWin$Crowd", "sum", "I", false)
def tyX1 : Nat → FieldType := fun k => match k with
  | 0 => .array .int
  | 1 => .array .int
  | 2 => .array .long
  | 3 => .object "SorryToWin$Sale"
  | 4 => .int
  | 5 => .int
  | 6 => .long
  | 7 => .long
  | 8 => .int
  | 9 => .int
  | 10 => .int
  | _ => .int
theorem nmX1 : ∀ a, a < 12 → ∀ b, b < 12 → a ≠ b → (TX1 a).2.1 ≠ (TX1 b).2.1 := by decide +kernel
theorem tyX1_ok : ∀ k, k < 12 → parseFieldDescriptor (TX1 k).2.2.1 = some (tyX1 k) := by decide +kernel
abbrev cX1_init : ByteArray := prog_3_method_1_code
def yX1_init : MethodName := ⟨RX1, "<init>", "()V"⟩
abbrev cX1_bidBy : ByteArray := prog_3_method_2_code
def yX1_bidBy : MethodName := ⟨RX1, "bidBy", "(III)V"⟩
abbrev cX1_bidNow : ByteArray := prog_3_method_3_code
def yX1_bidNow : MethodName := ⟨RX1, "bidNow", "(I)I"⟩
abbrev cX1_withSign : ByteArray := prog_3_method_4_code
def yX1_withSign : MethodName := ⟨RX1, "withSign", "(LSorryToWin$Sale;I)V"⟩
abbrev cX1_withTruth : ByteArray := prog_3_method_5_code
def yX1_withTruth : MethodName := ⟨RX1, "withTruth", "(LSorryToWin$Sale;I)V"⟩
abbrev cX1_begin : ByteArray := prog_3_method_6_code
def yX1_begin : MethodName := ⟨RX1, "begin", "(LSorryToWin$Sale;II)I"⟩
abbrev cX1_step : ByteArray := prog_3_method_7_code
def yX1_step : MethodName := ⟨RX1, "step", "()V"⟩
abbrev cX1_reckon : ByteArray := prog_3_method_8_code
def yX1_reckon : MethodName := ⟨RX1, "reckon", "(I)V"⟩
abbrev cX1_rank : ByteArray := prog_3_method_9_code
def yX1_rank : MethodName := ⟨RX1, "rank", "()V"⟩
abbrev cX1_price : ByteArray := prog_3_method_10_code
def yX1_price : MethodName := ⟨RX1, "price", "()I"⟩
abbrev cX1_weightBelow : ByteArray := prog_3_method_11_code
def yX1_weightBelow : MethodName := ⟨RX1, "weightBelow", "(I)J"⟩
def RX2 : String := "SorryToWin$Learner"
def TX2 : u_T := fun k => match k with
  | 0 => ("SorryToWin$Learner", "row", "[I", true)
  | 1 => ("SorryToWin$Learner", "gained", "[I", true)
  | 2 => ("SorryToWin$Learner", "sign", "[I", true)
  | 3 => ("SorryToWin$Learner", "of", "LSorryToWin$Sale;", false)
  | 4 => ("SorryToWin$Learner", "x", "J", false)
  | 5 => ("SorryToWin$Learner", "bidders", "I", false)
  | 6 => ("SorryToWin$Learner", "taken", "I", false)
  | _ => ("SorryToWin$Learner", "sorry", "I", false)
def tyX2 : Nat → FieldType := fun k => match k with
  | 0 => .array .int
  | 1 => .array .int
  | 2 => .array .int
  | 3 => .object "SorryToWin$Sale"
  | 4 => .long
  | 5 => .int
  | 6 => .int
  | _ => .int
theorem nmX2 : ∀ a, a < 8 → ∀ b, b < 8 → a ≠ b → (TX2 a).2.1 ≠ (TX2 b).2.1 := by decide +kernel
theorem tyX2_ok : ∀ k, k < 8 → parseFieldDescriptor (TX2 k).2.2.1 = some (tyX2 k) := by decide +kernel
abbrev cX2_init : ByteArray := prog_4_method_1_code
def yX2_init : MethodName := ⟨RX2, "<init>", "()V"⟩
abbrev cX2_begin : ByteArray := prog_4_method_2_code
def yX2_begin : MethodName := ⟨RX2, "begin", "(LSorryToWin$Sale;J)V"⟩
abbrev cX2_round : ByteArray := prog_4_method_3_code
def yX2_round : MethodName := ⟨RX2, "round", "()V"⟩
abbrev cX2_draw : ByteArray := prog_4_method_4_code
def yX2_draw : MethodName := ⟨RX2, "draw", "(I)I"⟩
abbrev cX2_drawTruth : ByteArray := prog_4_method_5_code
def yX2_drawTruth : MethodName := ⟨RX2, "drawTruth", "()I"⟩
abbrev cX2_drawSign : ByteArray := prog_4_method_6_code
def yX2_drawSign : MethodName := ⟨RX2, "drawSign", "(I)I"⟩
abbrev cX2_drawWinner : ByteArray := prog_4_method_7_code
def yX2_drawWinner : MethodName := ⟨RX2, "drawWinner", "(I)I"⟩
abbrev cX2_bidNow : ByteArray := prog_4_method_8_code
def yX2_bidNow : MethodName := ⟨RX2, "bidNow", "(I)I"⟩
abbrev cX2_highest : ByteArray := prog_4_method_9_code
def yX2_highest : MethodName := ⟨RX2, "highest", "(I)I"⟩
abbrev cX2_noneBids : ByteArray := prog_4_method_10_code
def yX2_noneBids : MethodName := ⟨RX2, "noneBids", "(I)V"⟩
abbrev cX2_oneWins : ByteArray := prog_4_method_11_code
def yX2_oneWins : MethodName := ⟨RX2, "oneWins", "(II)V"⟩
abbrev cX2_move : ByteArray := prog_4_method_12_code
def yX2_move : MethodName := ⟨RX2, "move", "(II)V"⟩
def RX3 : String := "SorryToWin$Rising"
def TX3 : u_T := fun k => match k with
  | 0 => ("SorryToWin$Rising", "leaver", "[I", true)
  | 1 => ("SorryToWin$Rising", "leftAt", "[I", true)
  | 2 => ("SorryToWin$Rising", "gone", "[Z", true)
  | 3 => ("SorryToWin$Rising", "seen", "[I", true)
  | 4 => ("SorryToWin$Rising", "left", "I", false)
  | 5 => ("SorryToWin$Rising", "winner", "I", false)
  | _ => ("SorryToWin$Rising", "price", "I", false)
def tyX3 : Nat → FieldType := fun k => match k with
  | 0 => .array .int
  | 1 => .array .int
  | 2 => .array .boolean
  | 3 => .array .int
  | 4 => .int
  | 5 => .int
  | _ => .int
theorem nmX3 : ∀ a, a < 7 → ∀ b, b < 7 → a ≠ b → (TX3 a).2.1 ≠ (TX3 b).2.1 := by decide +kernel
theorem tyX3_ok : ∀ k, k < 7 → parseFieldDescriptor (TX3 k).2.2.1 = some (tyX3 k) := by decide +kernel
abbrev cX3_init : ByteArray := prog_5_method_1_code
def yX3_init : MethodName := ⟨RX3, "<init>", "()V"⟩
abbrev cX3_rise : ByteArray := prog_5_method_2_code
def yX3_rise : MethodName := ⟨RX3, "rise", "(LSorryToWin$Sale;[I)V"⟩
abbrev cX3_oneLeaves : ByteArray := prog_5_method_3_code
def yX3_oneLeaves : MethodName := ⟨RX3, "oneLeaves", "(LSorryToWin$Sale;[I)V"⟩
abbrev cX3_limitOf : ByteArray := prog_5_method_4_code
def yX3_limitOf : MethodName := ⟨RX3, "limitOf", "(LSorryToWin$Sale;[II)I"⟩
def RX4 : String := "SorryToWin$Rivals"
def TX4 : u_T := fun k => match k with
  | 0 => ("SorryToWin$Rivals", "weight", "[J", true)
  | 1 => ("SorryToWin$Rivals", "worth", "[J", true)
  | 2 => ("SorryToWin$Rivals", "freeWeight", "J", false)
  | 3 => ("SorryToWin$Rivals", "freeWorth", "J", false)
  | _ => ("SorryToWin$Rivals", "gained", "[J", true)
def tyX4 : Nat → FieldType := fun k => match k with
  | 0 => .array .long
  | 1 => .array .long
  | 2 => .long
  | 3 => .long
  | _ => .array .long
theorem nmX4 : ∀ a, a < 5 → ∀ b, b < 5 → a ≠ b → (TX4 a).2.1 ≠ (TX4 b).2.1 := by decide +kernel
theorem tyX4_ok : ∀ k, k < 5 → parseFieldDescriptor (TX4 k).2.2.1 = some (tyX4 k) := by decide +kernel
abbrev cX4_init : ByteArray := prog_6_method_1_code
def yX4_init : MethodName := ⟨RX4, "<init>", "()V"⟩
abbrev cX4_gather : ByteArray := prog_6_method_2_code
def yX4_gather : MethodName := ⟨RX4, "gather", "(LSorryToWin$Crowd;LSorryToWin$Sale;I)V"⟩
abbrev cX4_addCases : ByteArray := prog_6_method_3_code
def yX4_addCases : MethodName := ⟨RX4, "addCases", "(LSorryToWin$Crowd;)V"⟩
abbrev cX4_reckon : ByteArray := prog_6_method_4_code
def yX4_reckon : MethodName := ⟨RX4, "reckon", "(II)V"⟩
abbrev cX4_pick : ByteArray := prog_6_method_5_code
def yX4_pick : MethodName := ⟨RX4, "pick", "()I"⟩
abbrev cX4_most : ByteArray := prog_6_method_6_code
def yX4_most : MethodName := ⟨RX4, "most", "()J"⟩
abbrev cX4_isMost : ByteArray := prog_6_method_7_code
def yX4_isMost : MethodName := ⟨RX4, "isMost", "(I)Z"⟩
def RX5 : String := "SorryToWin$Sale"
def TX5 : u_T := fun k => match k with
  | 0 => ("SorryToWin$Sale", "value", "[I", true)
  | 1 => ("SorryToWin$Sale", "weight", "[I", true)
  | 2 => ("SorryToWin$Sale", "ofTen", "[I", true)
  | 3 => ("SorryToWin$Sale", "sitter", "[I", true)
  | 4 => ("SorryToWin$Sale", "signs", "I", false)
  | 5 => ("SorryToWin$Sale", "truths", "I", false)
  | 6 => ("SorryToWin$Sale", "bidders", "I", false)
  | 7 => ("SorryToWin$Sale", "least", "I", false)
  | 8 => ("SorryToWin$Sale", "way", "I", false)
  | 9 => ("SorryToWin$Sale", "up", "J", false)
  | _ => ("SorryToWin$Sale", "down", "J", false)
def tyX5 : Nat → FieldType := fun k => match k with
  | 0 => .array .int
  | 1 => .array .int
  | 2 => .array .int
  | 3 => .array .int
  | 4 => .int
  | 5 => .int
  | 6 => .int
  | 7 => .int
  | 8 => .int
  | 9 => .long
  | _ => .long
theorem nmX5 : ∀ a, a < 11 → ∀ b, b < 11 → a ≠ b → (TX5 a).2.1 ≠ (TX5 b).2.1 := by decide +kernel
theorem tyX5_ok : ∀ k, k < 11 → parseFieldDescriptor (TX5 k).2.2.1 = some (tyX5 k) := by decide +kernel
abbrev cX5_init : ByteArray := prog_7_method_1_code
def yX5_init : MethodName := ⟨RX5, "<init>", "()V"⟩
abbrev cX5_clear : ByteArray := prog_7_method_2_code
def yX5_clear : MethodName := ⟨RX5, "clear", "()V"⟩
abbrev cX5_hasSign : ByteArray := prog_7_method_3_code
def yX5_hasSign : MethodName := ⟨RX5, "hasSign", "(I)Z"⟩
abbrev cX5_hasSeat : ByteArray := prog_7_method_4_code
def yX5_hasSeat : MethodName := ⟨RX5, "hasSeat", "(I)Z"⟩
abbrev cX5_allWeights : ByteArray := prog_7_method_5_code
def yX5_allWeights : MethodName := ⟨RX5, "allWeights", "()I"⟩
abbrev cX5_seeing : ByteArray := prog_7_method_6_code
def yX5_seeing : MethodName := ⟨RX5, "seeing", "(II)I"⟩
abbrev cX5_weigh : ByteArray := prog_7_method_7_code
def yX5_weigh : MethodName := ⟨RX5, "weigh", "(IIII)Z"⟩
abbrev cX5_held : ByteArray := prog_7_method_8_code
def yX5_held : MethodName := ⟨RX5, "held", "(IIII)I"⟩
def RX6 : String := "SorryToWin$Tally"
def TX6 : u_T := fun k => match k with
  | 0 => ("SorryToWin$Tally", "all", "J", false)
  | 1 => ("SorryToWin$Tally", "takes", "J", false)
  | 2 => ("SorryToWin$Tally", "sorry", "J", false)
  | 3 => ("SorryToWin$Tally", "unsold", "J", false)
  | 4 => ("SorryToWin$Tally", "gained", "[J", true)
  | 5 => ("SorryToWin$Tally", "wonWorth", "[J", true)
  | _ => ("SorryToWin$Tally", "wonCases", "[J", true)
def tyX6 : Nat → FieldType := fun k => match k with
  | 0 => .long
  | 1 => .long
  | 2 => .long
  | 3 => .long
  | 4 => .array .long
  | 5 => .array .long
  | _ => .array .long
theorem nmX6 : ∀ a, a < 7 → ∀ b, b < 7 → a ≠ b → (TX6 a).2.1 ≠ (TX6 b).2.1 := by decide +kernel
theorem tyX6_ok : ∀ k, k < 7 → parseFieldDescriptor (TX6 k).2.2.1 = some (tyX6 k) := by decide +kernel
abbrev cX6_init : ByteArray := prog_8_method_1_code
def yX6_init : MethodName := ⟨RX6, "<init>", "()V"⟩
abbrev cX6_clear : ByteArray := prog_8_method_2_code
def yX6_clear : MethodName := ⟨RX6, "clear", "()V"⟩
abbrev cX6_add : ByteArray := prog_8_method_3_code
def yX6_add : MethodName := ⟨RX6, "add", "(LSorryToWin$Crowd;LSorryToWin$Sale;I)V"⟩
abbrev cX6_addCases : ByteArray := prog_8_method_4_code
def yX6_addCases : MethodName := ⟨RX6, "addCases", "(LSorryToWin$Crowd;Z)V"⟩
abbrev cX6_paidBy : ByteArray := prog_8_method_5_code
def yX6_paidBy : MethodName := ⟨RX6, "paidBy", "(LSorryToWin$Crowd;IIZ)J"⟩
def RX7 : String := "SorryToWin$Tape"
def TX7 : u_T := fun k => match k with
  | 0 => ("SorryToWin$Tape", "bytes", "[I", true)
  | 1 => ("SorryToWin$Tape", "length", "I", false)
  | 2 => ("SorryToWin$Tape", "draft", "LSorryToWin$Sale;", false)
  | 3 => ("SorryToWin$Tape", "at", "I", false)
  | _ => ("SorryToWin$Tape", "wrong", "I", false)
def tyX7 : Nat → FieldType := fun k => match k with
  | 0 => .array .int
  | 1 => .int
  | 2 => .object "SorryToWin$Sale"
  | 3 => .int
  | _ => .int
theorem nmX7 : ∀ a, a < 5 → ∀ b, b < 5 → a ≠ b → (TX7 a).2.1 ≠ (TX7 b).2.1 := by decide +kernel
theorem tyX7_ok : ∀ k, k < 5 → parseFieldDescriptor (TX7 k).2.2.1 = some (tyX7 k) := by decide +kernel
abbrev cX7_init : ByteArray := prog_9_method_1_code
def yX7_init : MethodName := ⟨RX7, "<init>", "()V"⟩
abbrev cX7_bytesIn : ByteArray := prog_9_method_2_code
def yX7_bytesIn : MethodName := ⟨RX7, "bytesIn", "(I)I"⟩
abbrev cX7_put : ByteArray := prog_9_method_3_code
def yX7_put : MethodName := ⟨RX7, "put", "(I)V"⟩
abbrev cX7_takeDraft : ByteArray := prog_9_method_4_code
def yX7_takeDraft : MethodName := ⟨RX7, "takeDraft", "()LSorryToWin$Sale;"⟩
abbrev cX7_read : ByteArray := prog_9_method_5_code
def yX7_read : MethodName := ⟨RX7, "read", "()I"⟩
abbrev cX7_look : ByteArray := prog_9_method_6_code
def yX7_look : MethodName := ⟨RX7, "look", "()I"⟩
abbrev cX7_skip : ByteArray := prog_9_method_7_code
def yX7_skip : MethodName := ⟨RX7, "skip", "()V"⟩
abbrev cX7_clause : ByteArray := prog_9_method_8_code
def yX7_clause : MethodName := ⟨RX7, "clause", "()V"⟩
abbrev cX7_truthClause : ByteArray := prog_9_method_9_code
def yX7_truthClause : MethodName := ⟨RX7, "truthClause", "(I)V"⟩
abbrev cX7_number : ByteArray := prog_9_method_10_code
def yX7_number : MethodName := ⟨RX7, "number", "(II)I"⟩
abbrev cX7_digit : ByteArray := prog_9_method_11_code
def yX7_digit : MethodName := ⟨RX7, "digit", "()I"⟩
def RX8 : String := "SorryToWin$Turns"
def TX8 : u_T := fun k => match k with
  | 0 => ("SorryToWin$Turns", "rows", "[I", true)
  | 1 => ("SorryToWin$Turns", "now", "[I", true)
  | 2 => ("SorryToWin$Turns", "next", "[I", true)
  | 3 => ("SorryToWin$Turns", "signs", "I", false)
  | 4 => ("SorryToWin$Turns", "kept", "I", false)
  | _ => ("SorryToWin$Turns", "ending", "I", false)
def tyX8 : Nat → FieldType := fun k => match k with
  | 0 => .array .int
  | 1 => .array .int
  | 2 => .array .int
  | 3 => .int
  | 4 => .int
  | _ => .int
theorem nmX8 : ∀ a, a < 6 → ∀ b, b < 6 → a ≠ b → (TX8 a).2.1 ≠ (TX8 b).2.1 := by decide +kernel
theorem tyX8_ok : ∀ k, k < 6 → parseFieldDescriptor (TX8 k).2.2.1 = some (tyX8 k) := by decide +kernel
abbrev cX8_init : ByteArray := prog_10_method_1_code
def yX8_init : MethodName := ⟨RX8, "<init>", "()V"⟩
abbrev cX8_begin : ByteArray := prog_10_method_2_code
def yX8_begin : MethodName := ⟨RX8, "begin", "(I)V"⟩
abbrev cX8_goesOn : ByteArray := prog_10_method_3_code
def yX8_goesOn : MethodName := ⟨RX8, "goesOn", "()Z"⟩
abbrev cX8_close : ByteArray := prog_10_method_4_code
def yX8_close : MethodName := ⟨RX8, "close", "()V"⟩
abbrev cX8_isRow : ByteArray := prog_10_method_5_code
def yX8_isRow : MethodName := ⟨RX8, "isRow", "(I)Z"⟩
abbrev cX8_keep : ByteArray := prog_10_method_6_code
def yX8_keep : MethodName := ⟨RX8, "keep", "()V"⟩
def RX9 : String := "SorryToWin"
def TX9 : u_T := fun k => match k with
  | 0 => ("SorryToWin", "tape", "LSorryToWin$Tape;", true)
  | 1 => ("SorryToWin", "sales", "[LSorryToWin$Sale;", true)
  | 2 => ("SorryToWin", "saleCount", "I", false)
  | 3 => ("SorryToWin", "tableBids", "[I", true)
  | 4 => ("SorryToWin", "tableCount", "I", false)
  | 5 => ("SorryToWin", "laid", "[I", true)
  | 6 => ("SorryToWin", "crowd", "LSorryToWin$Crowd;", true)
  | 7 => ("SorryToWin", "tally", "LSorryToWin$Tally;", true)
  | 8 => ("SorryToWin", "rivals", "LSorryToWin$Rivals;", true)
  | 9 => ("SorryToWin", "bars", "LSorryToWin$Bars;", true)
  | 10 => ("SorryToWin", "turns", "LSorryToWin$Turns;", true)
  | 11 => ("SorryToWin", "rising", "LSorryToWin$Rising;", true)
  | _ => ("SorryToWin", "learner", "LSorryToWin$Learner;", true)
def tyX9 : Nat → FieldType := fun k => match k with
  | 0 => .object "SorryToWin$Tape"
  | 1 => .array (.object "SorryToWin$Sale")
  | 2 => .int
  | 3 => .array .int
  | 4 => .int
  | 5 => .array .int
  | 6 => .object "SorryToWin$Crowd"
  | 7 => .object "SorryToWin$Tally"
  | 8 => .object "SorryToWin$Rivals"
  | 9 => .object "SorryToWin$Bars"
  | 10 => .object "SorryToWin$Turns"
  | 11 => .object "SorryToWin$Rising"
  | _ => .object "SorryToWin$Learner"
theorem nmX9 : ∀ a, a < 13 → ∀ b, b < 13 → a ≠ b → (TX9 a).2.1 ≠ (TX9 b).2.1 := by decide +kernel
theorem tyX9_ok : ∀ k, k < 13 → parseFieldDescriptor (TX9 k).2.2.1 = some (tyX9 k) := by decide +kernel
abbrev cX9_init : ByteArray := prog_1_method_1_code
def yX9_init : MethodName := ⟨RX9, "<init>", "()V"⟩
abbrev cX9_feed : ByteArray := prog_1_method_2_code
def yX9_feed : MethodName := ⟨RX9, "feed", "(IIIII)I"⟩
abbrev cX9_end : ByteArray := prog_1_method_3_code
def yX9_end : MethodName := ⟨RX9, "end", "(I)Z"⟩
abbrev cX9_fault : ByteArray := prog_1_method_4_code
def yX9_fault : MethodName := ⟨RX9, "fault", "()I"⟩
abbrev cX9_sale : ByteArray := prog_1_method_5_code
def yX9_sale : MethodName := ⟨RX9, "sale", "()I"⟩
abbrev cX9_told : ByteArray := prog_1_method_6_code
def yX9_told : MethodName := ⟨RX9, "told", "(II)I"⟩
abbrev cX9_truth : ByteArray := prog_1_method_7_code
def yX9_truth : MethodName := ⟨RX9, "truth", "(III)I"⟩
abbrev cX9_change : ByteArray := prog_1_method_8_code
def yX9_change : MethodName := ⟨RX9, "change", "(III)Z"⟩
abbrev cX9_worth : ByteArray := prog_1_method_9_code
def yX9_worth : MethodName := ⟨RX9, "worth", "(IIIIII)I"⟩
abbrev cX9_table : ByteArray := prog_1_method_10_code
def yX9_table : MethodName := ⟨RX9, "table", "()I"⟩
abbrev cX9_bid : ByteArray := prog_1_method_11_code
def yX9_bid : MethodName := ⟨RX9, "bid", "(III)Z"⟩
abbrev cX9_seat : ByteArray := prog_1_method_12_code
def yX9_seat : MethodName := ⟨RX9, "seat", "(III)Z"⟩
abbrev cX9_bids : ByteArray := prog_1_method_13_code
def yX9_bids : MethodName := ⟨RX9, "bids", "(III)I"⟩
abbrev cX9_cases : ByteArray := prog_1_method_14_code
def yX9_cases : MethodName := ⟨RX9, "cases", "(II)J"⟩
abbrev cX9_gain : ByteArray := prog_1_method_15_code
def yX9_gain : MethodName := ⟨RX9, "gain", "(II)J"⟩
abbrev cX9_won : ByteArray := prog_1_method_16_code
def yX9_won : MethodName := ⟨RX9, "won", "(IIII)J"⟩
abbrev cX9_less : ByteArray := prog_1_method_17_code
def yX9_less : MethodName := ⟨RX9, "less", "(IIII)J"⟩
abbrev cX9_best : ByteArray := prog_1_method_18_code
def yX9_best : MethodName := ⟨RX9, "best", "(III)I"⟩
abbrev cX9_judge : ByteArray := prog_1_method_19_code
def yX9_judge : MethodName := ⟨RX9, "judge", "(I)I"⟩
abbrev cX9_find : ByteArray := prog_1_method_20_code
def yX9_find : MethodName := ⟨RX9, "find", "(II)I"⟩
abbrev cX9_by : ByteArray := prog_1_method_21_code
def yX9_by : MethodName := ⟨RX9, "by", "(IIZI)J"⟩
abbrev cX9_bar : ByteArray := prog_1_method_22_code
def yX9_bar : MethodName := ⟨RX9, "bar", "(IZ)I"⟩
abbrev cX9_telling : ByteArray := prog_1_method_23_code
def yX9_telling : MethodName := ⟨RX9, "telling", "(I)J"⟩
abbrev cX9_near : ByteArray := prog_1_method_24_code
def yX9_near : MethodName := ⟨RX9, "near", "(II)I"⟩
abbrev cX9_nearGain : ByteArray := prog_1_method_25_code
def yX9_nearGain : MethodName := ⟨RX9, "nearGain", "(I)J"⟩
abbrev cX9_asOne : ByteArray := prog_1_method_26_code
def yX9_asOne : MethodName := ⟨RX9, "asOne", "(I)J"⟩
abbrev cX9_lay : ByteArray := prog_1_method_27_code
def yX9_lay : MethodName := ⟨RX9, "lay", "(II)Z"⟩
abbrev cX9_open : ByteArray := prog_1_method_28_code
def yX9_open : MethodName := ⟨RX9, "open", "(II)I"⟩
abbrev cX9_leaves : ByteArray := prog_1_method_29_code
def yX9_leaves : MethodName := ⟨RX9, "leaves", "(III)I"⟩
abbrev cX9_learn : ByteArray := prog_1_method_30_code
def yX9_learn : MethodName := ⟨RX9, "learn", "(IJI)I"⟩
abbrev cX9_learned : ByteArray := prog_1_method_31_code
def yX9_learned : MethodName := ⟨RX9, "learned", "(II)I"⟩
abbrev cX9_got : ByteArray := prog_1_method_32_code
def yX9_got : MethodName := ⟨RX9, "got", "()I"⟩
abbrev cX9_count : ByteArray := prog_1_method_33_code
def yX9_count : MethodName := ⟨RX9, "count", "(I)I"⟩
abbrev cX9_saleAt : ByteArray := prog_1_method_34_code
def yX9_saleAt : MethodName := ⟨RX9, "saleAt", "(I)LSorryToWin$Sale;"⟩
abbrev cX9_hasTable : ByteArray := prog_1_method_35_code
def yX9_hasTable : MethodName := ⟨RX9, "hasTable", "(I)Z"⟩
abbrev cX9_isHalf : ByteArray := prog_1_method_36_code
def yX9_isHalf : MethodName := ⟨RX9, "isHalf", "(I)Z"⟩
abbrev cX9_hasSignOrNone : ByteArray := prog_1_method_37_code
def yX9_hasSignOrNone : MethodName := ⟨RX9, "hasSignOrNone", "(LSorryToWin$Sale;I)Z"⟩
abbrev cX9_half : ByteArray := prog_1_method_38_code
def yX9_half : MethodName := ⟨RX9, "half", "(JJI)J"⟩
abbrev cX9_bidOf : ByteArray := prog_1_method_39_code
def yX9_bidOf : MethodName := ⟨RX9, "bidOf", "(LSorryToWin$Sale;III)I"⟩
abbrev cX9_plainBid : ByteArray := prog_1_method_40_code
def yX9_plainBid : MethodName := ⟨RX9, "plainBid", "(LSorryToWin$Sale;ZII)I"⟩
abbrev cX9_rowOf : ByteArray := prog_1_method_41_code
def yX9_rowOf : MethodName := ⟨RX9, "rowOf", "(LSorryToWin$Sale;III)V"⟩
abbrev cX9_rowsWithout : ByteArray := prog_1_method_42_code
def yX9_rowsWithout : MethodName := ⟨RX9, "rowsWithout", "(LSorryToWin$Sale;I)V"⟩
abbrev cX9_rowsAlike : ByteArray := prog_1_method_43_code
def yX9_rowsAlike : MethodName := ⟨RX9, "rowsAlike", "(LSorryToWin$Sale;IZ)V"⟩
abbrev cX9_tallyOf : ByteArray := prog_1_method_44_code
def yX9_tallyOf : MethodName := ⟨RX9, "tallyOf", "(LSorryToWin$Sale;)V"⟩
abbrev cX9_wins : ByteArray := prog_1_method_45_code
def yX9_wins : MethodName := ⟨RX9, "wins", "(LSorryToWin$Sale;II)Z"⟩
abbrev cX9_rivalsBySign : ByteArray := prog_1_method_46_code
def yX9_rivalsBySign : MethodName := ⟨RX9, "rivalsBySign", "(LSorryToWin$Sale;I)V"⟩
abbrev cX9_rivalsByTruth : ByteArray := prog_1_method_47_code
def yX9_rivalsByTruth : MethodName := ⟨RX9, "rivalsByTruth", "(LSorryToWin$Sale;I)V"⟩
abbrev cX9_turnOf : ByteArray := prog_1_method_48_code
def yX9_turnOf : MethodName := ⟨RX9, "turnOf", "(LSorryToWin$Sale;)V"⟩
abbrev cX9_laidFor : ByteArray := prog_1_method_49_code
def yX9_laidFor : MethodName := ⟨RX9, "laidFor", "(LSorryToWin$Sale;)Z"⟩
def RX10 : String := "SorryToWinModel"
def TX10 : u_T := fun k => match k with
  | 0 => ("SorryToWinModel", "thrown", "I", false)
  | 1 => ("SorryToWinModel", "tape", "[I", true)
  | 2 => ("SorryToWinModel", "size", "I", false)
  | 3 => ("SorryToWinModel", "at", "I", false)
  | 4 => ("SorryToWinModel", "wrong", "I", false)
  | 5 => ("SorryToWinModel", "signs", "[I", true)
  | 6 => ("SorryToWinModel", "truths", "[I", true)
  | 7 => ("SorryToWinModel", "value", "[I", true)
  | 8 => ("SorryToWinModel", "weight", "[I", true)
  | 9 => ("SorryToWinModel", "sees", "[I", true)
  | 10 => ("SorryToWinModel", "bidders", "[I", true)
  | 11 => ("SorryToWinModel", "least", "[I", true)
  | 12 => ("SorryToWinModel", "way", "[I", true)
  | 13 => ("SorryToWinModel", "seats", "[I", true)
  | 14 => ("SorryToWinModel", "sales", "I", false)
  | 15 => ("SorryToWinModel", "seen", "[I", true)
  | 16 => ("SorryToWinModel", "up", "J", false)
  | 17 => ("SorryToWinModel", "down", "J", false)
  | 18 => ("SorryToWinModel", "bid", "[I", true)
  | 19 => ("SorryToWinModel", "tables", "I", false)
  | 20 => ("SorryToWinModel", "rows", "[I", true)
  | 21 => ("SorryToWinModel", "many", "I", false)
  | 22 => ("SorryToWinModel", "floor", "I", false)
  | 23 => ("SorryToWinModel", "how", "I", false)
  | 24 => ("SorryToWinModel", "now", "[I", true)
  | 25 => ("SorryToWinModel", "signOf", "[I", true)
  | 26 => ("SorryToWinModel", "high", "I", false)
  | 27 => ("SorryToWinModel", "alike", "I", false)
  | 28 => ("SorryToWinModel", "all", "J", false)
  | 29 => ("SorryToWinModel", "takes", "J", false)
  | 30 => ("SorryToWinModel", "sorry", "J", false)
  | 31 => ("SorryToWinModel", "unsold", "J", false)
  | 32 => ("SorryToWinModel", "gain", "J", false)
  | 33 => ("SorryToWinModel", "wonUp", "J", false)
  | 34 => ("SorryToWinModel", "wonDown", "J", false)
  | 35 => ("SorryToWinModel", "asked", "I", false)
  | 36 => ("SorryToWinModel", "askedSign", "I", false)
  | 37 => ("SorryToWinModel", "askedBid", "I", false)
  | 38 => ("SorryToWinModel", "knows", "I", false)
  | 39 => ("SorryToWinModel", "silent", "I", false)
  | 40 => ("SorryToWinModel", "history", "[I", true)
  | 41 => ("SorryToWinModel", "fresh", "[I", true)
  | 42 => ("SorryToWinModel", "laid", "[I", true)
  | 43 => ("SorryToWinModel", "leaver", "[I", true)
  | 44 => ("SorryToWinModel", "leftAt", "[I", true)
  | 45 => ("SorryToWinModel", "left", "I", false)
  | 46 => ("SorryToWinModel", "winner", "I", false)
  | 47 => ("SorryToWinModel", "price", "I", false)
  | 48 => ("SorryToWinModel", "learnt", "[I", true)
  | 49 => ("SorryToWinModel", "gained", "[I", true)
  | 50 => ("SorryToWinModel", "learners", "I", false)
  | 51 => ("SorryToWinModel", "learntSigns", "I", false)
  | 52 => ("SorryToWinModel", "got", "I", false)
  | _ => ("SorryToWinModel", "state", "J", false)
def tyX10 : Nat → FieldType := fun k => match k with
  | 0 => .int
  | 1 => .array .int
  | 2 => .int
  | 3 => .int
  | 4 => .int
  | 5 => .array .int
  | 6 => .array .int
  | 7 => .array .int
  | 8 => .array .int
  | 9 => .array .int
  | 10 => .array .int
  | 11 => .array .int
  | 12 => .array .int
  | 13 => .array .int
  | 14 => .int
  | 15 => .array .int
  | 16 => .long
  | 17 => .long
  | 18 => .array .int
  | 19 => .int
  | 20 => .array .int
  | 21 => .int
  | 22 => .int
  | 23 => .int
  | 24 => .array .int
  | 25 => .array .int
  | 26 => .int
  | 27 => .int
  | 28 => .long
  | 29 => .long
  | 30 => .long
  | 31 => .long
  | 32 => .long
  | 33 => .long
  | 34 => .long
  | 35 => .int
  | 36 => .int
  | 37 => .int
  | 38 => .int
  | 39 => .int
  | 40 => .array .int
  | 41 => .array .int
  | 42 => .array .int
  | 43 => .array .int
  | 44 => .array .int
  | 45 => .int
  | 46 => .int
  | 47 => .int
  | 48 => .array .int
  | 49 => .array .int
  | 50 => .int
  | 51 => .int
  | 52 => .int
  | _ => .long
theorem nmX10 : ∀ a, a < 54 → ∀ b, b < 54 → a ≠ b → (TX10 a).2.1 ≠ (TX10 b).2.1 := by decide +kernel
theorem tyX10_ok : ∀ k, k < 54 → parseFieldDescriptor (TX10 k).2.2.1 = some (tyX10 k) := by decide +kernel
abbrev cX10_in : ByteArray := prog_12_method_1_code
def yX10_in : MethodName := ⟨RX10, "in", "(III)Z"⟩
abbrev cX10_init : ByteArray := prog_12_method_2_code
def yX10_init : MethodName := ⟨RX10, "<init>", "()V"⟩
abbrev cX10_thrown : ByteArray := prog_12_method_3_code
def yX10_thrown : MethodName := ⟨RX10, "thrown", "()I"⟩
abbrev cX10_byteOf : ByteArray := prog_12_method_4_code
def yX10_byteOf : MethodName := ⟨RX10, "byteOf", "(IIIIII)I"⟩
abbrev cX10_feed : ByteArray := prog_12_method_5_code
def yX10_feed : MethodName := ⟨RX10, "feed", "(IIIII)I"⟩
abbrev cX10_end : ByteArray := prog_12_method_6_code
def yX10_end : MethodName := ⟨RX10, "end", "(I)Z"⟩
abbrev cX10_here : ByteArray := prog_12_method_7_code
def yX10_here : MethodName := ⟨RX10, "here", "()I"⟩
abbrev cX10_look : ByteArray := prog_12_method_8_code
def yX10_look : MethodName := ⟨RX10, "look", "()I"⟩
abbrev cX10_bad : ByteArray := prog_12_method_9_code
def yX10_bad : MethodName := ⟨RX10, "bad", "()V"⟩
abbrev cX10_isDigit : ByteArray := prog_12_method_10_code
def yX10_isDigit : MethodName := ⟨RX10, "isDigit", "(I)Z"⟩
abbrev cX10_number : ByteArray := prog_12_method_11_code
def yX10_number : MethodName := ⟨RX10, "number", "(II)I"⟩
abbrev cX10_readSale : ByteArray := prog_12_method_12_code
def yX10_readSale : MethodName := ⟨RX10, "readSale", "(I)I"⟩
abbrev cX10_statement : ByteArray := prog_12_method_13_code
def yX10_statement : MethodName := ⟨RX10, "statement", "(I)V"⟩
abbrev cX10_readTruth : ByteArray := prog_12_method_14_code
def yX10_readTruth : MethodName := ⟨RX10, "readTruth", "(I)V"⟩
abbrev cX10_fault : ByteArray := prog_12_method_15_code
def yX10_fault : MethodName := ⟨RX10, "fault", "()I"⟩
abbrev cX10_sale : ByteArray := prog_12_method_16_code
def yX10_sale : MethodName := ⟨RX10, "sale", "()I"⟩
abbrev cX10_isSale : ByteArray := prog_12_method_17_code
def yX10_isSale : MethodName := ⟨RX10, "isSale", "(I)Z"⟩
abbrev cX10_allWeights : ByteArray := prog_12_method_18_code
def yX10_allWeights : MethodName := ⟨RX10, "allWeights", "(I)I"⟩
abbrev cX10_told : ByteArray := prog_12_method_19_code
def yX10_told : MethodName := ⟨RX10, "told", "(II)I"⟩
abbrev cX10_truth : ByteArray := prog_12_method_20_code
def yX10_truth : MethodName := ⟨RX10, "truth", "(III)I"⟩
abbrev cX10_change : ByteArray := prog_12_method_21_code
def yX10_change : MethodName := ⟨RX10, "change", "(III)Z"⟩
abbrev cX10_see : ByteArray := prog_12_method_22_code
def yX10_see : MethodName := ⟨RX10, "see", "(IIII)V"⟩
abbrev cX10_weigh : ByteArray := prog_12_method_23_code
def yX10_weigh : MethodName := ⟨RX10, "weigh", "(I)V"⟩
abbrev cX10_heldNow : ByteArray := prog_12_method_24_code
def yX10_heldNow : MethodName := ⟨RX10, "heldNow", "(I)I"⟩
abbrev cX10_held : ByteArray := prog_12_method_25_code
def yX10_held : MethodName := ⟨RX10, "held", "(IIII)I"⟩
abbrev cX10_divisor : ByteArray := prog_12_method_26_code
def yX10_divisor : MethodName := ⟨RX10, "divisor", "(JJ)J"⟩
abbrev cX10_part : ByteArray := prog_12_method_27_code
def yX10_part : MethodName := ⟨RX10, "part", "(JJI)J"⟩
abbrev cX10_isSign : ByteArray := prog_12_method_28_code
def yX10_isSign : MethodName := ⟨RX10, "isSign", "(II)Z"⟩
abbrev cX10_isSignOrNone : ByteArray := prog_12_method_29_code
def yX10_isSignOrNone : MethodName := ⟨RX10, "isSignOrNone", "(II)Z"⟩
abbrev cX10_worth : ByteArray := prog_12_method_30_code
def yX10_worth : MethodName := ⟨RX10, "worth", "(IIIIII)I"⟩
abbrev cX10_table : ByteArray := prog_12_method_31_code
def yX10_table : MethodName := ⟨RX10, "table", "()I"⟩
abbrev cX10_bid : ByteArray := prog_12_method_32_code
def yX10_bid : MethodName := ⟨RX10, "bid", "(III)Z"⟩
abbrev cX10_seat : ByteArray := prog_12_method_33_code
def yX10_seat : MethodName := ⟨RX10, "seat", "(III)Z"⟩
abbrev cX10_bidBy : ByteArray := prog_12_method_34_code
def yX10_bidBy : MethodName := ⟨RX10, "bidBy", "(IIII)I"⟩
abbrev cX10_begin : ByteArray := prog_12_method_35_code
def yX10_begin : MethodName := ⟨RX10, "begin", "(I)V"⟩
abbrev cX10_fill : ByteArray := prog_12_method_36_code
def yX10_fill : MethodName := ⟨RX10, "fill", "(II)V"⟩
abbrev cX10_fillAll : ByteArray := prog_12_method_37_code
def yX10_fillAll : MethodName := ⟨RX10, "fillAll", "(II)V"⟩
abbrev cX10_isSeat : ByteArray := prog_12_method_38_code
def yX10_isSeat : MethodName := ⟨RX10, "isSeat", "(II)Z"⟩
abbrev cX10_bids : ByteArray := prog_12_method_39_code
def yX10_bids : MethodName := ⟨RX10, "bids", "(III)I"⟩
abbrev cX10_settle : ByteArray := prog_12_method_40_code
def yX10_settle : MethodName := ⟨RX10, "settle", "()V"⟩
abbrev cX10_pays : ByteArray := prog_12_method_41_code
def yX10_pays : MethodName := ⟨RX10, "pays", "()I"⟩
abbrev cX10_gains : ByteArray := prog_12_method_42_code
def yX10_gains : MethodName := ⟨RX10, "gains", "(II)J"⟩
abbrev cX10_taken : ByteArray := prog_12_method_43_code
def yX10_taken : MethodName := ⟨RX10, "taken", "()J"⟩
abbrev cX10_ask : ByteArray := prog_12_method_44_code
def yX10_ask : MethodName := ⟨RX10, "ask", "(III)V"⟩
abbrev cX10_goThrough : ByteArray := prog_12_method_45_code
def yX10_goThrough : MethodName := ⟨RX10, "goThrough", "(II)V"⟩
abbrev cX10_lay : ByteArray := prog_12_method_46_code
def yX10_lay : MethodName := ⟨RX10, "lay", "(I)V"⟩
abbrev cX10_count : ByteArray := prog_12_method_47_code
def yX10_count : MethodName := ⟨RX10, "count", "(II)V"⟩
abbrev cX10_cases : ByteArray := prog_12_method_48_code
def yX10_cases : MethodName := ⟨RX10, "cases", "(II)J"⟩
abbrev cX10_gain : ByteArray := prog_12_method_49_code
def yX10_gain : MethodName := ⟨RX10, "gain", "(II)J"⟩
abbrev cX10_findWon : ByteArray := prog_12_method_50_code
def yX10_findWon : MethodName := ⟨RX10, "findWon", "(III)Z"⟩
abbrev cX10_won : ByteArray := prog_12_method_51_code
def yX10_won : MethodName := ⟨RX10, "won", "(IIII)J"⟩
abbrev cX10_less : ByteArray := prog_12_method_52_code
def yX10_less : MethodName := ⟨RX10, "less", "(IIII)J"⟩
abbrev cX10_gainBy : ByteArray := prog_12_method_53_code
def yX10_gainBy : MethodName := ⟨RX10, "gainBy", "(IIII)J"⟩
abbrev cX10_bestOf : ByteArray := prog_12_method_54_code
def yX10_bestOf : MethodName := ⟨RX10, "bestOf", "(III)I"⟩
abbrev cX10_best : ByteArray := prog_12_method_55_code
def yX10_best : MethodName := ⟨RX10, "best", "(III)I"⟩
abbrev cX10_judge : ByteArray := prog_12_method_56_code
def yX10_judge : MethodName := ⟨RX10, "judge", "(I)I"⟩
abbrev cX10_keep : ByteArray := prog_12_method_57_code
def yX10_keep : MethodName := ⟨RX10, "keep", "(II)V"⟩
abbrev cX10_isKept : ByteArray := prog_12_method_58_code
def yX10_isKept : MethodName := ⟨RX10, "isKept", "(II)Z"⟩
abbrev cX10_turns : ByteArray := prog_12_method_59_code
def yX10_turns : MethodName := ⟨RX10, "turns", "(I)I"⟩
abbrev cX10_find : ByteArray := prog_12_method_60_code
def yX10_find : MethodName := ⟨RX10, "find", "(II)I"⟩
abbrev cX10_sell : ByteArray := prog_12_method_61_code
def yX10_sell : MethodName := ⟨RX10, "sell", "(IIII)V"⟩
abbrev cX10_by : ByteArray := prog_12_method_62_code
def yX10_by : MethodName := ⟨RX10, "by", "(IIZI)J"⟩
abbrev cX10_bar : ByteArray := prog_12_method_63_code
def yX10_bar : MethodName := ⟨RX10, "bar", "(IZ)I"⟩
abbrev cX10_telling : ByteArray := prog_12_method_64_code
def yX10_telling : MethodName := ⟨RX10, "telling", "(I)J"⟩
abbrev cX10_nearBy : ByteArray := prog_12_method_65_code
def yX10_nearBy : MethodName := ⟨RX10, "nearBy", "(III)J"⟩
abbrev cX10_nearBest : ByteArray := prog_12_method_66_code
def yX10_nearBest : MethodName := ⟨RX10, "nearBest", "(II)I"⟩
abbrev cX10_near : ByteArray := prog_12_method_67_code
def yX10_near : MethodName := ⟨RX10, "near", "(II)I"⟩
abbrev cX10_nearGain : ByteArray := prog_12_method_68_code
def yX10_nearGain : MethodName := ⟨RX10, "nearGain", "(I)J"⟩
abbrev cX10_asOne : ByteArray := prog_12_method_69_code
def yX10_asOne : MethodName := ⟨RX10, "asOne", "(I)J"⟩
abbrev cX10_lay_ : ByteArray := prog_12_method_70_code
def yX10_lay_ : MethodName := ⟨RX10, "lay", "(II)Z"⟩
abbrev cX10_rise : ByteArray := prog_12_method_71_code
def yX10_rise : MethodName := ⟨RX10, "rise", "(I)Z"⟩
abbrev cX10_heldOf : ByteArray := prog_12_method_72_code
def yX10_heldOf : MethodName := ⟨RX10, "heldOf", "(III)I"⟩
abbrev cX10_open : ByteArray := prog_12_method_73_code
def yX10_open : MethodName := ⟨RX10, "open", "(II)I"⟩
abbrev cX10_leaves : ByteArray := prog_12_method_74_code
def yX10_leaves : MethodName := ⟨RX10, "leaves", "(III)I"⟩
abbrev cX10_draw : ByteArray := prog_12_method_75_code
def yX10_draw : MethodName := ⟨RX10, "draw", "(I)I"⟩
abbrev cX10_drawTruth : ByteArray := prog_12_method_76_code
def yX10_drawTruth : MethodName := ⟨RX10, "drawTruth", "(I)I"⟩
abbrev cX10_drawSign : ByteArray := prog_12_method_77_code
def yX10_drawSign : MethodName := ⟨RX10, "drawSign", "(II)I"⟩
abbrev cX10_learn : ByteArray := prog_12_method_78_code
def yX10_learn : MethodName := ⟨RX10, "learn", "(IJI)I"⟩
abbrev cX10_round : ByteArray := prog_12_method_79_code
def yX10_round : MethodName := ⟨RX10, "round", "(I)Z"⟩
abbrev cX10_change_ : ByteArray := prog_12_method_80_code
def yX10_change_ : MethodName := ⟨RX10, "change", "(II)V"⟩
abbrev cX10_learned : ByteArray := prog_12_method_81_code
def yX10_learned : MethodName := ⟨RX10, "learned", "(II)I"⟩
abbrev cX10_got : ByteArray := prog_12_method_82_code
def yX10_got : MethodName := ⟨RX10, "got", "()I"⟩
abbrev cX10_count_ : ByteArray := prog_12_method_83_code
def yX10_count_ : MethodName := ⟨RX10, "count", "(I)I"⟩
def RJx145de : String := "java/io/Serializable"
def TJx145de : u_T := fun k => match k with
  | _ => ("", "", "", false)
def tyJx145de : Nat → FieldType := fun k => match k with
  | _ => .int
theorem nmJx145de : ∀ a, a < 0 → ∀ b, b < 0 → a ≠ b → (TJx145de a).2.1 ≠ (TJx145de b).2.1 := by decide +kernel
theorem tyJx145de_ok : ∀ k, k < 0 → parseFieldDescriptor (TJx145de k).2.2.1 = some (tyJx145de k) := by decide +kernel
def RJ6 : String := "java/lang/Integer"
def TJ6 : u_T := fun k => match k with
  | _ => ("", "", "", false)
def tyJ6 : Nat → FieldType := fun k => match k with
  | _ => .int
theorem nmJ6 : ∀ a, a < 0 → ∀ b, b < 0 → a ≠ b → (TJ6 a).2.1 ≠ (TJ6 b).2.1 := by decide +kernel
theorem tyJ6_ok : ∀ k, k < 0 → parseFieldDescriptor (TJ6 k).2.2.1 = some (tyJ6 k) := by decide +kernel
abbrev cJ6_numberOfTrailingZeros_0f7a4 : ByteArray := prog_15_method_48_code
def yJ6_numberOfTrailingZeros_0f7a4 : MethodName := ⟨RJ6, "numberOfTrailingZeros", "(I)I"⟩
abbrev cJ6_bitCount_0f7a4 : ByteArray := prog_15_method_49_code
def yJ6_bitCount_0f7a4 : MethodName := ⟨RJ6, "bitCount", "(I)I"⟩
def RJ9 : String := "java/lang/Math"
def TJ9 : u_T := fun k => match k with
  | _ => ("", "", "", false)
def tyJ9 : Nat → FieldType := fun k => match k with
  | _ => .int
theorem nmJ9 : ∀ a, a < 0 → ∀ b, b < 0 → a ≠ b → (TJ9 a).2.1 ≠ (TJ9 b).2.1 := by decide +kernel
theorem tyJ9_ok : ∀ k, k < 0 → parseFieldDescriptor (TJ9 k).2.2.1 = some (tyJ9 k) := by decide +kernel
abbrev cJ9_abs_067f4 : ByteArray := prog_16_method_61_code
def yJ9_abs_067f4 : MethodName := ⟨RJ9, "abs", "(J)J"⟩
abbrev cJ9_max_7cf53 : ByteArray := prog_16_method_65_code
def yJ9_max_7cf53 : MethodName := ⟨RJ9, "max", "(II)I"⟩
abbrev cJ9_min_7cf53 : ByteArray := prog_16_method_69_code
def yJ9_min_7cf53 : MethodName := ⟨RJ9, "min", "(II)I"⟩
def RJ0 : String := "java/lang/String"
def TJ0 : u_T := fun k => match k with
  | _ => ("", "", "", false)
def tyJ0 : Nat → FieldType := fun k => match k with
  | _ => .int
theorem nmJ0 : ∀ a, a < 0 → ∀ b, b < 0 → a ≠ b → (TJ0 a).2.1 ≠ (TJ0 b).2.1 := by decide +kernel
theorem tyJ0_ok : ∀ k, k < 0 → parseFieldDescriptor (TJ0 k).2.2.1 = some (tyJ0 k) := by decide +kernel
def RL : String := "SorryToWinLaw"
abbrev cL_truth : ByteArray := method_3_code
def yL_truth : MethodName := ⟨RL, "truth", "(LSorryToWin;III[J)I"⟩
abbrev cL_learned : ByteArray := method_4_code
def yL_learned : MethodName := ⟨RL, "learned", "(LSorryToWin;II[J)I"⟩
abbrev cL_law : ByteArray := code
def yL_law : MethodName := ⟨RL, "law", "([I)Z"⟩
abbrev vwCl : List vw_C := [(RX0, TX0, 2), (RX1, TX1, 12), (RX2, TX2, 8), (RX3, TX3, 7), (RX4, TX4, 5), (RX5, TX5, 11), (RX6, TX6, 7), (RX7, TX7, 5), (RX8, TX8, 6), (RX9, TX9, 13), (RX10, TX10, 54)]
/-- all words that the tables alone decide -/
def sw_U : List Cond := lw_tbl.filter goodWord
theorem sw_in (i : Nat) {w : Cond} (h : lw_tbl[i]? = some w) (g : goodWord w = true) : w ∈ sw_U := List.mem_filter.mpr ⟨List.mem_of_getElem? h, g⟩
theorem sw_tb : ∀ w ∈ sw_U, w ∈ lw_tbl := fun _ h => (List.mem_filter.mp h).1
theorem sw_gd : ∀ w ∈ sw_U, (w.onTables && w.keeps) = true ∨ ∃ ty, w = .arrayClass ty := fun _ h => good_of_word (List.mem_filter.mp h).2
theorem ul_X0_0 : u_lay RX0 TX0 0 ∈ sw_U := sw_in 337 (by decide +kernel) (by decide +kernel)
theorem ul_X0_1 : u_lay RX0 TX0 1 ∈ sw_U := sw_in 339 (by decide +kernel) (by decide +kernel)
theorem u_X0 : ∀ w ∈ u_ws RX0 TX0 2, w ∈ sw_U := by
  intro w hw
  obtain ⟨k, hk, rfl⟩ := List.mem_map.mp hw
  have hk := List.mem_range.mp hk
  match k, hk with
  | 0, _ => exact ul_X0_0
  | 1, _ => exact ul_X0_1
theorem ul_X1_0 : u_lay RX1 TX1 0 ∈ sw_U := sw_in 246 (by decide +kernel) (by decide +kernel)
theorem ul_X1_1 : u_lay RX1 TX1 1 ∈ sw_U := sw_in 248 (by decide +kernel) (by decide +kernel)
theorem ul_X1_2 : u_lay RX1 TX1 2 ∈ sw_U := sw_in 250 (by decide +kernel) (by decide +kernel)
theorem ul_X1_3 : u_lay RX1 TX1 3 ∈ sw_U := sw_in 252 (by decide +kernel) (by decide +kernel)
theorem ul_X1_4 : u_lay RX1 TX1 4 ∈ sw_U := sw_in 254 (by decide +kernel) (by decide +kernel)
theorem ul_X1_5 : u_lay RX1 TX1 5 ∈ sw_U := sw_in 256 (by decide +kernel) (by decide +kernel)
theorem ul_X1_6 : u_lay RX1 TX1 6 ∈ sw_U := sw_in 258 (by decide +kernel) (by decide +kernel)
theorem ul_X1_7 : u_lay RX1 TX1 7 ∈ sw_U := sw_in 260 (by decide +kernel) (by decide +kernel)
theorem ul_X1_8 : u_lay RX1 TX1 8 ∈ sw_U := sw_in 262 (by decide +kernel) (by decide +kernel)
theorem ul_X1_9 : u_lay RX1 TX1 9 ∈ sw_U := sw_in 264 (by decide +kernel) (by decide +kernel)
theorem ul_X1_10 : u_lay RX1 TX1 10 ∈ sw_U := sw_in 266 (by decide +kernel) (by decide +kernel)
theorem ul_X1_11 : u_lay RX1 TX1 11 ∈ sw_U := sw_in 268 (by decide +kernel) (by decide +kernel)
theorem u_X1 : ∀ w ∈ u_ws RX1 TX1 12, w ∈ sw_U := by
  intro w hw
  obtain ⟨k, hk, rfl⟩ := List.mem_map.mp hw
  have hk := List.mem_range.mp hk
  match k, hk with
  | 0, _ => exact ul_X1_0
  | 1, _ => exact ul_X1_1
  | 2, _ => exact ul_X1_2
  | 3, _ => exact ul_X1_3
  | 4, _ => exact ul_X1_4
  | 5, _ => exact ul_X1_5
  | 6, _ => exact ul_X1_6
  | 7, _ => exact ul_X1_7
  | 8, _ => exact ul_X1_8
  | 9, _ => exact ul_X1_9
  | 10, _ => exact ul_X1_10
  | 11, _ => exact ul_X1_11
theorem ul_X2_0 : u_lay RX2 TX2 0 ∈ sw_U := sw_in 424 (by decide +kernel) (by decide +kernel)
theorem ul_X2_1 : u_lay RX2 TX2 1 ∈ sw_U := sw_in 426 (by decide +kernel) (by decide +kernel)
theorem ul_X2_2 : u_lay RX2 TX2 2 ∈ sw_U := sw_in 428 (by decide +kernel) (by decide +kernel)
theorem ul_X2_3 : u_lay RX2 TX2 3 ∈ sw_U := sw_in 430 (by decide +kernel) (by decide +kernel)
theorem ul_X2_4 : u_lay RX2 TX2 4 ∈ sw_U := sw_in 432 (by decide +kernel) (by decide +kernel)
theorem ul_X2_5 : u_lay RX2 TX2 5 ∈ sw_U := sw_in 434 (by decide +kernel) (by decide +kernel)
theorem ul_X2_6 : u_lay RX2 TX2 6 ∈ sw_U := sw_in 436 (by decide +kernel) (by decide +kernel)
theorem ul_X2_7 : u_lay RX2 TX2 7 ∈ sw_U := sw_in 438 (by decide +kernel) (by decide +kernel)
theorem u_X2 : ∀ w ∈ u_ws RX2 TX2 8, w ∈ sw_U := by
  intro w hw
  obtain ⟨k, hk, rfl⟩ := List.mem_map.mp hw
  have hk := List.mem_range.mp hk
  match k, hk with
  | 0, _ => exact ul_X2_0
  | 1, _ => exact ul_X2_1
  | 2, _ => exact ul_X2_2
  | 3, _ => exact ul_X2_3
  | 4, _ => exact ul_X2_4
  | 5, _ => exact ul_X2_5
  | 6, _ => exact ul_X2_6
  | 7, _ => exact ul_X2_7
theorem ul_X3_0 : u_lay RX3 TX3 0 ∈ sw_U := sw_in 387 (by decide +kernel) (by decide +kernel)
theorem ul_X3_1 : u_lay RX3 TX3 1 ∈ sw_U := sw_in 389 (by decide +kernel) (by decide +kernel)
theorem ul_X3_2 : u_lay RX3 TX3 2 ∈ sw_U := sw_in 391 (by decide +kernel) (by decide +kernel)
theorem ul_X3_3 : u_lay RX3 TX3 3 ∈ sw_U := sw_in 393 (by decide +kernel) (by decide +kernel)
theorem ul_X3_4 : u_lay RX3 TX3 4 ∈ sw_U := sw_in 395 (by decide +kernel) (by decide +kernel)
theorem ul_X3_5 : u_lay RX3 TX3 5 ∈ sw_U := sw_in 397 (by decide +kernel) (by decide +kernel)
theorem ul_X3_6 : u_lay RX3 TX3 6 ∈ sw_U := sw_in 399 (by decide +kernel) (by decide +kernel)
theorem u_X3 : ∀ w ∈ u_ws RX3 TX3 7, w ∈ sw_U := by
  intro w hw
  obtain ⟨k, hk, rfl⟩ := List.mem_map.mp hw
  have hk := List.mem_range.mp hk
  match k, hk with
  | 0, _ => exact ul_X3_0
  | 1, _ => exact ul_X3_1
  | 2, _ => exact ul_X3_2
  | 3, _ => exact ul_X3_3
  | 4, _ => exact ul_X3_4
  | 5, _ => exact ul_X3_5
  | 6, _ => exact ul_X3_6
theorem ul_X4_0 : u_lay RX4 TX4 0 ∈ sw_U := sw_in 318 (by decide +kernel) (by decide +kernel)
theorem ul_X4_1 : u_lay RX4 TX4 1 ∈ sw_U := sw_in 320 (by decide +kernel) (by decide +kernel)
theorem ul_X4_2 : u_lay RX4 TX4 2 ∈ sw_U := sw_in 322 (by decide +kernel) (by decide +kernel)
theorem ul_X4_3 : u_lay RX4 TX4 3 ∈ sw_U := sw_in 324 (by decide +kernel) (by decide +kernel)
theorem ul_X4_4 : u_lay RX4 TX4 4 ∈ sw_U := sw_in 326 (by decide +kernel) (by decide +kernel)
theorem u_X4 : ∀ w ∈ u_ws RX4 TX4 5, w ∈ sw_U := by
  intro w hw
  obtain ⟨k, hk, rfl⟩ := List.mem_map.mp hw
  have hk := List.mem_range.mp hk
  match k, hk with
  | 0, _ => exact ul_X4_0
  | 1, _ => exact ul_X4_1
  | 2, _ => exact ul_X4_2
  | 3, _ => exact ul_X4_3
  | 4, _ => exact ul_X4_4
theorem ul_X5_0 : u_lay RX5 TX5 0 ∈ sw_U := sw_in 168 (by decide +kernel) (by decide +kernel)
theorem ul_X5_1 : u_lay RX5 TX5 1 ∈ sw_U := sw_in 170 (by decide +kernel) (by decide +kernel)
theorem ul_X5_2 : u_lay RX5 TX5 2 ∈ sw_U := sw_in 172 (by decide +kernel) (by decide +kernel)
theorem ul_X5_3 : u_lay RX5 TX5 3 ∈ sw_U := sw_in 174 (by decide +kernel) (by decide +kernel)
theorem ul_X5_4 : u_lay RX5 TX5 4 ∈ sw_U := sw_in 176 (by decide +kernel) (by decide +kernel)
theorem ul_X5_5 : u_lay RX5 TX5 5 ∈ sw_U := sw_in 178 (by decide +kernel) (by decide +kernel)
theorem ul_X5_6 : u_lay RX5 TX5 6 ∈ sw_U := sw_in 180 (by decide +kernel) (by decide +kernel)
theorem ul_X5_7 : u_lay RX5 TX5 7 ∈ sw_U := sw_in 182 (by decide +kernel) (by decide +kernel)
theorem ul_X5_8 : u_lay RX5 TX5 8 ∈ sw_U := sw_in 184 (by decide +kernel) (by decide +kernel)
theorem ul_X5_9 : u_lay RX5 TX5 9 ∈ sw_U := sw_in 186 (by decide +kernel) (by decide +kernel)
theorem ul_X5_10 : u_lay RX5 TX5 10 ∈ sw_U := sw_in 188 (by decide +kernel) (by decide +kernel)
theorem u_X5 : ∀ w ∈ u_ws RX5 TX5 11, w ∈ sw_U := by
  intro w hw
  obtain ⟨k, hk, rfl⟩ := List.mem_map.mp hw
  have hk := List.mem_range.mp hk
  match k, hk with
  | 0, _ => exact ul_X5_0
  | 1, _ => exact ul_X5_1
  | 2, _ => exact ul_X5_2
  | 3, _ => exact ul_X5_3
  | 4, _ => exact ul_X5_4
  | 5, _ => exact ul_X5_5
  | 6, _ => exact ul_X5_6
  | 7, _ => exact ul_X5_7
  | 8, _ => exact ul_X5_8
  | 9, _ => exact ul_X5_9
  | 10, _ => exact ul_X5_10
theorem ul_X6_0 : u_lay RX6 TX6 0 ∈ sw_U := sw_in 292 (by decide +kernel) (by decide +kernel)
theorem ul_X6_1 : u_lay RX6 TX6 1 ∈ sw_U := sw_in 294 (by decide +kernel) (by decide +kernel)
theorem ul_X6_2 : u_lay RX6 TX6 2 ∈ sw_U := sw_in 296 (by decide +kernel) (by decide +kernel)
theorem ul_X6_3 : u_lay RX6 TX6 3 ∈ sw_U := sw_in 298 (by decide +kernel) (by decide +kernel)
theorem ul_X6_4 : u_lay RX6 TX6 4 ∈ sw_U := sw_in 300 (by decide +kernel) (by decide +kernel)
theorem ul_X6_5 : u_lay RX6 TX6 5 ∈ sw_U := sw_in 302 (by decide +kernel) (by decide +kernel)
theorem ul_X6_6 : u_lay RX6 TX6 6 ∈ sw_U := sw_in 304 (by decide +kernel) (by decide +kernel)
theorem u_X6 : ∀ w ∈ u_ws RX6 TX6 7, w ∈ sw_U := by
  intro w hw
  obtain ⟨k, hk, rfl⟩ := List.mem_map.mp hw
  have hk := List.mem_range.mp hk
  match k, hk with
  | 0, _ => exact ul_X6_0
  | 1, _ => exact ul_X6_1
  | 2, _ => exact ul_X6_2
  | 3, _ => exact ul_X6_3
  | 4, _ => exact ul_X6_4
  | 5, _ => exact ul_X6_5
  | 6, _ => exact ul_X6_6
theorem ul_X7_0 : u_lay RX7 TX7 0 ∈ sw_U := sw_in 198 (by decide +kernel) (by decide +kernel)
theorem ul_X7_1 : u_lay RX7 TX7 1 ∈ sw_U := sw_in 200 (by decide +kernel) (by decide +kernel)
theorem ul_X7_2 : u_lay RX7 TX7 2 ∈ sw_U := sw_in 202 (by decide +kernel) (by decide +kernel)
theorem ul_X7_3 : u_lay RX7 TX7 3 ∈ sw_U := sw_in 204 (by decide +kernel) (by decide +kernel)
theorem ul_X7_4 : u_lay RX7 TX7 4 ∈ sw_U := sw_in 206 (by decide +kernel) (by decide +kernel)
theorem u_X7 : ∀ w ∈ u_ws RX7 TX7 5, w ∈ sw_U := by
  intro w hw
  obtain ⟨k, hk, rfl⟩ := List.mem_map.mp hw
  have hk := List.mem_range.mp hk
  match k, hk with
  | 0, _ => exact ul_X7_0
  | 1, _ => exact ul_X7_1
  | 2, _ => exact ul_X7_2
  | 3, _ => exact ul_X7_3
  | 4, _ => exact ul_X7_4
theorem ul_X8_0 : u_lay RX8 TX8 0 ∈ sw_U := sw_in 357 (by decide +kernel) (by decide +kernel)
theorem ul_X8_1 : u_lay RX8 TX8 1 ∈ sw_U := sw_in 359 (by decide +kernel) (by decide +kernel)
theorem ul_X8_2 : u_lay RX8 TX8 2 ∈ sw_U := sw_in 361 (by decide +kernel) (by decide +kernel)
theorem ul_X8_3 : u_lay RX8 TX8 3 ∈ sw_U := sw_in 363 (by decide +kernel) (by decide +kernel)
theorem ul_X8_4 : u_lay RX8 TX8 4 ∈ sw_U := sw_in 365 (by decide +kernel) (by decide +kernel)
theorem ul_X8_5 : u_lay RX8 TX8 5 ∈ sw_U := sw_in 367 (by decide +kernel) (by decide +kernel)
theorem u_X8 : ∀ w ∈ u_ws RX8 TX8 6, w ∈ sw_U := by
  intro w hw
  obtain ⟨k, hk, rfl⟩ := List.mem_map.mp hw
  have hk := List.mem_range.mp hk
  match k, hk with
  | 0, _ => exact ul_X8_0
  | 1, _ => exact ul_X8_1
  | 2, _ => exact ul_X8_2
  | 3, _ => exact ul_X8_3
  | 4, _ => exact ul_X8_4
  | 5, _ => exact ul_X8_5
theorem ul_X9_0 : u_lay RX9 TX9 0 ∈ sw_U := sw_in 454 (by decide +kernel) (by decide +kernel)
theorem ul_X9_1 : u_lay RX9 TX9 1 ∈ sw_U := sw_in 456 (by decide +kernel) (by decide +kernel)
theorem ul_X9_2 : u_lay RX9 TX9 2 ∈ sw_U := sw_in 458 (by decide +kernel) (by decide +kernel)
theorem ul_X9_3 : u_lay RX9 TX9 3 ∈ sw_U := sw_in 460 (by decide +kernel) (by decide +kernel)
theorem ul_X9_4 : u_lay RX9 TX9 4 ∈ sw_U := sw_in 462 (by decide +kernel) (by decide +kernel)
theorem ul_X9_5 : u_lay RX9 TX9 5 ∈ sw_U := sw_in 464 (by decide +kernel) (by decide +kernel)
theorem ul_X9_6 : u_lay RX9 TX9 6 ∈ sw_U := sw_in 466 (by decide +kernel) (by decide +kernel)
theorem ul_X9_7 : u_lay RX9 TX9 7 ∈ sw_U := sw_in 468 (by decide +kernel) (by decide +kernel)
theorem ul_X9_8 : u_lay RX9 TX9 8 ∈ sw_U := sw_in 470 (by decide +kernel) (by decide +kernel)
theorem ul_X9_9 : u_lay RX9 TX9 9 ∈ sw_U := sw_in 472 (by decide +kernel) (by decide +kernel)
theorem ul_X9_10 : u_lay RX9 TX9 10 ∈ sw_U := sw_in 474 (by decide +kernel) (by decide +kernel)
theorem ul_X9_11 : u_lay RX9 TX9 11 ∈ sw_U := sw_in 476 (by decide +kernel) (by decide +kernel)
theorem ul_X9_12 : u_lay RX9 TX9 12 ∈ sw_U := sw_in 478 (by decide +kernel) (by decide +kernel)
theorem u_X9 : ∀ w ∈ u_ws RX9 TX9 13, w ∈ sw_U := by
  intro w hw
  obtain ⟨k, hk, rfl⟩ := List.mem_map.mp hw
  have hk := List.mem_range.mp hk
  match k, hk with
  | 0, _ => exact ul_X9_0
  | 1, _ => exact ul_X9_1
  | 2, _ => exact ul_X9_2
  | 3, _ => exact ul_X9_3
  | 4, _ => exact ul_X9_4
  | 5, _ => exact ul_X9_5
  | 6, _ => exact ul_X9_6
  | 7, _ => exact ul_X9_7
  | 8, _ => exact ul_X9_8
  | 9, _ => exact ul_X9_9
  | 10, _ => exact ul_X9_10
  | 11, _ => exact ul_X9_11
  | 12, _ => exact ul_X9_12
theorem ul_X10_0 : u_lay RX10 TX10 0 ∈ sw_U := sw_in 1064 (by decide +kernel) (by decide +kernel)
theorem ul_X10_1 : u_lay RX10 TX10 1 ∈ sw_U := sw_in 1066 (by decide +kernel) (by decide +kernel)
theorem ul_X10_2 : u_lay RX10 TX10 2 ∈ sw_U := sw_in 1068 (by decide +kernel) (by decide +kernel)
theorem ul_X10_3 : u_lay RX10 TX10 3 ∈ sw_U := sw_in 1070 (by decide +kernel) (by decide +kernel)
theorem ul_X10_4 : u_lay RX10 TX10 4 ∈ sw_U := sw_in 1072 (by decide +kernel) (by decide +kernel)
theorem ul_X10_5 : u_lay RX10 TX10 5 ∈ sw_U := sw_in 1074 (by decide +kernel) (by decide +kernel)
theorem ul_X10_6 : u_lay RX10 TX10 6 ∈ sw_U := sw_in 1076 (by decide +kernel) (by decide +kernel)
theorem ul_X10_7 : u_lay RX10 TX10 7 ∈ sw_U := sw_in 1078 (by decide +kernel) (by decide +kernel)
theorem ul_X10_8 : u_lay RX10 TX10 8 ∈ sw_U := sw_in 1080 (by decide +kernel) (by decide +kernel)
theorem ul_X10_9 : u_lay RX10 TX10 9 ∈ sw_U := sw_in 1082 (by decide +kernel) (by decide +kernel)
theorem ul_X10_10 : u_lay RX10 TX10 10 ∈ sw_U := sw_in 1084 (by decide +kernel) (by decide +kernel)
theorem ul_X10_11 : u_lay RX10 TX10 11 ∈ sw_U := sw_in 1086 (by decide +kernel) (by decide +kernel)
theorem ul_X10_12 : u_lay RX10 TX10 12 ∈ sw_U := sw_in 1088 (by decide +kernel) (by decide +kernel)
theorem ul_X10_13 : u_lay RX10 TX10 13 ∈ sw_U := sw_in 1090 (by decide +kernel) (by decide +kernel)
theorem ul_X10_14 : u_lay RX10 TX10 14 ∈ sw_U := sw_in 1092 (by decide +kernel) (by decide +kernel)
theorem ul_X10_15 : u_lay RX10 TX10 15 ∈ sw_U := sw_in 1094 (by decide +kernel) (by decide +kernel)
theorem ul_X10_16 : u_lay RX10 TX10 16 ∈ sw_U := sw_in 1096 (by decide +kernel) (by decide +kernel)
theorem ul_X10_17 : u_lay RX10 TX10 17 ∈ sw_U := sw_in 1098 (by decide +kernel) (by decide +kernel)
theorem ul_X10_18 : u_lay RX10 TX10 18 ∈ sw_U := sw_in 1100 (by decide +kernel) (by decide +kernel)
theorem ul_X10_19 : u_lay RX10 TX10 19 ∈ sw_U := sw_in 1102 (by decide +kernel) (by decide +kernel)
theorem ul_X10_20 : u_lay RX10 TX10 20 ∈ sw_U := sw_in 1104 (by decide +kernel) (by decide +kernel)
theorem ul_X10_21 : u_lay RX10 TX10 21 ∈ sw_U := sw_in 1106 (by decide +kernel) (by decide +kernel)
theorem ul_X10_22 : u_lay RX10 TX10 22 ∈ sw_U := sw_in 1108 (by decide +kernel) (by decide +kernel)
theorem ul_X10_23 : u_lay RX10 TX10 23 ∈ sw_U := sw_in 1110 (by decide +kernel) (by decide +kernel)
theorem ul_X10_24 : u_lay RX10 TX10 24 ∈ sw_U := sw_in 1112 (by decide +kernel) (by decide +kernel)
theorem ul_X10_25 : u_lay RX10 TX10 25 ∈ sw_U := sw_in 1114 (by decide +kernel) (by decide +kernel)
theorem ul_X10_26 : u_lay RX10 TX10 26 ∈ sw_U := sw_in 1116 (by decide +kernel) (by decide +kernel)
theorem ul_X10_27 : u_lay RX10 TX10 27 ∈ sw_U := sw_in 1118 (by decide +kernel) (by decide +kernel)
theorem ul_X10_28 : u_lay RX10 TX10 28 ∈ sw_U := sw_in 1120 (by decide +kernel) (by decide +kernel)
theorem ul_X10_29 : u_lay RX10 TX10 29 ∈ sw_U := sw_in 1122 (by decide +kernel) (by decide +kernel)
theorem ul_X10_30 : u_lay RX10 TX10 30 ∈ sw_U := sw_in 1124 (by decide +kernel) (by decide +kernel)
theorem ul_X10_31 : u_lay RX10 TX10 31 ∈ sw_U := sw_in 1126 (by decide +kernel) (by decide +kernel)
theorem ul_X10_32 : u_lay RX10 TX10 32 ∈ sw_U := sw_in 1128 (by decide +kernel) (by decide +kernel)
theorem ul_X10_33 : u_lay RX10 TX10 33 ∈ sw_U := sw_in 1130 (by decide +kernel) (by decide +kernel)
theorem ul_X10_34 : u_lay RX10 TX10 34 ∈ sw_U := sw_in 1132 (by decide +kernel) (by decide +kernel)
theorem ul_X10_35 : u_lay RX10 TX10 35 ∈ sw_U := sw_in 1134 (by decide +kernel) (by decide +kernel)
theorem ul_X10_36 : u_lay RX10 TX10 36 ∈ sw_U := sw_in 1136 (by decide +kernel) (by decide +kernel)
theorem ul_X10_37 : u_lay RX10 TX10 37 ∈ sw_U := sw_in 1138 (by decide +kernel) (by decide +kernel)
theorem ul_X10_38 : u_lay RX10 TX10 38 ∈ sw_U := sw_in 1140 (by decide +kernel) (by decide +kernel)
theorem ul_X10_39 : u_lay RX10 TX10 39 ∈ sw_U := sw_in 1142 (by decide +kernel) (by decide +kernel)
theorem ul_X10_40 : u_lay RX10 TX10 40 ∈ sw_U := sw_in 1144 (by decide +kernel) (by decide +kernel)
theorem ul_X10_41 : u_lay RX10 TX10 41 ∈ sw_U := sw_in 1146 (by decide +kernel) (by decide +kernel)
theorem ul_X10_42 : u_lay RX10 TX10 42 ∈ sw_U := sw_in 1148 (by decide +kernel) (by decide +kernel)
theorem ul_X10_43 : u_lay RX10 TX10 43 ∈ sw_U := sw_in 1150 (by decide +kernel) (by decide +kernel)
theorem ul_X10_44 : u_lay RX10 TX10 44 ∈ sw_U := sw_in 1152 (by decide +kernel) (by decide +kernel)
theorem ul_X10_45 : u_lay RX10 TX10 45 ∈ sw_U := sw_in 1154 (by decide +kernel) (by decide +kernel)
theorem ul_X10_46 : u_lay RX10 TX10 46 ∈ sw_U := sw_in 1156 (by decide +kernel) (by decide +kernel)
theorem ul_X10_47 : u_lay RX10 TX10 47 ∈ sw_U := sw_in 1158 (by decide +kernel) (by decide +kernel)
theorem ul_X10_48 : u_lay RX10 TX10 48 ∈ sw_U := sw_in 1160 (by decide +kernel) (by decide +kernel)
theorem ul_X10_49 : u_lay RX10 TX10 49 ∈ sw_U := sw_in 1162 (by decide +kernel) (by decide +kernel)
theorem ul_X10_50 : u_lay RX10 TX10 50 ∈ sw_U := sw_in 1164 (by decide +kernel) (by decide +kernel)
theorem ul_X10_51 : u_lay RX10 TX10 51 ∈ sw_U := sw_in 1166 (by decide +kernel) (by decide +kernel)
theorem ul_X10_52 : u_lay RX10 TX10 52 ∈ sw_U := sw_in 1168 (by decide +kernel) (by decide +kernel)
theorem ul_X10_53 : u_lay RX10 TX10 53 ∈ sw_U := sw_in 1170 (by decide +kernel) (by decide +kernel)
theorem u_X10 : ∀ w ∈ u_ws RX10 TX10 54, w ∈ sw_U := by
  intro w hw
  obtain ⟨k, hk, rfl⟩ := List.mem_map.mp hw
  have hk := List.mem_range.mp hk
  match k, hk with
  | 0, _ => exact ul_X10_0
  | 1, _ => exact ul_X10_1
  | 2, _ => exact ul_X10_2
  | 3, _ => exact ul_X10_3
  | 4, _ => exact ul_X10_4
  | 5, _ => exact ul_X10_5
  | 6, _ => exact ul_X10_6
  | 7, _ => exact ul_X10_7
  | 8, _ => exact ul_X10_8
  | 9, _ => exact ul_X10_9
  | 10, _ => exact ul_X10_10
  | 11, _ => exact ul_X10_11
  | 12, _ => exact ul_X10_12
  | 13, _ => exact ul_X10_13
  | 14, _ => exact ul_X10_14
  | 15, _ => exact ul_X10_15
  | 16, _ => exact ul_X10_16
  | 17, _ => exact ul_X10_17
  | 18, _ => exact ul_X10_18
  | 19, _ => exact ul_X10_19
  | 20, _ => exact ul_X10_20
  | 21, _ => exact ul_X10_21
  | 22, _ => exact ul_X10_22
  | 23, _ => exact ul_X10_23
  | 24, _ => exact ul_X10_24
  | 25, _ => exact ul_X10_25
  | 26, _ => exact ul_X10_26
  | 27, _ => exact ul_X10_27
  | 28, _ => exact ul_X10_28
  | 29, _ => exact ul_X10_29
  | 30, _ => exact ul_X10_30
  | 31, _ => exact ul_X10_31
  | 32, _ => exact ul_X10_32
  | 33, _ => exact ul_X10_33
  | 34, _ => exact ul_X10_34
  | 35, _ => exact ul_X10_35
  | 36, _ => exact ul_X10_36
  | 37, _ => exact ul_X10_37
  | 38, _ => exact ul_X10_38
  | 39, _ => exact ul_X10_39
  | 40, _ => exact ul_X10_40
  | 41, _ => exact ul_X10_41
  | 42, _ => exact ul_X10_42
  | 43, _ => exact ul_X10_43
  | 44, _ => exact ul_X10_44
  | 45, _ => exact ul_X10_45
  | 46, _ => exact ul_X10_46
  | 47, _ => exact ul_X10_47
  | 48, _ => exact ul_X10_48
  | 49, _ => exact ul_X10_49
  | 50, _ => exact ul_X10_50
  | 51, _ => exact ul_X10_51
  | 52, _ => exact ul_X10_52
  | 53, _ => exact ul_X10_53
  | n + 54, h => exact absurd h (by omega)
theorem ui_X0 : Cond.initialized RX0 ∈ sw_U := sw_in 88 (by decide +kernel) (by decide +kernel)
theorem un_X0 : Cond.instantiable RX0 2 ∈ sw_U := sw_in 330 (by decide +kernel) (by decide +kernel)
theorem ui_X1 : Cond.initialized RX1 ∈ sw_U := sw_in 85 (by decide +kernel) (by decide +kernel)
theorem un_X1 : Cond.instantiable RX1 12 ∈ sw_U := sw_in 212 (by decide +kernel) (by decide +kernel)
theorem ui_X2 : Cond.initialized RX2 ∈ sw_U := sw_in 91 (by decide +kernel) (by decide +kernel)
theorem un_X2 : Cond.instantiable RX2 8 ∈ sw_U := sw_in 404 (by decide +kernel) (by decide +kernel)
theorem ui_X3 : Cond.initialized RX3 ∈ sw_U := sw_in 90 (by decide +kernel) (by decide +kernel)
theorem un_X3 : Cond.instantiable RX3 7 ∈ sw_U := sw_in 371 (by decide +kernel) (by decide +kernel)
theorem ui_X4 : Cond.initialized RX4 ∈ sw_U := sw_in 87 (by decide +kernel) (by decide +kernel)
theorem un_X4 : Cond.instantiable RX4 5 ∈ sw_U := sw_in 308 (by decide +kernel) (by decide +kernel)
theorem ui_X5 : Cond.initialized RX5 ∈ sw_U := sw_in 84 (by decide +kernel) (by decide +kernel)
theorem un_X5 : Cond.instantiable RX5 11 ∈ sw_U := sw_in 114 (by decide +kernel) (by decide +kernel)
theorem ui_X6 : Cond.initialized RX6 ∈ sw_U := sw_in 86 (by decide +kernel) (by decide +kernel)
theorem un_X6 : Cond.instantiable RX6 7 ∈ sw_U := sw_in 273 (by decide +kernel) (by decide +kernel)
theorem ui_X7 : Cond.initialized RX7 ∈ sw_U := sw_in 83 (by decide +kernel) (by decide +kernel)
theorem un_X7 : Cond.instantiable RX7 5 ∈ sw_U := sw_in 108 (by decide +kernel) (by decide +kernel)
theorem ui_X8 : Cond.initialized RX8 ∈ sw_U := sw_in 89 (by decide +kernel) (by decide +kernel)
theorem un_X8 : Cond.instantiable RX8 6 ∈ sw_U := sw_in 343 (by decide +kernel) (by decide +kernel)
theorem ui_X9 : Cond.initialized RX9 ∈ sw_U := sw_in 82 (by decide +kernel) (by decide +kernel)
theorem un_X9 : Cond.instantiable RX9 13 ∈ sw_U := sw_in 100 (by decide +kernel) (by decide +kernel)
theorem ui_X10 : Cond.initialized RX10 ∈ sw_U := sw_in 92 (by decide +kernel) (by decide +kernel)
theorem un_X10 : Cond.instantiable RX10 54 ∈ sw_U := sw_in 1005 (by decide +kernel) (by decide +kernel)
theorem ui_J6 : Cond.initialized RJ6 ∈ sw_U := sw_in 98 (by decide +kernel) (by decide +kernel)
theorem ui_J9 : Cond.initialized RJ9 ∈ sw_U := sw_in 97 (by decide +kernel) (by decide +kernel)
theorem ui_L : Cond.initialized RL ∈ sw_U := sw_in 81 (by decide +kernel) (by decide +kernel)
theorem ua_int : Cond.arrayClass .int ∈ sw_U := sw_in 191 (by decide +kernel) (by decide +kernel)
theorem ua_long : Cond.arrayClass .long ∈ sw_U := sw_in 271 (by decide +kernel) (by decide +kernel)
theorem ua_boolean : Cond.arrayClass .boolean ∈ sw_U := sw_in 402 (by decide +kernel) (by decide +kernel)
/-- a field link of a class: its index, the class of the object by number, the slot -/
def sw_fl (own : String) (ix ci k : Nat) : Prop := ∃ (C : String) (T : u_T) (N : Nat) (ty0 : Nat → FieldType), vwCl[ci]? = some (C, T, N) ∧ (∀ w ∈ u_ws C T N, w ∈ sw_U) ∧ k < N ∧ Cond.fieldLink own ix (T k).1 (T k).2.1 (T k).2.2.1 ∈ sw_U ∧ (∀ k, k < N → parseFieldDescriptor (T k).2.2.1 = some (ty0 k)) ∧ (∀ a, a < N → ∀ b, b < N → a ≠ b → (T a).2.1 ≠ (T b).2.1)
/-- .. of a field of that type, final or not, declared there -/
def sw_fp (own : String) (ix ci k : Nat) (fin : Bool) (ty : FieldType) : Prop := ∃ (C : String) (T : u_T) (N : Nat) (ty0 : Nat → FieldType), vwCl[ci]? = some (C, T, N) ∧ (∀ w ∈ u_ws C T N, w ∈ sw_U) ∧ k < N ∧ Cond.fieldLink own ix (T k).1 (T k).2.1 (T k).2.2.1 ∈ sw_U ∧ (∀ k, k < N → parseFieldDescriptor (T k).2.2.1 = some (ty0 k)) ∧ (∀ a, a < N → ∀ b, b < N → a ≠ b → (T a).2.1 ≠ (T b).2.1) ∧ (T k).2.2.2 = fin ∧ parseFieldDescriptor (T k).2.2.1 = some ty ∧ (fin = true → (T k).1 = own)
theorem cl_L_8 : Cond.classLink RL 8 RX9 ∈ sw_U := sw_in 99 (by decide +kernel) (by decide +kernel)
theorem ml_L_19 : Cond.methodLink RL 19 yX9_init ∈ sw_U := sw_in 101 (by decide +kernel) (by decide +kernel)
theorem ml_X9_1 : Cond.methodLink RX9 1 objectInit ∈ sw_U := sw_in 104 (by decide +kernel) (by decide +kernel)
theorem cl_X9_7 : Cond.classLink RX9 7 RX7 ∈ sw_U := sw_in 107 (by decide +kernel) (by decide +kernel)
theorem ml_X7_3 : Cond.methodLink RX7 3 objectInit ∈ sw_U := sw_in 112 (by decide +kernel) (by decide +kernel)
theorem cl_X7_19 : Cond.classLink RX7 19 RX5 ∈ sw_U := sw_in 113 (by decide +kernel) (by decide +kernel)
theorem ml_X5_3 : Cond.methodLink RX5 3 objectInit ∈ sw_U := sw_in 118 (by decide +kernel) (by decide +kernel)
theorem fl0_X5_9 : Cond.fieldLink RX5 9 (TX5 0).1 (TX5 0).2.1 (TX5 0).2.2.1 ∈ sw_U := sw_in 119 (by decide +kernel) (by decide +kernel)
theorem fl_X5_9 : sw_fl RX5 9 5 0 := ⟨RX5, TX5, 11, tyX5, rfl, u_X5, by decide, fl0_X5_9, tyX5_ok, nmX5⟩
theorem fp_X5_9 : sw_fp RX5 9 5 0 true (.array .int) := ⟨RX5, TX5, 11, tyX5, rfl, u_X5, by decide, fl0_X5_9, tyX5_ok, nmX5, rfl, by decide +kernel, fun _ => rfl⟩
theorem fl0_X2_54 : Cond.fieldLink RX2 54 (TX5 0).1 (TX5 0).2.1 (TX5 0).2.2.1 ∈ sw_U := sw_in 120 (by decide +kernel) (by decide +kernel)
theorem fl_X2_54 : sw_fl RX2 54 5 0 := ⟨RX5, TX5, 11, tyX5, rfl, u_X5, by decide, fl0_X2_54, tyX5_ok, nmX5⟩
theorem fl0_X9_133 : Cond.fieldLink RX9 133 (TX5 0).1 (TX5 0).2.1 (TX5 0).2.2.1 ∈ sw_U := sw_in 121 (by decide +kernel) (by decide +kernel)
theorem fl_X9_133 : sw_fl RX9 133 5 0 := ⟨RX5, TX5, 11, tyX5, rfl, u_X5, by decide, fl0_X9_133, tyX5_ok, nmX5⟩
theorem fl0_X1_74 : Cond.fieldLink RX1 74 (TX5 0).1 (TX5 0).2.1 (TX5 0).2.2.1 ∈ sw_U := sw_in 122 (by decide +kernel) (by decide +kernel)
theorem fl_X1_74 : sw_fl RX1 74 5 0 := ⟨RX5, TX5, 11, tyX5, rfl, u_X5, by decide, fl0_X1_74, tyX5_ok, nmX5⟩
theorem fl0_X7_68 : Cond.fieldLink RX7 68 (TX5 0).1 (TX5 0).2.1 (TX5 0).2.2.1 ∈ sw_U := sw_in 123 (by decide +kernel) (by decide +kernel)
theorem fl_X7_68 : sw_fl RX7 68 5 0 := ⟨RX5, TX5, 11, tyX5, rfl, u_X5, by decide, fl0_X7_68, tyX5_ok, nmX5⟩
theorem fl0_X5_15 : Cond.fieldLink RX5 15 (TX5 1).1 (TX5 1).2.1 (TX5 1).2.2.1 ∈ sw_U := sw_in 124 (by decide +kernel) (by decide +kernel)
theorem fl_X5_15 : sw_fl RX5 15 5 1 := ⟨RX5, TX5, 11, tyX5, rfl, u_X5, by decide, fl0_X5_15, tyX5_ok, nmX5⟩
theorem fp_X5_15 : sw_fp RX5 15 5 1 true (.array .int) := ⟨RX5, TX5, 11, tyX5, rfl, u_X5, by decide, fl0_X5_15, tyX5_ok, nmX5, rfl, by decide +kernel, fun _ => rfl⟩
theorem fl0_X1_58 : Cond.fieldLink RX1 58 (TX5 1).1 (TX5 1).2.1 (TX5 1).2.2.1 ∈ sw_U := sw_in 125 (by decide +kernel) (by decide +kernel)
theorem fl_X1_58 : sw_fl RX1 58 5 1 := ⟨RX5, TX5, 11, tyX5, rfl, u_X5, by decide, fl0_X1_58, tyX5_ok, nmX5⟩
theorem fl0_X2_81 : Cond.fieldLink RX2 81 (TX5 1).1 (TX5 1).2.1 (TX5 1).2.2.1 ∈ sw_U := sw_in 126 (by decide +kernel) (by decide +kernel)
theorem fl_X2_81 : sw_fl RX2 81 5 1 := ⟨RX5, TX5, 11, tyX5, rfl, u_X5, by decide, fl0_X2_81, tyX5_ok, nmX5⟩
theorem fl0_X9_136 : Cond.fieldLink RX9 136 (TX5 1).1 (TX5 1).2.1 (TX5 1).2.2.1 ∈ sw_U := sw_in 127 (by decide +kernel) (by decide +kernel)
theorem fl_X9_136 : sw_fl RX9 136 5 1 := ⟨RX5, TX5, 11, tyX5, rfl, u_X5, by decide, fl0_X9_136, tyX5_ok, nmX5⟩
theorem fl0_X7_71 : Cond.fieldLink RX7 71 (TX5 1).1 (TX5 1).2.1 (TX5 1).2.2.1 ∈ sw_U := sw_in 128 (by decide +kernel) (by decide +kernel)
theorem fl_X7_71 : sw_fl RX7 71 5 1 := ⟨RX5, TX5, 11, tyX5, rfl, u_X5, by decide, fl0_X7_71, tyX5_ok, nmX5⟩
theorem fl0_X5_18 : Cond.fieldLink RX5 18 (TX5 2).1 (TX5 2).2.1 (TX5 2).2.2.1 ∈ sw_U := sw_in 129 (by decide +kernel) (by decide +kernel)
theorem fl_X5_18 : sw_fl RX5 18 5 2 := ⟨RX5, TX5, 11, tyX5, rfl, u_X5, by decide, fl0_X5_18, tyX5_ok, nmX5⟩
theorem fp_X5_18 : sw_fp RX5 18 5 2 true (.array .int) := ⟨RX5, TX5, 11, tyX5, rfl, u_X5, by decide, fl0_X5_18, tyX5_ok, nmX5, rfl, by decide +kernel, fun _ => rfl⟩
theorem fl0_X1_71 : Cond.fieldLink RX1 71 (TX5 2).1 (TX5 2).2.1 (TX5 2).2.2.1 ∈ sw_U := sw_in 130 (by decide +kernel) (by decide +kernel)
theorem fl_X1_71 : sw_fl RX1 71 5 2 := ⟨RX5, TX5, 11, tyX5, rfl, u_X5, by decide, fl0_X1_71, tyX5_ok, nmX5⟩
theorem fl0_X7_74 : Cond.fieldLink RX7 74 (TX5 2).1 (TX5 2).2.1 (TX5 2).2.2.1 ∈ sw_U := sw_in 131 (by decide +kernel) (by decide +kernel)
theorem fl_X7_74 : sw_fl RX7 74 5 2 := ⟨RX5, TX5, 11, tyX5, rfl, u_X5, by decide, fl0_X7_74, tyX5_ok, nmX5⟩
theorem fl0_X5_21 : Cond.fieldLink RX5 21 (TX5 3).1 (TX5 3).2.1 (TX5 3).2.2.1 ∈ sw_U := sw_in 132 (by decide +kernel) (by decide +kernel)
theorem fl_X5_21 : sw_fl RX5 21 5 3 := ⟨RX5, TX5, 11, tyX5, rfl, u_X5, by decide, fl0_X5_21, tyX5_ok, nmX5⟩
theorem fp_X5_21 : sw_fp RX5 21 5 3 true (.array .int) := ⟨RX5, TX5, 11, tyX5, rfl, u_X5, by decide, fl0_X5_21, tyX5_ok, nmX5, rfl, by decide +kernel, fun _ => rfl⟩
theorem fl0_X9_174 : Cond.fieldLink RX9 174 (TX5 3).1 (TX5 3).2.1 (TX5 3).2.2.1 ∈ sw_U := sw_in 133 (by decide +kernel) (by decide +kernel)
theorem fl_X9_174 : sw_fl RX9 174 5 3 := ⟨RX5, TX5, 11, tyX5, rfl, u_X5, by decide, fl0_X9_174, tyX5_ok, nmX5⟩
theorem fl0_X5_24 : Cond.fieldLink RX5 24 (TX5 4).1 (TX5 4).2.1 (TX5 4).2.2.1 ∈ sw_U := sw_in 134 (by decide +kernel) (by decide +kernel)
theorem fl_X5_24 : sw_fl RX5 24 5 4 := ⟨RX5, TX5, 11, tyX5, rfl, u_X5, by decide, fl0_X5_24, tyX5_ok, nmX5⟩
theorem fp_X5_24 : sw_fp RX5 24 5 4 false .int := ⟨RX5, TX5, 11, tyX5, rfl, u_X5, by decide, fl0_X5_24, tyX5_ok, nmX5, rfl, by decide +kernel, fun _ => rfl⟩
theorem fl0_X7_46 : Cond.fieldLink RX7 46 (TX5 4).1 (TX5 4).2.1 (TX5 4).2.2.1 ∈ sw_U := sw_in 135 (by decide +kernel) (by decide +kernel)
theorem fl_X7_46 : sw_fl RX7 46 5 4 := ⟨RX5, TX5, 11, tyX5, rfl, u_X5, by decide, fl0_X7_46, tyX5_ok, nmX5⟩
theorem fp_X7_46 : sw_fp RX7 46 5 4 false .int := ⟨RX5, TX5, 11, tyX5, rfl, u_X5, by decide, fl0_X7_46, tyX5_ok, nmX5, rfl, by decide +kernel, fun h => by cases h⟩
theorem fl0_X2_84 : Cond.fieldLink RX2 84 (TX5 4).1 (TX5 4).2.1 (TX5 4).2.2.1 ∈ sw_U := sw_in 136 (by decide +kernel) (by decide +kernel)
theorem fl_X2_84 : sw_fl RX2 84 5 4 := ⟨RX5, TX5, 11, tyX5, rfl, u_X5, by decide, fl0_X2_84, tyX5_ok, nmX5⟩
theorem fp_X2_84 : sw_fp RX2 84 5 4 false .int := ⟨RX5, TX5, 11, tyX5, rfl, u_X5, by decide, fl0_X2_84, tyX5_ok, nmX5, rfl, by decide +kernel, fun h => by cases h⟩
theorem fl0_X1_64 : Cond.fieldLink RX1 64 (TX5 4).1 (TX5 4).2.1 (TX5 4).2.2.1 ∈ sw_U := sw_in 137 (by decide +kernel) (by decide +kernel)
theorem fl_X1_64 : sw_fl RX1 64 5 4 := ⟨RX5, TX5, 11, tyX5, rfl, u_X5, by decide, fl0_X1_64, tyX5_ok, nmX5⟩
theorem fp_X1_64 : sw_fp RX1 64 5 4 false .int := ⟨RX5, TX5, 11, tyX5, rfl, u_X5, by decide, fl0_X1_64, tyX5_ok, nmX5, rfl, by decide +kernel, fun h => by cases h⟩
theorem fl0_X9_108 : Cond.fieldLink RX9 108 (TX5 4).1 (TX5 4).2.1 (TX5 4).2.2.1 ∈ sw_U := sw_in 138 (by decide +kernel) (by decide +kernel)
theorem fl_X9_108 : sw_fl RX9 108 5 4 := ⟨RX5, TX5, 11, tyX5, rfl, u_X5, by decide, fl0_X9_108, tyX5_ok, nmX5⟩
theorem fp_X9_108 : sw_fp RX9 108 5 4 false .int := ⟨RX5, TX5, 11, tyX5, rfl, u_X5, by decide, fl0_X9_108, tyX5_ok, nmX5, rfl, by decide +kernel, fun h => by cases h⟩
theorem fl0_X5_28 : Cond.fieldLink RX5 28 (TX5 5).1 (TX5 5).2.1 (TX5 5).2.2.1 ∈ sw_U := sw_in 139 (by decide +kernel) (by decide +kernel)
theorem fl_X5_28 : sw_fl RX5 28 5 5 := ⟨RX5, TX5, 11, tyX5, rfl, u_X5, by decide, fl0_X5_28, tyX5_ok, nmX5⟩
theorem fp_X5_28 : sw_fp RX5 28 5 5 false .int := ⟨RX5, TX5, 11, tyX5, rfl, u_X5, by decide, fl0_X5_28, tyX5_ok, nmX5, rfl, by decide +kernel, fun _ => rfl⟩
theorem fl0_X1_55 : Cond.fieldLink RX1 55 (TX5 5).1 (TX5 5).2.1 (TX5 5).2.2.1 ∈ sw_U := sw_in 140 (by decide +kernel) (by decide +kernel)
theorem fl_X1_55 : sw_fl RX1 55 5 5 := ⟨RX5, TX5, 11, tyX5, rfl, u_X5, by decide, fl0_X1_55, tyX5_ok, nmX5⟩
theorem fp_X1_55 : sw_fp RX1 55 5 5 false .int := ⟨RX5, TX5, 11, tyX5, rfl, u_X5, by decide, fl0_X1_55, tyX5_ok, nmX5, rfl, by decide +kernel, fun h => by cases h⟩
theorem fl0_X2_78 : Cond.fieldLink RX2 78 (TX5 5).1 (TX5 5).2.1 (TX5 5).2.2.1 ∈ sw_U := sw_in 141 (by decide +kernel) (by decide +kernel)
theorem fl_X2_78 : sw_fl RX2 78 5 5 := ⟨RX5, TX5, 11, tyX5, rfl, u_X5, by decide, fl0_X2_78, tyX5_ok, nmX5⟩
theorem fp_X2_78 : sw_fp RX2 78 5 5 false .int := ⟨RX5, TX5, 11, tyX5, rfl, u_X5, by decide, fl0_X2_78, tyX5_ok, nmX5, rfl, by decide +kernel, fun h => by cases h⟩
theorem fl0_X7_49 : Cond.fieldLink RX7 49 (TX5 5).1 (TX5 5).2.1 (TX5 5).2.2.1 ∈ sw_U := sw_in 142 (by decide +kernel) (by decide +kernel)
theorem fl_X7_49 : sw_fl RX7 49 5 5 := ⟨RX5, TX5, 11, tyX5, rfl, u_X5, by decide, fl0_X7_49, tyX5_ok, nmX5⟩
theorem fp_X7_49 : sw_fp RX7 49 5 5 false .int := ⟨RX5, TX5, 11, tyX5, rfl, u_X5, by decide, fl0_X7_49, tyX5_ok, nmX5, rfl, by decide +kernel, fun h => by cases h⟩
theorem fl0_X9_111 : Cond.fieldLink RX9 111 (TX5 5).1 (TX5 5).2.1 (TX5 5).2.2.1 ∈ sw_U := sw_in 143 (by decide +kernel) (by decide +kernel)
theorem fl_X9_111 : sw_fl RX9 111 5 5 := ⟨RX5, TX5, 11, tyX5, rfl, u_X5, by decide, fl0_X9_111, tyX5_ok, nmX5⟩
theorem fp_X9_111 : sw_fp RX9 111 5 5 false .int := ⟨RX5, TX5, 11, tyX5, rfl, u_X5, by decide, fl0_X9_111, tyX5_ok, nmX5, rfl, by decide +kernel, fun h => by cases h⟩
theorem fl0_X5_31 : Cond.fieldLink RX5 31 (TX5 6).1 (TX5 6).2.1 (TX5 6).2.2.1 ∈ sw_U := sw_in 144 (by decide +kernel) (by decide +kernel)
theorem fl_X5_31 : sw_fl RX5 31 5 6 := ⟨RX5, TX5, 11, tyX5, rfl, u_X5, by decide, fl0_X5_31, tyX5_ok, nmX5⟩
theorem fp_X5_31 : sw_fp RX5 31 5 6 false .int := ⟨RX5, TX5, 11, tyX5, rfl, u_X5, by decide, fl0_X5_31, tyX5_ok, nmX5, rfl, by decide +kernel, fun _ => rfl⟩
theorem fl0_X2_42 : Cond.fieldLink RX2 42 (TX5 6).1 (TX5 6).2.1 (TX5 6).2.2.1 ∈ sw_U := sw_in 145 (by decide +kernel) (by decide +kernel)
theorem fl_X2_42 : sw_fl RX2 42 5 6 := ⟨RX5, TX5, 11, tyX5, rfl, u_X5, by decide, fl0_X2_42, tyX5_ok, nmX5⟩
theorem fp_X2_42 : sw_fp RX2 42 5 6 false .int := ⟨RX5, TX5, 11, tyX5, rfl, u_X5, by decide, fl0_X2_42, tyX5_ok, nmX5, rfl, by decide +kernel, fun h => by cases h⟩
theorem fl0_X0_18 : Cond.fieldLink RX0 18 (TX5 6).1 (TX5 6).2.1 (TX5 6).2.2.1 ∈ sw_U := sw_in 146 (by decide +kernel) (by decide +kernel)
theorem fl_X0_18 : sw_fl RX0 18 5 6 := ⟨RX5, TX5, 11, tyX5, rfl, u_X5, by decide, fl0_X0_18, tyX5_ok, nmX5⟩
theorem fp_X0_18 : sw_fp RX0 18 5 6 false .int := ⟨RX5, TX5, 11, tyX5, rfl, u_X5, by decide, fl0_X0_18, tyX5_ok, nmX5, rfl, by decide +kernel, fun h => by cases h⟩
theorem fl0_X3_40 : Cond.fieldLink RX3 40 (TX5 6).1 (TX5 6).2.1 (TX5 6).2.2.1 ∈ sw_U := sw_in 147 (by decide +kernel) (by decide +kernel)
theorem fl_X3_40 : sw_fl RX3 40 5 6 := ⟨RX5, TX5, 11, tyX5, rfl, u_X5, by decide, fl0_X3_40, tyX5_ok, nmX5⟩
theorem fp_X3_40 : sw_fp RX3 40 5 6 false .int := ⟨RX5, TX5, 11, tyX5, rfl, u_X5, by decide, fl0_X3_40, tyX5_ok, nmX5, rfl, by decide +kernel, fun h => by cases h⟩
theorem fl0_X9_114 : Cond.fieldLink RX9 114 (TX5 6).1 (TX5 6).2.1 (TX5 6).2.2.1 ∈ sw_U := sw_in 148 (by decide +kernel) (by decide +kernel)
theorem fl_X9_114 : sw_fl RX9 114 5 6 := ⟨RX5, TX5, 11, tyX5, rfl, u_X5, by decide, fl0_X9_114, tyX5_ok, nmX5⟩
theorem fp_X9_114 : sw_fp RX9 114 5 6 false .int := ⟨RX5, TX5, 11, tyX5, rfl, u_X5, by decide, fl0_X9_114, tyX5_ok, nmX5, rfl, by decide +kernel, fun h => by cases h⟩
theorem fl0_X7_59 : Cond.fieldLink RX7 59 (TX5 6).1 (TX5 6).2.1 (TX5 6).2.2.1 ∈ sw_U := sw_in 149 (by decide +kernel) (by decide +kernel)
theorem fl_X7_59 : sw_fl RX7 59 5 6 := ⟨RX5, TX5, 11, tyX5, rfl, u_X5, by decide, fl0_X7_59, tyX5_ok, nmX5⟩
theorem fp_X7_59 : sw_fp RX7 59 5 6 false .int := ⟨RX5, TX5, 11, tyX5, rfl, u_X5, by decide, fl0_X7_59, tyX5_ok, nmX5, rfl, by decide +kernel, fun h => by cases h⟩
theorem fl0_X5_34 : Cond.fieldLink RX5 34 (TX5 7).1 (TX5 7).2.1 (TX5 7).2.2.1 ∈ sw_U := sw_in 150 (by decide +kernel) (by decide +kernel)
theorem fl_X5_34 : sw_fl RX5 34 5 7 := ⟨RX5, TX5, 11, tyX5, rfl, u_X5, by decide, fl0_X5_34, tyX5_ok, nmX5⟩
theorem fp_X5_34 : sw_fp RX5 34 5 7 false .int := ⟨RX5, TX5, 11, tyX5, rfl, u_X5, by decide, fl0_X5_34, tyX5_ok, nmX5, rfl, by decide +kernel, fun _ => rfl⟩
theorem fl0_X3_35 : Cond.fieldLink RX3 35 (TX5 7).1 (TX5 7).2.1 (TX5 7).2.2.1 ∈ sw_U := sw_in 151 (by decide +kernel) (by decide +kernel)
theorem fl_X3_35 : sw_fl RX3 35 5 7 := ⟨RX5, TX5, 11, tyX5, rfl, u_X5, by decide, fl0_X3_35, tyX5_ok, nmX5⟩
theorem fp_X3_35 : sw_fp RX3 35 5 7 false .int := ⟨RX5, TX5, 11, tyX5, rfl, u_X5, by decide, fl0_X3_35, tyX5_ok, nmX5, rfl, by decide +kernel, fun h => by cases h⟩
theorem fl0_X4_28 : Cond.fieldLink RX4 28 (TX5 7).1 (TX5 7).2.1 (TX5 7).2.2.1 ∈ sw_U := sw_in 152 (by decide +kernel) (by decide +kernel)
theorem fl_X4_28 : sw_fl RX4 28 5 7 := ⟨RX5, TX5, 11, tyX5, rfl, u_X5, by decide, fl0_X4_28, tyX5_ok, nmX5⟩
theorem fp_X4_28 : sw_fp RX4 28 5 7 false .int := ⟨RX5, TX5, 11, tyX5, rfl, u_X5, by decide, fl0_X4_28, tyX5_ok, nmX5, rfl, by decide +kernel, fun h => by cases h⟩
theorem fl0_X6_34 : Cond.fieldLink RX6 34 (TX5 7).1 (TX5 7).2.1 (TX5 7).2.2.1 ∈ sw_U := sw_in 153 (by decide +kernel) (by decide +kernel)
theorem fl_X6_34 : sw_fl RX6 34 5 7 := ⟨RX5, TX5, 11, tyX5, rfl, u_X5, by decide, fl0_X6_34, tyX5_ok, nmX5⟩
theorem fp_X6_34 : sw_fp RX6 34 5 7 false .int := ⟨RX5, TX5, 11, tyX5, rfl, u_X5, by decide, fl0_X6_34, tyX5_ok, nmX5, rfl, by decide +kernel, fun h => by cases h⟩
theorem fl0_X9_117 : Cond.fieldLink RX9 117 (TX5 7).1 (TX5 7).2.1 (TX5 7).2.2.1 ∈ sw_U := sw_in 154 (by decide +kernel) (by decide +kernel)
theorem fl_X9_117 : sw_fl RX9 117 5 7 := ⟨RX5, TX5, 11, tyX5, rfl, u_X5, by decide, fl0_X9_117, tyX5_ok, nmX5⟩
theorem fp_X9_117 : sw_fp RX9 117 5 7 false .int := ⟨RX5, TX5, 11, tyX5, rfl, u_X5, by decide, fl0_X9_117, tyX5_ok, nmX5, rfl, by decide +kernel, fun h => by cases h⟩
theorem fl0_X7_62 : Cond.fieldLink RX7 62 (TX5 7).1 (TX5 7).2.1 (TX5 7).2.2.1 ∈ sw_U := sw_in 155 (by decide +kernel) (by decide +kernel)
theorem fl_X7_62 : sw_fl RX7 62 5 7 := ⟨RX5, TX5, 11, tyX5, rfl, u_X5, by decide, fl0_X7_62, tyX5_ok, nmX5⟩
theorem fp_X7_62 : sw_fp RX7 62 5 7 false .int := ⟨RX5, TX5, 11, tyX5, rfl, u_X5, by decide, fl0_X7_62, tyX5_ok, nmX5, rfl, by decide +kernel, fun h => by cases h⟩
theorem fl0_X2_94 : Cond.fieldLink RX2 94 (TX5 7).1 (TX5 7).2.1 (TX5 7).2.2.1 ∈ sw_U := sw_in 156 (by decide +kernel) (by decide +kernel)
theorem fl_X2_94 : sw_fl RX2 94 5 7 := ⟨RX5, TX5, 11, tyX5, rfl, u_X5, by decide, fl0_X2_94, tyX5_ok, nmX5⟩
theorem fp_X2_94 : sw_fp RX2 94 5 7 false .int := ⟨RX5, TX5, 11, tyX5, rfl, u_X5, by decide, fl0_X2_94, tyX5_ok, nmX5, rfl, by decide +kernel, fun h => by cases h⟩
theorem fl0_X5_37 : Cond.fieldLink RX5 37 (TX5 8).1 (TX5 8).2.1 (TX5 8).2.2.1 ∈ sw_U := sw_in 157 (by decide +kernel) (by decide +kernel)
theorem fl_X5_37 : sw_fl RX5 37 5 8 := ⟨RX5, TX5, 11, tyX5, rfl, u_X5, by decide, fl0_X5_37, tyX5_ok, nmX5⟩
theorem fp_X5_37 : sw_fp RX5 37 5 8 false .int := ⟨RX5, TX5, 11, tyX5, rfl, u_X5, by decide, fl0_X5_37, tyX5_ok, nmX5, rfl, by decide +kernel, fun _ => rfl⟩
theorem fl0_X4_47 : Cond.fieldLink RX4 47 (TX5 8).1 (TX5 8).2.1 (TX5 8).2.2.1 ∈ sw_U := sw_in 158 (by decide +kernel) (by decide +kernel)
theorem fl_X4_47 : sw_fl RX4 47 5 8 := ⟨RX5, TX5, 11, tyX5, rfl, u_X5, by decide, fl0_X4_47, tyX5_ok, nmX5⟩
theorem fp_X4_47 : sw_fp RX4 47 5 8 false .int := ⟨RX5, TX5, 11, tyX5, rfl, u_X5, by decide, fl0_X4_47, tyX5_ok, nmX5, rfl, by decide +kernel, fun h => by cases h⟩
theorem fl0_X6_46 : Cond.fieldLink RX6 46 (TX5 8).1 (TX5 8).2.1 (TX5 8).2.2.1 ∈ sw_U := sw_in 159 (by decide +kernel) (by decide +kernel)
theorem fl_X6_46 : sw_fl RX6 46 5 8 := ⟨RX5, TX5, 11, tyX5, rfl, u_X5, by decide, fl0_X6_46, tyX5_ok, nmX5⟩
theorem fp_X6_46 : sw_fp RX6 46 5 8 false .int := ⟨RX5, TX5, 11, tyX5, rfl, u_X5, by decide, fl0_X6_46, tyX5_ok, nmX5, rfl, by decide +kernel, fun h => by cases h⟩
theorem fl0_X9_120 : Cond.fieldLink RX9 120 (TX5 8).1 (TX5 8).2.1 (TX5 8).2.2.1 ∈ sw_U := sw_in 160 (by decide +kernel) (by decide +kernel)
theorem fl_X9_120 : sw_fl RX9 120 5 8 := ⟨RX5, TX5, 11, tyX5, rfl, u_X5, by decide, fl0_X9_120, tyX5_ok, nmX5⟩
theorem fp_X9_120 : sw_fp RX9 120 5 8 false .int := ⟨RX5, TX5, 11, tyX5, rfl, u_X5, by decide, fl0_X9_120, tyX5_ok, nmX5, rfl, by decide +kernel, fun h => by cases h⟩
theorem fl0_X7_65 : Cond.fieldLink RX7 65 (TX5 8).1 (TX5 8).2.1 (TX5 8).2.2.1 ∈ sw_U := sw_in 161 (by decide +kernel) (by decide +kernel)
theorem fl_X7_65 : sw_fl RX7 65 5 8 := ⟨RX5, TX5, 11, tyX5, rfl, u_X5, by decide, fl0_X7_65, tyX5_ok, nmX5⟩
theorem fp_X7_65 : sw_fp RX7 65 5 8 false .int := ⟨RX5, TX5, 11, tyX5, rfl, u_X5, by decide, fl0_X7_65, tyX5_ok, nmX5, rfl, by decide +kernel, fun h => by cases h⟩
theorem fl0_X1_84 : Cond.fieldLink RX1 84 (TX5 8).1 (TX5 8).2.1 (TX5 8).2.2.1 ∈ sw_U := sw_in 162 (by decide +kernel) (by decide +kernel)
theorem fl_X1_84 : sw_fl RX1 84 5 8 := ⟨RX5, TX5, 11, tyX5, rfl, u_X5, by decide, fl0_X1_84, tyX5_ok, nmX5⟩
theorem fp_X1_84 : sw_fp RX1 84 5 8 false .int := ⟨RX5, TX5, 11, tyX5, rfl, u_X5, by decide, fl0_X1_84, tyX5_ok, nmX5, rfl, by decide +kernel, fun h => by cases h⟩
theorem fl0_X2_100 : Cond.fieldLink RX2 100 (TX5 8).1 (TX5 8).2.1 (TX5 8).2.2.1 ∈ sw_U := sw_in 163 (by decide +kernel) (by decide +kernel)
theorem fl_X2_100 : sw_fl RX2 100 5 8 := ⟨RX5, TX5, 11, tyX5, rfl, u_X5, by decide, fl0_X2_100, tyX5_ok, nmX5⟩
theorem fp_X2_100 : sw_fp RX2 100 5 8 false .int := ⟨RX5, TX5, 11, tyX5, rfl, u_X5, by decide, fl0_X2_100, tyX5_ok, nmX5, rfl, by decide +kernel, fun h => by cases h⟩
theorem fl0_X5_40 : Cond.fieldLink RX5 40 (TX5 9).1 (TX5 9).2.1 (TX5 9).2.2.1 ∈ sw_U := sw_in 164 (by decide +kernel) (by decide +kernel)
theorem fl_X5_40 : sw_fl RX5 40 5 9 := ⟨RX5, TX5, 11, tyX5, rfl, u_X5, by decide, fl0_X5_40, tyX5_ok, nmX5⟩
theorem fp_X5_40 : sw_fp RX5 40 5 9 false .long := ⟨RX5, TX5, 11, tyX5, rfl, u_X5, by decide, fl0_X5_40, tyX5_ok, nmX5, rfl, by decide +kernel, fun _ => rfl⟩
theorem fl0_X9_160 : Cond.fieldLink RX9 160 (TX5 9).1 (TX5 9).2.1 (TX5 9).2.2.1 ∈ sw_U := sw_in 165 (by decide +kernel) (by decide +kernel)
theorem fl_X9_160 : sw_fl RX9 160 5 9 := ⟨RX5, TX5, 11, tyX5, rfl, u_X5, by decide, fl0_X9_160, tyX5_ok, nmX5⟩
theorem fp_X9_160 : sw_fp RX9 160 5 9 false .long := ⟨RX5, TX5, 11, tyX5, rfl, u_X5, by decide, fl0_X9_160, tyX5_ok, nmX5, rfl, by decide +kernel, fun h => by cases h⟩
theorem fl0_X5_44 : Cond.fieldLink RX5 44 (TX5 10).1 (TX5 10).2.1 (TX5 10).2.2.1 ∈ sw_U := sw_in 166 (by decide +kernel) (by decide +kernel)
theorem fl_X5_44 : sw_fl RX5 44 5 10 := ⟨RX5, TX5, 11, tyX5, rfl, u_X5, by decide, fl0_X5_44, tyX5_ok, nmX5⟩
theorem fp_X5_44 : sw_fp RX5 44 5 10 false .long := ⟨RX5, TX5, 11, tyX5, rfl, u_X5, by decide, fl0_X5_44, tyX5_ok, nmX5, rfl, by decide +kernel, fun _ => rfl⟩
theorem fl0_X9_164 : Cond.fieldLink RX9 164 (TX5 10).1 (TX5 10).2.1 (TX5 10).2.2.1 ∈ sw_U := sw_in 167 (by decide +kernel) (by decide +kernel)
theorem fl_X9_164 : sw_fl RX9 164 5 10 := ⟨RX5, TX5, 11, tyX5, rfl, u_X5, by decide, fl0_X9_164, tyX5_ok, nmX5⟩
theorem fp_X9_164 : sw_fp RX9 164 5 10 false .long := ⟨RX5, TX5, 11, tyX5, rfl, u_X5, by decide, fl0_X9_164, tyX5_ok, nmX5, rfl, by decide +kernel, fun h => by cases h⟩
theorem fl0_X7_9 : Cond.fieldLink RX7 9 (TX7 0).1 (TX7 0).2.1 (TX7 0).2.2.1 ∈ sw_U := sw_in 192 (by decide +kernel) (by decide +kernel)
theorem fl_X7_9 : sw_fl RX7 9 7 0 := ⟨RX7, TX7, 5, tyX7, rfl, u_X7, by decide, fl0_X7_9, tyX7_ok, nmX7⟩
theorem fp_X7_9 : sw_fp RX7 9 7 0 true (.array .int) := ⟨RX7, TX7, 5, tyX7, rfl, u_X7, by decide, fl0_X7_9, tyX7_ok, nmX7, rfl, by decide +kernel, fun _ => rfl⟩
theorem fl0_X7_15 : Cond.fieldLink RX7 15 (TX7 1).1 (TX7 1).2.1 (TX7 1).2.2.1 ∈ sw_U := sw_in 193 (by decide +kernel) (by decide +kernel)
theorem fl_X7_15 : sw_fl RX7 15 7 1 := ⟨RX7, TX7, 5, tyX7, rfl, u_X7, by decide, fl0_X7_15, tyX7_ok, nmX7⟩
theorem fp_X7_15 : sw_fp RX7 15 7 1 false .int := ⟨RX7, TX7, 5, tyX7, rfl, u_X7, by decide, fl0_X7_15, tyX7_ok, nmX7, rfl, by decide +kernel, fun _ => rfl⟩
theorem fl0_X9_89 : Cond.fieldLink RX9 89 (TX7 1).1 (TX7 1).2.1 (TX7 1).2.2.1 ∈ sw_U := sw_in 194 (by decide +kernel) (by decide +kernel)
theorem fl_X9_89 : sw_fl RX9 89 7 1 := ⟨RX7, TX7, 5, tyX7, rfl, u_X7, by decide, fl0_X9_89, tyX7_ok, nmX7⟩
theorem fp_X9_89 : sw_fp RX9 89 7 1 false .int := ⟨RX7, TX7, 5, tyX7, rfl, u_X7, by decide, fl0_X9_89, tyX7_ok, nmX7, rfl, by decide +kernel, fun h => by cases h⟩
theorem fl0_X7_22 : Cond.fieldLink RX7 22 (TX7 2).1 (TX7 2).2.1 (TX7 2).2.2.1 ∈ sw_U := sw_in 195 (by decide +kernel) (by decide +kernel)
theorem fl_X7_22 : sw_fl RX7 22 7 2 := ⟨RX7, TX7, 5, tyX7, rfl, u_X7, by decide, fl0_X7_22, tyX7_ok, nmX7⟩
theorem fp_X7_22 : sw_fp RX7 22 7 2 false (.object "SorryToWin$Sale") := ⟨RX7, TX7, 5, tyX7, rfl, u_X7, by decide, fl0_X7_22, tyX7_ok, nmX7, rfl, by decide +kernel, fun _ => rfl⟩
theorem fl0_X7_26 : Cond.fieldLink RX7 26 (TX7 3).1 (TX7 3).2.1 (TX7 3).2.2.1 ∈ sw_U := sw_in 196 (by decide +kernel) (by decide +kernel)
theorem fl_X7_26 : sw_fl RX7 26 7 3 := ⟨RX7, TX7, 5, tyX7, rfl, u_X7, by decide, fl0_X7_26, tyX7_ok, nmX7⟩
theorem fp_X7_26 : sw_fp RX7 26 7 3 false .int := ⟨RX7, TX7, 5, tyX7, rfl, u_X7, by decide, fl0_X7_26, tyX7_ok, nmX7, rfl, by decide +kernel, fun _ => rfl⟩
theorem fl0_X7_29 : Cond.fieldLink RX7 29 (TX7 4).1 (TX7 4).2.1 (TX7 4).2.2.1 ∈ sw_U := sw_in 197 (by decide +kernel) (by decide +kernel)
theorem fl_X7_29 : sw_fl RX7 29 7 4 := ⟨RX7, TX7, 5, tyX7, rfl, u_X7, by decide, fl0_X7_29, tyX7_ok, nmX7⟩
theorem fp_X7_29 : sw_fp RX7 29 7 4 false .int := ⟨RX7, TX7, 5, tyX7, rfl, u_X7, by decide, fl0_X7_29, tyX7_ok, nmX7, rfl, by decide +kernel, fun _ => rfl⟩
theorem cl_X9_16 : Cond.classLink RX9 16 RX5 ∈ sw_U := sw_in 209 (by decide +kernel) (by decide +kernel)
theorem cl_X9_36 : Cond.classLink RX9 36 RX1 ∈ sw_U := sw_in 211 (by decide +kernel) (by decide +kernel)
theorem ml_X1_3 : Cond.methodLink RX1 3 objectInit ∈ sw_U := sw_in 216 (by decide +kernel) (by decide +kernel)
theorem cl_X1_22 : Cond.classLink RX1 22 RX5 ∈ sw_U := sw_in 217 (by decide +kernel) (by decide +kernel)
theorem fl0_X1_9 : Cond.fieldLink RX1 9 (TX1 0).1 (TX1 0).2.1 (TX1 0).2.2.1 ∈ sw_U := sw_in 219 (by decide +kernel) (by decide +kernel)
theorem fl_X1_9 : sw_fl RX1 9 1 0 := ⟨RX1, TX1, 12, tyX1, rfl, u_X1, by decide, fl0_X1_9, tyX1_ok, nmX1⟩
theorem fp_X1_9 : sw_fp RX1 9 1 0 true (.array .int) := ⟨RX1, TX1, 12, tyX1, rfl, u_X1, by decide, fl0_X1_9, tyX1_ok, nmX1, rfl, by decide +kernel, fun _ => rfl⟩
theorem fl0_X1_15 : Cond.fieldLink RX1 15 (TX1 1).1 (TX1 1).2.1 (TX1 1).2.2.1 ∈ sw_U := sw_in 220 (by decide +kernel) (by decide +kernel)
theorem fl_X1_15 : sw_fl RX1 15 1 1 := ⟨RX1, TX1, 12, tyX1, rfl, u_X1, by decide, fl0_X1_15, tyX1_ok, nmX1⟩
theorem fp_X1_15 : sw_fp RX1 15 1 1 true (.array .int) := ⟨RX1, TX1, 12, tyX1, rfl, u_X1, by decide, fl0_X1_15, tyX1_ok, nmX1, rfl, by decide +kernel, fun _ => rfl⟩
theorem fl0_X6_85 : Cond.fieldLink RX6 85 (TX1 1).1 (TX1 1).2.1 (TX1 1).2.2.1 ∈ sw_U := sw_in 221 (by decide +kernel) (by decide +kernel)
theorem fl_X6_85 : sw_fl RX6 85 1 1 := ⟨RX1, TX1, 12, tyX1, rfl, u_X1, by decide, fl0_X6_85, tyX1_ok, nmX1⟩
theorem fl0_X1_18 : Cond.fieldLink RX1 18 (TX1 2).1 (TX1 2).2.1 (TX1 2).2.2.1 ∈ sw_U := sw_in 222 (by decide +kernel) (by decide +kernel)
theorem fl_X1_18 : sw_fl RX1 18 1 2 := ⟨RX1, TX1, 12, tyX1, rfl, u_X1, by decide, fl0_X1_18, tyX1_ok, nmX1⟩
theorem fp_X1_18 : sw_fp RX1 18 1 2 true (.array .long) := ⟨RX1, TX1, 12, tyX1, rfl, u_X1, by decide, fl0_X1_18, tyX1_ok, nmX1, rfl, by decide +kernel, fun _ => rfl⟩
theorem fl0_X1_25 : Cond.fieldLink RX1 25 (TX1 3).1 (TX1 3).2.1 (TX1 3).2.2.1 ∈ sw_U := sw_in 223 (by decide +kernel) (by decide +kernel)
theorem fl_X1_25 : sw_fl RX1 25 1 3 := ⟨RX1, TX1, 12, tyX1, rfl, u_X1, by decide, fl0_X1_25, tyX1_ok, nmX1⟩
theorem fp_X1_25 : sw_fp RX1 25 1 3 false (.object "SorryToWin$Sale") := ⟨RX1, TX1, 12, tyX1, rfl, u_X1, by decide, fl0_X1_25, tyX1_ok, nmX1, rfl, by decide +kernel, fun _ => rfl⟩
theorem fl0_X1_29 : Cond.fieldLink RX1 29 (TX1 4).1 (TX1 4).2.1 (TX1 4).2.2.1 ∈ sw_U := sw_in 224 (by decide +kernel) (by decide +kernel)
theorem fl_X1_29 : sw_fl RX1 29 1 4 := ⟨RX1, TX1, 12, tyX1, rfl, u_X1, by decide, fl0_X1_29, tyX1_ok, nmX1⟩
theorem fp_X1_29 : sw_fp RX1 29 1 4 false .int := ⟨RX1, TX1, 12, tyX1, rfl, u_X1, by decide, fl0_X1_29, tyX1_ok, nmX1, rfl, by decide +kernel, fun _ => rfl⟩
theorem fl0_X6_75 : Cond.fieldLink RX6 75 (TX1 4).1 (TX1 4).2.1 (TX1 4).2.2.1 ∈ sw_U := sw_in 225 (by decide +kernel) (by decide +kernel)
theorem fl_X6_75 : sw_fl RX6 75 1 4 := ⟨RX1, TX1, 12, tyX1, rfl, u_X1, by decide, fl0_X6_75, tyX1_ok, nmX1⟩
theorem fp_X6_75 : sw_fp RX6 75 1 4 false .int := ⟨RX1, TX1, 12, tyX1, rfl, u_X1, by decide, fl0_X6_75, tyX1_ok, nmX1, rfl, by decide +kernel, fun h => by cases h⟩
theorem fl0_X1_33 : Cond.fieldLink RX1 33 (TX1 5).1 (TX1 5).2.1 (TX1 5).2.2.1 ∈ sw_U := sw_in 226 (by decide +kernel) (by decide +kernel)
theorem fl_X1_33 : sw_fl RX1 33 1 5 := ⟨RX1, TX1, 12, tyX1, rfl, u_X1, by decide, fl0_X1_33, tyX1_ok, nmX1⟩
theorem fp_X1_33 : sw_fp RX1 33 1 5 false .int := ⟨RX1, TX1, 12, tyX1, rfl, u_X1, by decide, fl0_X1_33, tyX1_ok, nmX1, rfl, by decide +kernel, fun _ => rfl⟩
theorem fl0_X6_96 : Cond.fieldLink RX6 96 (TX1 5).1 (TX1 5).2.1 (TX1 5).2.2.1 ∈ sw_U := sw_in 227 (by decide +kernel) (by decide +kernel)
theorem fl_X6_96 : sw_fl RX6 96 1 5 := ⟨RX1, TX1, 12, tyX1, rfl, u_X1, by decide, fl0_X6_96, tyX1_ok, nmX1⟩
theorem fp_X6_96 : sw_fp RX6 96 1 5 false .int := ⟨RX1, TX1, 12, tyX1, rfl, u_X1, by decide, fl0_X6_96, tyX1_ok, nmX1, rfl, by decide +kernel, fun h => by cases h⟩
theorem fl0_X1_36 : Cond.fieldLink RX1 36 (TX1 6).1 (TX1 6).2.1 (TX1 6).2.2.1 ∈ sw_U := sw_in 228 (by decide +kernel) (by decide +kernel)
theorem fl_X1_36 : sw_fl RX1 36 1 6 := ⟨RX1, TX1, 12, tyX1, rfl, u_X1, by decide, fl0_X1_36, tyX1_ok, nmX1⟩
theorem fp_X1_36 : sw_fp RX1 36 1 6 false .long := ⟨RX1, TX1, 12, tyX1, rfl, u_X1, by decide, fl0_X1_36, tyX1_ok, nmX1, rfl, by decide +kernel, fun _ => rfl⟩
theorem fl0_X0_32 : Cond.fieldLink RX0 32 (TX1 6).1 (TX1 6).2.1 (TX1 6).2.2.1 ∈ sw_U := sw_in 229 (by decide +kernel) (by decide +kernel)
theorem fl_X0_32 : sw_fl RX0 32 1 6 := ⟨RX1, TX1, 12, tyX1, rfl, u_X1, by decide, fl0_X0_32, tyX1_ok, nmX1⟩
theorem fp_X0_32 : sw_fp RX0 32 1 6 false .long := ⟨RX1, TX1, 12, tyX1, rfl, u_X1, by decide, fl0_X0_32, tyX1_ok, nmX1, rfl, by decide +kernel, fun h => by cases h⟩
theorem fl0_X4_57 : Cond.fieldLink RX4 57 (TX1 6).1 (TX1 6).2.1 (TX1 6).2.2.1 ∈ sw_U := sw_in 230 (by decide +kernel) (by decide +kernel)
theorem fl_X4_57 : sw_fl RX4 57 1 6 := ⟨RX1, TX1, 12, tyX1, rfl, u_X1, by decide, fl0_X4_57, tyX1_ok, nmX1⟩
theorem fp_X4_57 : sw_fp RX4 57 1 6 false .long := ⟨RX1, TX1, 12, tyX1, rfl, u_X1, by decide, fl0_X4_57, tyX1_ok, nmX1, rfl, by decide +kernel, fun h => by cases h⟩
theorem fl0_X6_58 : Cond.fieldLink RX6 58 (TX1 6).1 (TX1 6).2.1 (TX1 6).2.2.1 ∈ sw_U := sw_in 231 (by decide +kernel) (by decide +kernel)
theorem fl_X6_58 : sw_fl RX6 58 1 6 := ⟨RX1, TX1, 12, tyX1, rfl, u_X1, by decide, fl0_X6_58, tyX1_ok, nmX1⟩
theorem fp_X6_58 : sw_fp RX6 58 1 6 false .long := ⟨RX1, TX1, 12, tyX1, rfl, u_X1, by decide, fl0_X6_58, tyX1_ok, nmX1, rfl, by decide +kernel, fun h => by cases h⟩
theorem fl0_X1_40 : Cond.fieldLink RX1 40 (TX1 7).1 (TX1 7).2.1 (TX1 7).2.2.1 ∈ sw_U := sw_in 232 (by decide +kernel) (by decide +kernel)
theorem fl_X1_40 : sw_fl RX1 40 1 7 := ⟨RX1, TX1, 12, tyX1, rfl, u_X1, by decide, fl0_X1_40, tyX1_ok, nmX1⟩
theorem fp_X1_40 : sw_fp RX1 40 1 7 false .long := ⟨RX1, TX1, 12, tyX1, rfl, u_X1, by decide, fl0_X1_40, tyX1_ok, nmX1, rfl, by decide +kernel, fun _ => rfl⟩
theorem fl0_X4_59 : Cond.fieldLink RX4 59 (TX1 7).1 (TX1 7).2.1 (TX1 7).2.2.1 ∈ sw_U := sw_in 233 (by decide +kernel) (by decide +kernel)
theorem fl_X4_59 : sw_fl RX4 59 1 7 := ⟨RX1, TX1, 12, tyX1, rfl, u_X1, by decide, fl0_X4_59, tyX1_ok, nmX1⟩
theorem fp_X4_59 : sw_fp RX4 59 1 7 false .long := ⟨RX1, TX1, 12, tyX1, rfl, u_X1, by decide, fl0_X4_59, tyX1_ok, nmX1, rfl, by decide +kernel, fun h => by cases h⟩
theorem fl0_X6_89 : Cond.fieldLink RX6 89 (TX1 7).1 (TX1 7).2.1 (TX1 7).2.2.1 ∈ sw_U := sw_in 234 (by decide +kernel) (by decide +kernel)
theorem fl_X6_89 : sw_fl RX6 89 1 7 := ⟨RX1, TX1, 12, tyX1, rfl, u_X1, by decide, fl0_X6_89, tyX1_ok, nmX1⟩
theorem fp_X6_89 : sw_fp RX6 89 1 7 false .long := ⟨RX1, TX1, 12, tyX1, rfl, u_X1, by decide, fl0_X6_89, tyX1_ok, nmX1, rfl, by decide +kernel, fun h => by cases h⟩
theorem fl0_X1_43 : Cond.fieldLink RX1 43 (TX1 8).1 (TX1 8).2.1 (TX1 8).2.2.1 ∈ sw_U := sw_in 235 (by decide +kernel) (by decide +kernel)
theorem fl_X1_43 : sw_fl RX1 43 1 8 := ⟨RX1, TX1, 12, tyX1, rfl, u_X1, by decide, fl0_X1_43, tyX1_ok, nmX1⟩
theorem fp_X1_43 : sw_fp RX1 43 1 8 false .int := ⟨RX1, TX1, 12, tyX1, rfl, u_X1, by decide, fl0_X1_43, tyX1_ok, nmX1, rfl, by decide +kernel, fun _ => rfl⟩
theorem fl0_X0_30 : Cond.fieldLink RX0 30 (TX1 8).1 (TX1 8).2.1 (TX1 8).2.2.1 ∈ sw_U := sw_in 236 (by decide +kernel) (by decide +kernel)
theorem fl_X0_30 : sw_fl RX0 30 1 8 := ⟨RX1, TX1, 12, tyX1, rfl, u_X1, by decide, fl0_X0_30, tyX1_ok, nmX1⟩
theorem fp_X0_30 : sw_fp RX0 30 1 8 false .int := ⟨RX1, TX1, 12, tyX1, rfl, u_X1, by decide, fl0_X0_30, tyX1_ok, nmX1, rfl, by decide +kernel, fun h => by cases h⟩
theorem fl0_X4_61 : Cond.fieldLink RX4 61 (TX1 8).1 (TX1 8).2.1 (TX1 8).2.2.1 ∈ sw_U := sw_in 237 (by decide +kernel) (by decide +kernel)
theorem fl_X4_61 : sw_fl RX4 61 1 8 := ⟨RX1, TX1, 12, tyX1, rfl, u_X1, by decide, fl0_X4_61, tyX1_ok, nmX1⟩
theorem fp_X4_61 : sw_fp RX4 61 1 8 false .int := ⟨RX1, TX1, 12, tyX1, rfl, u_X1, by decide, fl0_X4_61, tyX1_ok, nmX1, rfl, by decide +kernel, fun h => by cases h⟩
theorem fl0_X6_82 : Cond.fieldLink RX6 82 (TX1 8).1 (TX1 8).2.1 (TX1 8).2.2.1 ∈ sw_U := sw_in 238 (by decide +kernel) (by decide +kernel)
theorem fl_X6_82 : sw_fl RX6 82 1 8 := ⟨RX1, TX1, 12, tyX1, rfl, u_X1, by decide, fl0_X6_82, tyX1_ok, nmX1⟩
theorem fp_X6_82 : sw_fp RX6 82 1 8 false .int := ⟨RX1, TX1, 12, tyX1, rfl, u_X1, by decide, fl0_X6_82, tyX1_ok, nmX1, rfl, by decide +kernel, fun h => by cases h⟩
theorem fl0_X1_46 : Cond.fieldLink RX1 46 (TX1 9).1 (TX1 9).2.1 (TX1 9).2.2.1 ∈ sw_U := sw_in 239 (by decide +kernel) (by decide +kernel)
theorem fl_X1_46 : sw_fl RX1 46 1 9 := ⟨RX1, TX1, 12, tyX1, rfl, u_X1, by decide, fl0_X1_46, tyX1_ok, nmX1⟩
theorem fp_X1_46 : sw_fp RX1 46 1 9 false .int := ⟨RX1, TX1, 12, tyX1, rfl, u_X1, by decide, fl0_X1_46, tyX1_ok, nmX1, rfl, by decide +kernel, fun _ => rfl⟩
theorem fl0_X4_54 : Cond.fieldLink RX4 54 (TX1 9).1 (TX1 9).2.1 (TX1 9).2.2.1 ∈ sw_U := sw_in 240 (by decide +kernel) (by decide +kernel)
theorem fl_X4_54 : sw_fl RX4 54 1 9 := ⟨RX1, TX1, 12, tyX1, rfl, u_X1, by decide, fl0_X4_54, tyX1_ok, nmX1⟩
theorem fp_X4_54 : sw_fp RX4 54 1 9 false .int := ⟨RX1, TX1, 12, tyX1, rfl, u_X1, by decide, fl0_X4_54, tyX1_ok, nmX1, rfl, by decide +kernel, fun h => by cases h⟩
theorem fl0_X6_61 : Cond.fieldLink RX6 61 (TX1 9).1 (TX1 9).2.1 (TX1 9).2.2.1 ∈ sw_U := sw_in 241 (by decide +kernel) (by decide +kernel)
theorem fl_X6_61 : sw_fl RX6 61 1 9 := ⟨RX1, TX1, 12, tyX1, rfl, u_X1, by decide, fl0_X6_61, tyX1_ok, nmX1⟩
theorem fp_X6_61 : sw_fp RX6 61 1 9 false .int := ⟨RX1, TX1, 12, tyX1, rfl, u_X1, by decide, fl0_X6_61, tyX1_ok, nmX1, rfl, by decide +kernel, fun h => by cases h⟩
theorem fl0_X1_49 : Cond.fieldLink RX1 49 (TX1 10).1 (TX1 10).2.1 (TX1 10).2.2.1 ∈ sw_U := sw_in 242 (by decide +kernel) (by decide +kernel)
theorem fl_X1_49 : sw_fl RX1 49 1 10 := ⟨RX1, TX1, 12, tyX1, rfl, u_X1, by decide, fl0_X1_49, tyX1_ok, nmX1⟩
theorem fp_X1_49 : sw_fp RX1 49 1 10 false .int := ⟨RX1, TX1, 12, tyX1, rfl, u_X1, by decide, fl0_X1_49, tyX1_ok, nmX1, rfl, by decide +kernel, fun _ => rfl⟩
theorem fl0_X0_40 : Cond.fieldLink RX0 40 (TX1 10).1 (TX1 10).2.1 (TX1 10).2.2.1 ∈ sw_U := sw_in 243 (by decide +kernel) (by decide +kernel)
theorem fl_X0_40 : sw_fl RX0 40 1 10 := ⟨RX1, TX1, 12, tyX1, rfl, u_X1, by decide, fl0_X0_40, tyX1_ok, nmX1⟩
theorem fp_X0_40 : sw_fp RX0 40 1 10 false .int := ⟨RX1, TX1, 12, tyX1, rfl, u_X1, by decide, fl0_X0_40, tyX1_ok, nmX1, rfl, by decide +kernel, fun h => by cases h⟩
theorem fl0_X1_52 : Cond.fieldLink RX1 52 (TX1 11).1 (TX1 11).2.1 (TX1 11).2.2.1 ∈ sw_U := sw_in 244 (by decide +kernel) (by decide +kernel)
theorem fl_X1_52 : sw_fl RX1 52 1 11 := ⟨RX1, TX1, 12, tyX1, rfl, u_X1, by decide, fl0_X1_52, tyX1_ok, nmX1⟩
theorem fp_X1_52 : sw_fp RX1 52 1 11 false .int := ⟨RX1, TX1, 12, tyX1, rfl, u_X1, by decide, fl0_X1_52, tyX1_ok, nmX1, rfl, by decide +kernel, fun _ => rfl⟩
theorem fl0_X6_68 : Cond.fieldLink RX6 68 (TX1 11).1 (TX1 11).2.1 (TX1 11).2.2.1 ∈ sw_U := sw_in 245 (by decide +kernel) (by decide +kernel)
theorem fl_X6_68 : sw_fl RX6 68 1 11 := ⟨RX1, TX1, 12, tyX1, rfl, u_X1, by decide, fl0_X6_68, tyX1_ok, nmX1⟩
theorem fp_X6_68 : sw_fp RX6 68 1 11 false .int := ⟨RX1, TX1, 12, tyX1, rfl, u_X1, by decide, fl0_X6_68, tyX1_ok, nmX1, rfl, by decide +kernel, fun h => by cases h⟩
theorem cl_X9_43 : Cond.classLink RX9 43 RX6 ∈ sw_U := sw_in 272 (by decide +kernel) (by decide +kernel)
theorem ml_X6_3 : Cond.methodLink RX6 3 objectInit ∈ sw_U := sw_in 277 (by decide +kernel) (by decide +kernel)
theorem fl0_X6_9 : Cond.fieldLink RX6 9 (TX6 0).1 (TX6 0).2.1 (TX6 0).2.2.1 ∈ sw_U := sw_in 278 (by decide +kernel) (by decide +kernel)
theorem fl_X6_9 : sw_fl RX6 9 6 0 := ⟨RX6, TX6, 7, tyX6, rfl, u_X6, by decide, fl0_X6_9, tyX6_ok, nmX6⟩
theorem fp_X6_9 : sw_fp RX6 9 6 0 false .long := ⟨RX6, TX6, 7, tyX6, rfl, u_X6, by decide, fl0_X6_9, tyX6_ok, nmX6, rfl, by decide +kernel, fun _ => rfl⟩
theorem fl0_X9_190 : Cond.fieldLink RX9 190 (TX6 0).1 (TX6 0).2.1 (TX6 0).2.2.1 ∈ sw_U := sw_in 279 (by decide +kernel) (by decide +kernel)
theorem fl_X9_190 : sw_fl RX9 190 6 0 := ⟨RX6, TX6, 7, tyX6, rfl, u_X6, by decide, fl0_X9_190, tyX6_ok, nmX6⟩
theorem fp_X9_190 : sw_fp RX9 190 6 0 false .long := ⟨RX6, TX6, 7, tyX6, rfl, u_X6, by decide, fl0_X9_190, tyX6_ok, nmX6, rfl, by decide +kernel, fun h => by cases h⟩
theorem fl0_X6_15 : Cond.fieldLink RX6 15 (TX6 1).1 (TX6 1).2.1 (TX6 1).2.2.1 ∈ sw_U := sw_in 280 (by decide +kernel) (by decide +kernel)
theorem fl_X6_15 : sw_fl RX6 15 6 1 := ⟨RX6, TX6, 7, tyX6, rfl, u_X6, by decide, fl0_X6_15, tyX6_ok, nmX6⟩
theorem fp_X6_15 : sw_fp RX6 15 6 1 false .long := ⟨RX6, TX6, 7, tyX6, rfl, u_X6, by decide, fl0_X6_15, tyX6_ok, nmX6, rfl, by decide +kernel, fun _ => rfl⟩
theorem fl0_X9_193 : Cond.fieldLink RX9 193 (TX6 1).1 (TX6 1).2.1 (TX6 1).2.2.1 ∈ sw_U := sw_in 281 (by decide +kernel) (by decide +kernel)
theorem fl_X9_193 : sw_fl RX9 193 6 1 := ⟨RX6, TX6, 7, tyX6, rfl, u_X6, by decide, fl0_X9_193, tyX6_ok, nmX6⟩
theorem fp_X9_193 : sw_fp RX9 193 6 1 false .long := ⟨RX6, TX6, 7, tyX6, rfl, u_X6, by decide, fl0_X9_193, tyX6_ok, nmX6, rfl, by decide +kernel, fun h => by cases h⟩
theorem fl0_X6_18 : Cond.fieldLink RX6 18 (TX6 2).1 (TX6 2).2.1 (TX6 2).2.2.1 ∈ sw_U := sw_in 282 (by decide +kernel) (by decide +kernel)
theorem fl_X6_18 : sw_fl RX6 18 6 2 := ⟨RX6, TX6, 7, tyX6, rfl, u_X6, by decide, fl0_X6_18, tyX6_ok, nmX6⟩
theorem fp_X6_18 : sw_fp RX6 18 6 2 false .long := ⟨RX6, TX6, 7, tyX6, rfl, u_X6, by decide, fl0_X6_18, tyX6_ok, nmX6, rfl, by decide +kernel, fun _ => rfl⟩
theorem fl0_X9_196 : Cond.fieldLink RX9 196 (TX6 2).1 (TX6 2).2.1 (TX6 2).2.2.1 ∈ sw_U := sw_in 283 (by decide +kernel) (by decide +kernel)
theorem fl_X9_196 : sw_fl RX9 196 6 2 := ⟨RX6, TX6, 7, tyX6, rfl, u_X6, by decide, fl0_X9_196, tyX6_ok, nmX6⟩
theorem fp_X9_196 : sw_fp RX9 196 6 2 false .long := ⟨RX6, TX6, 7, tyX6, rfl, u_X6, by decide, fl0_X9_196, tyX6_ok, nmX6, rfl, by decide +kernel, fun h => by cases h⟩
theorem fl0_X6_21 : Cond.fieldLink RX6 21 (TX6 3).1 (TX6 3).2.1 (TX6 3).2.2.1 ∈ sw_U := sw_in 284 (by decide +kernel) (by decide +kernel)
theorem fl_X6_21 : sw_fl RX6 21 6 3 := ⟨RX6, TX6, 7, tyX6, rfl, u_X6, by decide, fl0_X6_21, tyX6_ok, nmX6⟩
theorem fp_X6_21 : sw_fp RX6 21 6 3 false .long := ⟨RX6, TX6, 7, tyX6, rfl, u_X6, by decide, fl0_X6_21, tyX6_ok, nmX6, rfl, by decide +kernel, fun _ => rfl⟩
theorem fl0_X9_199 : Cond.fieldLink RX9 199 (TX6 3).1 (TX6 3).2.1 (TX6 3).2.2.1 ∈ sw_U := sw_in 285 (by decide +kernel) (by decide +kernel)
theorem fl_X9_199 : sw_fl RX9 199 6 3 := ⟨RX6, TX6, 7, tyX6, rfl, u_X6, by decide, fl0_X9_199, tyX6_ok, nmX6⟩
theorem fp_X9_199 : sw_fp RX9 199 6 3 false .long := ⟨RX6, TX6, 7, tyX6, rfl, u_X6, by decide, fl0_X9_199, tyX6_ok, nmX6, rfl, by decide +kernel, fun h => by cases h⟩
theorem fl0_X6_24 : Cond.fieldLink RX6 24 (TX6 4).1 (TX6 4).2.1 (TX6 4).2.2.1 ∈ sw_U := sw_in 286 (by decide +kernel) (by decide +kernel)
theorem fl_X6_24 : sw_fl RX6 24 6 4 := ⟨RX6, TX6, 7, tyX6, rfl, u_X6, by decide, fl0_X6_24, tyX6_ok, nmX6⟩
theorem fp_X6_24 : sw_fp RX6 24 6 4 true (.array .long) := ⟨RX6, TX6, 7, tyX6, rfl, u_X6, by decide, fl0_X6_24, tyX6_ok, nmX6, rfl, by decide +kernel, fun _ => rfl⟩
theorem fl0_X9_204 : Cond.fieldLink RX9 204 (TX6 4).1 (TX6 4).2.1 (TX6 4).2.2.1 ∈ sw_U := sw_in 287 (by decide +kernel) (by decide +kernel)
theorem fl_X9_204 : sw_fl RX9 204 6 4 := ⟨RX6, TX6, 7, tyX6, rfl, u_X6, by decide, fl0_X9_204, tyX6_ok, nmX6⟩
theorem fl0_X6_28 : Cond.fieldLink RX6 28 (TX6 5).1 (TX6 5).2.1 (TX6 5).2.2.1 ∈ sw_U := sw_in 288 (by decide +kernel) (by decide +kernel)
theorem fl_X6_28 : sw_fl RX6 28 6 5 := ⟨RX6, TX6, 7, tyX6, rfl, u_X6, by decide, fl0_X6_28, tyX6_ok, nmX6⟩
theorem fp_X6_28 : sw_fp RX6 28 6 5 true (.array .long) := ⟨RX6, TX6, 7, tyX6, rfl, u_X6, by decide, fl0_X6_28, tyX6_ok, nmX6, rfl, by decide +kernel, fun _ => rfl⟩
theorem fl0_X9_212 : Cond.fieldLink RX9 212 (TX6 5).1 (TX6 5).2.1 (TX6 5).2.2.1 ∈ sw_U := sw_in 289 (by decide +kernel) (by decide +kernel)
theorem fl_X9_212 : sw_fl RX9 212 6 5 := ⟨RX6, TX6, 7, tyX6, rfl, u_X6, by decide, fl0_X9_212, tyX6_ok, nmX6⟩
theorem fl0_X6_31 : Cond.fieldLink RX6 31 (TX6 6).1 (TX6 6).2.1 (TX6 6).2.2.1 ∈ sw_U := sw_in 290 (by decide +kernel) (by decide +kernel)
theorem fl_X6_31 : sw_fl RX6 31 6 6 := ⟨RX6, TX6, 7, tyX6, rfl, u_X6, by decide, fl0_X6_31, tyX6_ok, nmX6⟩
theorem fp_X6_31 : sw_fp RX6 31 6 6 true (.array .long) := ⟨RX6, TX6, 7, tyX6, rfl, u_X6, by decide, fl0_X6_31, tyX6_ok, nmX6, rfl, by decide +kernel, fun _ => rfl⟩
theorem fl0_X9_215 : Cond.fieldLink RX9 215 (TX6 6).1 (TX6 6).2.1 (TX6 6).2.2.1 ∈ sw_U := sw_in 291 (by decide +kernel) (by decide +kernel)
theorem fl_X9_215 : sw_fl RX9 215 6 6 := ⟨RX6, TX6, 7, tyX6, rfl, u_X6, by decide, fl0_X9_215, tyX6_ok, nmX6⟩
theorem cl_X9_50 : Cond.classLink RX9 50 RX4 ∈ sw_U := sw_in 307 (by decide +kernel) (by decide +kernel)
theorem ml_X4_3 : Cond.methodLink RX4 3 objectInit ∈ sw_U := sw_in 312 (by decide +kernel) (by decide +kernel)
theorem fl0_X4_9 : Cond.fieldLink RX4 9 (TX4 0).1 (TX4 0).2.1 (TX4 0).2.2.1 ∈ sw_U := sw_in 313 (by decide +kernel) (by decide +kernel)
theorem fl_X4_9 : sw_fl RX4 9 4 0 := ⟨RX4, TX4, 5, tyX4, rfl, u_X4, by decide, fl0_X4_9, tyX4_ok, nmX4⟩
theorem fp_X4_9 : sw_fp RX4 9 4 0 true (.array .long) := ⟨RX4, TX4, 5, tyX4, rfl, u_X4, by decide, fl0_X4_9, tyX4_ok, nmX4, rfl, by decide +kernel, fun _ => rfl⟩
theorem fl0_X4_15 : Cond.fieldLink RX4 15 (TX4 1).1 (TX4 1).2.1 (TX4 1).2.2.1 ∈ sw_U := sw_in 314 (by decide +kernel) (by decide +kernel)
theorem fl_X4_15 : sw_fl RX4 15 4 1 := ⟨RX4, TX4, 5, tyX4, rfl, u_X4, by decide, fl0_X4_15, tyX4_ok, nmX4⟩
theorem fp_X4_15 : sw_fp RX4 15 4 1 true (.array .long) := ⟨RX4, TX4, 5, tyX4, rfl, u_X4, by decide, fl0_X4_15, tyX4_ok, nmX4, rfl, by decide +kernel, fun _ => rfl⟩
theorem fl0_X4_18 : Cond.fieldLink RX4 18 (TX4 2).1 (TX4 2).2.1 (TX4 2).2.2.1 ∈ sw_U := sw_in 315 (by decide +kernel) (by decide +kernel)
theorem fl_X4_18 : sw_fl RX4 18 4 2 := ⟨RX4, TX4, 5, tyX4, rfl, u_X4, by decide, fl0_X4_18, tyX4_ok, nmX4⟩
theorem fp_X4_18 : sw_fp RX4 18 4 2 false .long := ⟨RX4, TX4, 5, tyX4, rfl, u_X4, by decide, fl0_X4_18, tyX4_ok, nmX4, rfl, by decide +kernel, fun _ => rfl⟩
theorem fl0_X4_22 : Cond.fieldLink RX4 22 (TX4 3).1 (TX4 3).2.1 (TX4 3).2.2.1 ∈ sw_U := sw_in 316 (by decide +kernel) (by decide +kernel)
theorem fl_X4_22 : sw_fl RX4 22 4 3 := ⟨RX4, TX4, 5, tyX4, rfl, u_X4, by decide, fl0_X4_22, tyX4_ok, nmX4⟩
theorem fp_X4_22 : sw_fp RX4 22 4 3 false .long := ⟨RX4, TX4, 5, tyX4, rfl, u_X4, by decide, fl0_X4_22, tyX4_ok, nmX4, rfl, by decide +kernel, fun _ => rfl⟩
theorem fl0_X4_25 : Cond.fieldLink RX4 25 (TX4 4).1 (TX4 4).2.1 (TX4 4).2.2.1 ∈ sw_U := sw_in 317 (by decide +kernel) (by decide +kernel)
theorem fl_X4_25 : sw_fl RX4 25 4 4 := ⟨RX4, TX4, 5, tyX4, rfl, u_X4, by decide, fl0_X4_25, tyX4_ok, nmX4⟩
theorem fp_X4_25 : sw_fp RX4 25 4 4 true (.array .long) := ⟨RX4, TX4, 5, tyX4, rfl, u_X4, by decide, fl0_X4_25, tyX4_ok, nmX4, rfl, by decide +kernel, fun _ => rfl⟩
theorem cl_X9_57 : Cond.classLink RX9 57 RX0 ∈ sw_U := sw_in 329 (by decide +kernel) (by decide +kernel)
theorem ml_X0_3 : Cond.methodLink RX0 3 objectInit ∈ sw_U := sw_in 334 (by decide +kernel) (by decide +kernel)
theorem fl0_X0_9 : Cond.fieldLink RX0 9 (TX0 0).1 (TX0 0).2.1 (TX0 0).2.2.1 ∈ sw_U := sw_in 335 (by decide +kernel) (by decide +kernel)
theorem fl_X0_9 : sw_fl RX0 9 0 0 := ⟨RX0, TX0, 2, tyX0, rfl, u_X0, by decide, fl0_X0_9, tyX0_ok, nmX0⟩
theorem fp_X0_9 : sw_fp RX0 9 0 0 true (.array .long) := ⟨RX0, TX0, 2, tyX0, rfl, u_X0, by decide, fl0_X0_9, tyX0_ok, nmX0, rfl, by decide +kernel, fun _ => rfl⟩
theorem fl0_X0_15 : Cond.fieldLink RX0 15 (TX0 1).1 (TX0 1).2.1 (TX0 1).2.2.1 ∈ sw_U := sw_in 336 (by decide +kernel) (by decide +kernel)
theorem fl_X0_15 : sw_fl RX0 15 0 1 := ⟨RX0, TX0, 2, tyX0, rfl, u_X0, by decide, fl0_X0_15, tyX0_ok, nmX0⟩
theorem fp_X0_15 : sw_fp RX0 15 0 1 true (.array .long) := ⟨RX0, TX0, 2, tyX0, rfl, u_X0, by decide, fl0_X0_15, tyX0_ok, nmX0, rfl, by decide +kernel, fun _ => rfl⟩
theorem cl_X9_64 : Cond.classLink RX9 64 RX8 ∈ sw_U := sw_in 342 (by decide +kernel) (by decide +kernel)
theorem ml_X8_3 : Cond.methodLink RX8 3 objectInit ∈ sw_U := sw_in 347 (by decide +kernel) (by decide +kernel)
theorem fl0_X8_9 : Cond.fieldLink RX8 9 (TX8 0).1 (TX8 0).2.1 (TX8 0).2.2.1 ∈ sw_U := sw_in 348 (by decide +kernel) (by decide +kernel)
theorem fl_X8_9 : sw_fl RX8 9 8 0 := ⟨RX8, TX8, 6, tyX8, rfl, u_X8, by decide, fl0_X8_9, tyX8_ok, nmX8⟩
theorem fp_X8_9 : sw_fp RX8 9 8 0 true (.array .int) := ⟨RX8, TX8, 6, tyX8, rfl, u_X8, by decide, fl0_X8_9, tyX8_ok, nmX8, rfl, by decide +kernel, fun _ => rfl⟩
theorem fl0_X8_15 : Cond.fieldLink RX8 15 (TX8 1).1 (TX8 1).2.1 (TX8 1).2.2.1 ∈ sw_U := sw_in 349 (by decide +kernel) (by decide +kernel)
theorem fl_X8_15 : sw_fl RX8 15 8 1 := ⟨RX8, TX8, 6, tyX8, rfl, u_X8, by decide, fl0_X8_15, tyX8_ok, nmX8⟩
theorem fp_X8_15 : sw_fp RX8 15 8 1 true (.array .int) := ⟨RX8, TX8, 6, tyX8, rfl, u_X8, by decide, fl0_X8_15, tyX8_ok, nmX8, rfl, by decide +kernel, fun _ => rfl⟩
theorem fl0_X9_336 : Cond.fieldLink RX9 336 (TX8 1).1 (TX8 1).2.1 (TX8 1).2.2.1 ∈ sw_U := sw_in 350 (by decide +kernel) (by decide +kernel)
theorem fl_X9_336 : sw_fl RX9 336 8 1 := ⟨RX8, TX8, 6, tyX8, rfl, u_X8, by decide, fl0_X9_336, tyX8_ok, nmX8⟩
theorem fl0_X8_18 : Cond.fieldLink RX8 18 (TX8 2).1 (TX8 2).2.1 (TX8 2).2.2.1 ∈ sw_U := sw_in 351 (by decide +kernel) (by decide +kernel)
theorem fl_X8_18 : sw_fl RX8 18 8 2 := ⟨RX8, TX8, 6, tyX8, rfl, u_X8, by decide, fl0_X8_18, tyX8_ok, nmX8⟩
theorem fp_X8_18 : sw_fp RX8 18 8 2 true (.array .int) := ⟨RX8, TX8, 6, tyX8, rfl, u_X8, by decide, fl0_X8_18, tyX8_ok, nmX8, rfl, by decide +kernel, fun _ => rfl⟩
theorem fl0_X9_231 : Cond.fieldLink RX9 231 (TX8 2).1 (TX8 2).2.1 (TX8 2).2.2.1 ∈ sw_U := sw_in 352 (by decide +kernel) (by decide +kernel)
theorem fl_X9_231 : sw_fl RX9 231 8 2 := ⟨RX8, TX8, 6, tyX8, rfl, u_X8, by decide, fl0_X9_231, tyX8_ok, nmX8⟩
theorem fl0_X8_21 : Cond.fieldLink RX8 21 (TX8 3).1 (TX8 3).2.1 (TX8 3).2.2.1 ∈ sw_U := sw_in 353 (by decide +kernel) (by decide +kernel)
theorem fl_X8_21 : sw_fl RX8 21 8 3 := ⟨RX8, TX8, 6, tyX8, rfl, u_X8, by decide, fl0_X8_21, tyX8_ok, nmX8⟩
theorem fp_X8_21 : sw_fp RX8 21 8 3 false .int := ⟨RX8, TX8, 6, tyX8, rfl, u_X8, by decide, fl0_X8_21, tyX8_ok, nmX8, rfl, by decide +kernel, fun _ => rfl⟩
theorem fl0_X8_25 : Cond.fieldLink RX8 25 (TX8 4).1 (TX8 4).2.1 (TX8 4).2.2.1 ∈ sw_U := sw_in 354 (by decide +kernel) (by decide +kernel)
theorem fl_X8_25 : sw_fl RX8 25 8 4 := ⟨RX8, TX8, 6, tyX8, rfl, u_X8, by decide, fl0_X8_25, tyX8_ok, nmX8⟩
theorem fp_X8_25 : sw_fp RX8 25 8 4 false .int := ⟨RX8, TX8, 6, tyX8, rfl, u_X8, by decide, fl0_X8_25, tyX8_ok, nmX8, rfl, by decide +kernel, fun _ => rfl⟩
theorem fl0_X8_28 : Cond.fieldLink RX8 28 (TX8 5).1 (TX8 5).2.1 (TX8 5).2.2.1 ∈ sw_U := sw_in 355 (by decide +kernel) (by decide +kernel)
theorem fl_X8_28 : sw_fl RX8 28 8 5 := ⟨RX8, TX8, 6, tyX8, rfl, u_X8, by decide, fl0_X8_28, tyX8_ok, nmX8⟩
theorem fp_X8_28 : sw_fp RX8 28 8 5 false .int := ⟨RX8, TX8, 6, tyX8, rfl, u_X8, by decide, fl0_X8_28, tyX8_ok, nmX8, rfl, by decide +kernel, fun _ => rfl⟩
theorem fl0_X9_251 : Cond.fieldLink RX9 251 (TX8 5).1 (TX8 5).2.1 (TX8 5).2.2.1 ∈ sw_U := sw_in 356 (by decide +kernel) (by decide +kernel)
theorem fl_X9_251 : sw_fl RX9 251 8 5 := ⟨RX8, TX8, 6, tyX8, rfl, u_X8, by decide, fl0_X9_251, tyX8_ok, nmX8⟩
theorem fp_X9_251 : sw_fp RX9 251 8 5 false .int := ⟨RX8, TX8, 6, tyX8, rfl, u_X8, by decide, fl0_X9_251, tyX8_ok, nmX8, rfl, by decide +kernel, fun h => by cases h⟩
theorem cl_X9_71 : Cond.classLink RX9 71 RX3 ∈ sw_U := sw_in 370 (by decide +kernel) (by decide +kernel)
theorem ml_X3_3 : Cond.methodLink RX3 3 objectInit ∈ sw_U := sw_in 375 (by decide +kernel) (by decide +kernel)
theorem fl0_X3_9 : Cond.fieldLink RX3 9 (TX3 0).1 (TX3 0).2.1 (TX3 0).2.2.1 ∈ sw_U := sw_in 376 (by decide +kernel) (by decide +kernel)
theorem fl_X3_9 : sw_fl RX3 9 3 0 := ⟨RX3, TX3, 7, tyX3, rfl, u_X3, by decide, fl0_X3_9, tyX3_ok, nmX3⟩
theorem fp_X3_9 : sw_fp RX3 9 3 0 true (.array .int) := ⟨RX3, TX3, 7, tyX3, rfl, u_X3, by decide, fl0_X3_9, tyX3_ok, nmX3, rfl, by decide +kernel, fun _ => rfl⟩
theorem fl0_X9_306 : Cond.fieldLink RX9 306 (TX3 0).1 (TX3 0).2.1 (TX3 0).2.2.1 ∈ sw_U := sw_in 377 (by decide +kernel) (by decide +kernel)
theorem fl_X9_306 : sw_fl RX9 306 3 0 := ⟨RX3, TX3, 7, tyX3, rfl, u_X3, by decide, fl0_X9_306, tyX3_ok, nmX3⟩
theorem fl0_X3_15 : Cond.fieldLink RX3 15 (TX3 1).1 (TX3 1).2.1 (TX3 1).2.2.1 ∈ sw_U := sw_in 378 (by decide +kernel) (by decide +kernel)
theorem fl_X3_15 : sw_fl RX3 15 3 1 := ⟨RX3, TX3, 7, tyX3, rfl, u_X3, by decide, fl0_X3_15, tyX3_ok, nmX3⟩
theorem fp_X3_15 : sw_fp RX3 15 3 1 true (.array .int) := ⟨RX3, TX3, 7, tyX3, rfl, u_X3, by decide, fl0_X3_15, tyX3_ok, nmX3, rfl, by decide +kernel, fun _ => rfl⟩
theorem fl0_X9_309 : Cond.fieldLink RX9 309 (TX3 1).1 (TX3 1).2.1 (TX3 1).2.2.1 ∈ sw_U := sw_in 379 (by decide +kernel) (by decide +kernel)
theorem fl_X9_309 : sw_fl RX9 309 3 1 := ⟨RX3, TX3, 7, tyX3, rfl, u_X3, by decide, fl0_X9_309, tyX3_ok, nmX3⟩
theorem fl0_X3_18 : Cond.fieldLink RX3 18 (TX3 2).1 (TX3 2).2.1 (TX3 2).2.2.1 ∈ sw_U := sw_in 380 (by decide +kernel) (by decide +kernel)
theorem fl_X3_18 : sw_fl RX3 18 3 2 := ⟨RX3, TX3, 7, tyX3, rfl, u_X3, by decide, fl0_X3_18, tyX3_ok, nmX3⟩
theorem fp_X3_18 : sw_fp RX3 18 3 2 true (.array .boolean) := ⟨RX3, TX3, 7, tyX3, rfl, u_X3, by decide, fl0_X3_18, tyX3_ok, nmX3, rfl, by decide +kernel, fun _ => rfl⟩
theorem fl0_X3_22 : Cond.fieldLink RX3 22 (TX3 3).1 (TX3 3).2.1 (TX3 3).2.2.1 ∈ sw_U := sw_in 381 (by decide +kernel) (by decide +kernel)
theorem fl_X3_22 : sw_fl RX3 22 3 3 := ⟨RX3, TX3, 7, tyX3, rfl, u_X3, by decide, fl0_X3_22, tyX3_ok, nmX3⟩
theorem fp_X3_22 : sw_fp RX3 22 3 3 true (.array .int) := ⟨RX3, TX3, 7, tyX3, rfl, u_X3, by decide, fl0_X3_22, tyX3_ok, nmX3, rfl, by decide +kernel, fun _ => rfl⟩
theorem fl0_X3_25 : Cond.fieldLink RX3 25 (TX3 4).1 (TX3 4).2.1 (TX3 4).2.2.1 ∈ sw_U := sw_in 382 (by decide +kernel) (by decide +kernel)
theorem fl_X3_25 : sw_fl RX3 25 3 4 := ⟨RX3, TX3, 7, tyX3, rfl, u_X3, by decide, fl0_X3_25, tyX3_ok, nmX3⟩
theorem fp_X3_25 : sw_fp RX3 25 3 4 false .int := ⟨RX3, TX3, 7, tyX3, rfl, u_X3, by decide, fl0_X3_25, tyX3_ok, nmX3, rfl, by decide +kernel, fun _ => rfl⟩
theorem fl0_X3_29 : Cond.fieldLink RX3 29 (TX3 5).1 (TX3 5).2.1 (TX3 5).2.2.1 ∈ sw_U := sw_in 383 (by decide +kernel) (by decide +kernel)
theorem fl_X3_29 : sw_fl RX3 29 3 5 := ⟨RX3, TX3, 7, tyX3, rfl, u_X3, by decide, fl0_X3_29, tyX3_ok, nmX3⟩
theorem fp_X3_29 : sw_fp RX3 29 3 5 false .int := ⟨RX3, TX3, 7, tyX3, rfl, u_X3, by decide, fl0_X3_29, tyX3_ok, nmX3, rfl, by decide +kernel, fun _ => rfl⟩
theorem fl0_X9_300 : Cond.fieldLink RX9 300 (TX3 5).1 (TX3 5).2.1 (TX3 5).2.2.1 ∈ sw_U := sw_in 384 (by decide +kernel) (by decide +kernel)
theorem fl_X9_300 : sw_fl RX9 300 3 5 := ⟨RX3, TX3, 7, tyX3, rfl, u_X3, by decide, fl0_X9_300, tyX3_ok, nmX3⟩
theorem fp_X9_300 : sw_fp RX9 300 3 5 false .int := ⟨RX3, TX3, 7, tyX3, rfl, u_X3, by decide, fl0_X9_300, tyX3_ok, nmX3, rfl, by decide +kernel, fun h => by cases h⟩
theorem fl0_X3_32 : Cond.fieldLink RX3 32 (TX3 6).1 (TX3 6).2.1 (TX3 6).2.2.1 ∈ sw_U := sw_in 385 (by decide +kernel) (by decide +kernel)
theorem fl_X3_32 : sw_fl RX3 32 3 6 := ⟨RX3, TX3, 7, tyX3, rfl, u_X3, by decide, fl0_X3_32, tyX3_ok, nmX3⟩
theorem fp_X3_32 : sw_fp RX3 32 3 6 false .int := ⟨RX3, TX3, 7, tyX3, rfl, u_X3, by decide, fl0_X3_32, tyX3_ok, nmX3, rfl, by decide +kernel, fun _ => rfl⟩
theorem fl0_X9_303 : Cond.fieldLink RX9 303 (TX3 6).1 (TX3 6).2.1 (TX3 6).2.2.1 ∈ sw_U := sw_in 386 (by decide +kernel) (by decide +kernel)
theorem fl_X9_303 : sw_fl RX9 303 3 6 := ⟨RX3, TX3, 7, tyX3, rfl, u_X3, by decide, fl0_X9_303, tyX3_ok, nmX3⟩
theorem fp_X9_303 : sw_fp RX9 303 3 6 false .int := ⟨RX3, TX3, 7, tyX3, rfl, u_X3, by decide, fl0_X9_303, tyX3_ok, nmX3, rfl, by decide +kernel, fun h => by cases h⟩
theorem cl_X9_78 : Cond.classLink RX9 78 RX2 ∈ sw_U := sw_in 403 (by decide +kernel) (by decide +kernel)
theorem ml_X2_3 : Cond.methodLink RX2 3 objectInit ∈ sw_U := sw_in 408 (by decide +kernel) (by decide +kernel)
theorem cl_X2_21 : Cond.classLink RX2 21 RX5 ∈ sw_U := sw_in 409 (by decide +kernel) (by decide +kernel)
theorem fl0_X2_9 : Cond.fieldLink RX2 9 (TX2 0).1 (TX2 0).2.1 (TX2 0).2.2.1 ∈ sw_U := sw_in 411 (by decide +kernel) (by decide +kernel)
theorem fl_X2_9 : sw_fl RX2 9 2 0 := ⟨RX2, TX2, 8, tyX2, rfl, u_X2, by decide, fl0_X2_9, tyX2_ok, nmX2⟩
theorem fp_X2_9 : sw_fp RX2 9 2 0 true (.array .int) := ⟨RX2, TX2, 8, tyX2, rfl, u_X2, by decide, fl0_X2_9, tyX2_ok, nmX2, rfl, by decide +kernel, fun _ => rfl⟩
theorem fl0_X9_315 : Cond.fieldLink RX9 315 (TX2 0).1 (TX2 0).2.1 (TX2 0).2.2.1 ∈ sw_U := sw_in 412 (by decide +kernel) (by decide +kernel)
theorem fl_X9_315 : sw_fl RX9 315 2 0 := ⟨RX2, TX2, 8, tyX2, rfl, u_X2, by decide, fl0_X9_315, tyX2_ok, nmX2⟩
theorem fl0_X2_15 : Cond.fieldLink RX2 15 (TX2 1).1 (TX2 1).2.1 (TX2 1).2.2.1 ∈ sw_U := sw_in 413 (by decide +kernel) (by decide +kernel)
theorem fl_X2_15 : sw_fl RX2 15 2 1 := ⟨RX2, TX2, 8, tyX2, rfl, u_X2, by decide, fl0_X2_15, tyX2_ok, nmX2⟩
theorem fp_X2_15 : sw_fp RX2 15 2 1 true (.array .int) := ⟨RX2, TX2, 8, tyX2, rfl, u_X2, by decide, fl0_X2_15, tyX2_ok, nmX2, rfl, by decide +kernel, fun _ => rfl⟩
theorem fl0_X9_326 : Cond.fieldLink RX9 326 (TX2 1).1 (TX2 1).2.1 (TX2 1).2.2.1 ∈ sw_U := sw_in 414 (by decide +kernel) (by decide +kernel)
theorem fl_X9_326 : sw_fl RX9 326 2 1 := ⟨RX2, TX2, 8, tyX2, rfl, u_X2, by decide, fl0_X9_326, tyX2_ok, nmX2⟩
theorem fl0_X2_18 : Cond.fieldLink RX2 18 (TX2 2).1 (TX2 2).2.1 (TX2 2).2.2.1 ∈ sw_U := sw_in 415 (by decide +kernel) (by decide +kernel)
theorem fl_X2_18 : sw_fl RX2 18 2 2 := ⟨RX2, TX2, 8, tyX2, rfl, u_X2, by decide, fl0_X2_18, tyX2_ok, nmX2⟩
theorem fp_X2_18 : sw_fp RX2 18 2 2 true (.array .int) := ⟨RX2, TX2, 8, tyX2, rfl, u_X2, by decide, fl0_X2_18, tyX2_ok, nmX2, rfl, by decide +kernel, fun _ => rfl⟩
theorem fl0_X2_24 : Cond.fieldLink RX2 24 (TX2 3).1 (TX2 3).2.1 (TX2 3).2.2.1 ∈ sw_U := sw_in 416 (by decide +kernel) (by decide +kernel)
theorem fl_X2_24 : sw_fl RX2 24 2 3 := ⟨RX2, TX2, 8, tyX2, rfl, u_X2, by decide, fl0_X2_24, tyX2_ok, nmX2⟩
theorem fp_X2_24 : sw_fp RX2 24 2 3 false (.object "SorryToWin$Sale") := ⟨RX2, TX2, 8, tyX2, rfl, u_X2, by decide, fl0_X2_24, tyX2_ok, nmX2, rfl, by decide +kernel, fun _ => rfl⟩
theorem fl0_X2_28 : Cond.fieldLink RX2 28 (TX2 4).1 (TX2 4).2.1 (TX2 4).2.2.1 ∈ sw_U := sw_in 417 (by decide +kernel) (by decide +kernel)
theorem fl_X2_28 : sw_fl RX2 28 2 4 := ⟨RX2, TX2, 8, tyX2, rfl, u_X2, by decide, fl0_X2_28, tyX2_ok, nmX2⟩
theorem fp_X2_28 : sw_fp RX2 28 2 4 false .long := ⟨RX2, TX2, 8, tyX2, rfl, u_X2, by decide, fl0_X2_28, tyX2_ok, nmX2, rfl, by decide +kernel, fun _ => rfl⟩
theorem fl0_X2_32 : Cond.fieldLink RX2 32 (TX2 5).1 (TX2 5).2.1 (TX2 5).2.2.1 ∈ sw_U := sw_in 418 (by decide +kernel) (by decide +kernel)
theorem fl_X2_32 : sw_fl RX2 32 2 5 := ⟨RX2, TX2, 8, tyX2, rfl, u_X2, by decide, fl0_X2_32, tyX2_ok, nmX2⟩
theorem fp_X2_32 : sw_fp RX2 32 2 5 false .int := ⟨RX2, TX2, 8, tyX2, rfl, u_X2, by decide, fl0_X2_32, tyX2_ok, nmX2, rfl, by decide +kernel, fun _ => rfl⟩
theorem fl0_X9_323 : Cond.fieldLink RX9 323 (TX2 5).1 (TX2 5).2.1 (TX2 5).2.2.1 ∈ sw_U := sw_in 419 (by decide +kernel) (by decide +kernel)
theorem fl_X9_323 : sw_fl RX9 323 2 5 := ⟨RX2, TX2, 8, tyX2, rfl, u_X2, by decide, fl0_X9_323, tyX2_ok, nmX2⟩
theorem fp_X9_323 : sw_fp RX9 323 2 5 false .int := ⟨RX2, TX2, 8, tyX2, rfl, u_X2, by decide, fl0_X9_323, tyX2_ok, nmX2, rfl, by decide +kernel, fun h => by cases h⟩
theorem fl0_X2_36 : Cond.fieldLink RX2 36 (TX2 6).1 (TX2 6).2.1 (TX2 6).2.2.1 ∈ sw_U := sw_in 420 (by decide +kernel) (by decide +kernel)
theorem fl_X2_36 : sw_fl RX2 36 2 6 := ⟨RX2, TX2, 8, tyX2, rfl, u_X2, by decide, fl0_X2_36, tyX2_ok, nmX2⟩
theorem fp_X2_36 : sw_fp RX2 36 2 6 false .int := ⟨RX2, TX2, 8, tyX2, rfl, u_X2, by decide, fl0_X2_36, tyX2_ok, nmX2, rfl, by decide +kernel, fun _ => rfl⟩
theorem fl0_X9_328 : Cond.fieldLink RX9 328 (TX2 6).1 (TX2 6).2.1 (TX2 6).2.2.1 ∈ sw_U := sw_in 421 (by decide +kernel) (by decide +kernel)
theorem fl_X9_328 : sw_fl RX9 328 2 6 := ⟨RX2, TX2, 8, tyX2, rfl, u_X2, by decide, fl0_X9_328, tyX2_ok, nmX2⟩
theorem fp_X9_328 : sw_fp RX9 328 2 6 false .int := ⟨RX2, TX2, 8, tyX2, rfl, u_X2, by decide, fl0_X9_328, tyX2_ok, nmX2, rfl, by decide +kernel, fun h => by cases h⟩
theorem fl0_X2_39 : Cond.fieldLink RX2 39 (TX2 7).1 (TX2 7).2.1 (TX2 7).2.2.1 ∈ sw_U := sw_in 422 (by decide +kernel) (by decide +kernel)
theorem fl_X2_39 : sw_fl RX2 39 2 7 := ⟨RX2, TX2, 8, tyX2, rfl, u_X2, by decide, fl0_X2_39, tyX2_ok, nmX2⟩
theorem fp_X2_39 : sw_fp RX2 39 2 7 false .int := ⟨RX2, TX2, 8, tyX2, rfl, u_X2, by decide, fl0_X2_39, tyX2_ok, nmX2, rfl, by decide +kernel, fun _ => rfl⟩
theorem fl0_X9_321 : Cond.fieldLink RX9 321 (TX2 7).1 (TX2 7).2.1 (TX2 7).2.2.1 ∈ sw_U := sw_in 423 (by decide +kernel) (by decide +kernel)
theorem fl_X9_321 : sw_fl RX9 321 2 7 := ⟨RX2, TX2, 8, tyX2, rfl, u_X2, by decide, fl0_X9_321, tyX2_ok, nmX2⟩
theorem fp_X9_321 : sw_fp RX9 321 2 7 false .int := ⟨RX2, TX2, 8, tyX2, rfl, u_X2, by decide, fl0_X9_321, tyX2_ok, nmX2, rfl, by decide +kernel, fun h => by cases h⟩
theorem fl0_X9_10 : Cond.fieldLink RX9 10 (TX9 0).1 (TX9 0).2.1 (TX9 0).2.2.1 ∈ sw_U := sw_in 441 (by decide +kernel) (by decide +kernel)
theorem fl_X9_10 : sw_fl RX9 10 9 0 := ⟨RX9, TX9, 13, tyX9, rfl, u_X9, by decide, fl0_X9_10, tyX9_ok, nmX9⟩
theorem fp_X9_10 : sw_fp RX9 10 9 0 true (.object "SorryToWin$Tape") := ⟨RX9, TX9, 13, tyX9, rfl, u_X9, by decide, fl0_X9_10, tyX9_ok, nmX9, rfl, by decide +kernel, fun _ => rfl⟩
theorem fl0_X9_18 : Cond.fieldLink RX9 18 (TX9 1).1 (TX9 1).2.1 (TX9 1).2.2.1 ∈ sw_U := sw_in 442 (by decide +kernel) (by decide +kernel)
theorem fl_X9_18 : sw_fl RX9 18 9 1 := ⟨RX9, TX9, 13, tyX9, rfl, u_X9, by decide, fl0_X9_18, tyX9_ok, nmX9⟩
theorem fp_X9_18 : sw_fp RX9 18 9 1 true (.array (.object "SorryToWin$Sale")) := ⟨RX9, TX9, 13, tyX9, rfl, u_X9, by decide, fl0_X9_18, tyX9_ok, nmX9, rfl, by decide +kernel, fun _ => rfl⟩
theorem fl0_X9_22 : Cond.fieldLink RX9 22 (TX9 2).1 (TX9 2).2.1 (TX9 2).2.2.1 ∈ sw_U := sw_in 443 (by decide +kernel) (by decide +kernel)
theorem fl_X9_22 : sw_fl RX9 22 9 2 := ⟨RX9, TX9, 13, tyX9, rfl, u_X9, by decide, fl0_X9_22, tyX9_ok, nmX9⟩
theorem fp_X9_22 : sw_fp RX9 22 9 2 false .int := ⟨RX9, TX9, 13, tyX9, rfl, u_X9, by decide, fl0_X9_22, tyX9_ok, nmX9, rfl, by decide +kernel, fun _ => rfl⟩
theorem fl0_X9_26 : Cond.fieldLink RX9 26 (TX9 3).1 (TX9 3).2.1 (TX9 3).2.2.1 ∈ sw_U := sw_in 444 (by decide +kernel) (by decide +kernel)
theorem fl_X9_26 : sw_fl RX9 26 9 3 := ⟨RX9, TX9, 13, tyX9, rfl, u_X9, by decide, fl0_X9_26, tyX9_ok, nmX9⟩
theorem fp_X9_26 : sw_fp RX9 26 9 3 true (.array .int) := ⟨RX9, TX9, 13, tyX9, rfl, u_X9, by decide, fl0_X9_26, tyX9_ok, nmX9, rfl, by decide +kernel, fun _ => rfl⟩
theorem fl0_X9_30 : Cond.fieldLink RX9 30 (TX9 4).1 (TX9 4).2.1 (TX9 4).2.2.1 ∈ sw_U := sw_in 445 (by decide +kernel) (by decide +kernel)
theorem fl_X9_30 : sw_fl RX9 30 9 4 := ⟨RX9, TX9, 13, tyX9, rfl, u_X9, by decide, fl0_X9_30, tyX9_ok, nmX9⟩
theorem fp_X9_30 : sw_fp RX9 30 9 4 false .int := ⟨RX9, TX9, 13, tyX9, rfl, u_X9, by decide, fl0_X9_30, tyX9_ok, nmX9, rfl, by decide +kernel, fun _ => rfl⟩
theorem fl0_X9_33 : Cond.fieldLink RX9 33 (TX9 5).1 (TX9 5).2.1 (TX9 5).2.2.1 ∈ sw_U := sw_in 446 (by decide +kernel) (by decide +kernel)
theorem fl_X9_33 : sw_fl RX9 33 9 5 := ⟨RX9, TX9, 13, tyX9, rfl, u_X9, by decide, fl0_X9_33, tyX9_ok, nmX9⟩
theorem fp_X9_33 : sw_fp RX9 33 9 5 true (.array .int) := ⟨RX9, TX9, 13, tyX9, rfl, u_X9, by decide, fl0_X9_33, tyX9_ok, nmX9, rfl, by decide +kernel, fun _ => rfl⟩
theorem fl0_X9_39 : Cond.fieldLink RX9 39 (TX9 6).1 (TX9 6).2.1 (TX9 6).2.2.1 ∈ sw_U := sw_in 447 (by decide +kernel) (by decide +kernel)
theorem fl_X9_39 : sw_fl RX9 39 9 6 := ⟨RX9, TX9, 13, tyX9, rfl, u_X9, by decide, fl0_X9_39, tyX9_ok, nmX9⟩
theorem fp_X9_39 : sw_fp RX9 39 9 6 true (.object "SorryToWin$Crowd") := ⟨RX9, TX9, 13, tyX9, rfl, u_X9, by decide, fl0_X9_39, tyX9_ok, nmX9, rfl, by decide +kernel, fun _ => rfl⟩
theorem fl0_X9_46 : Cond.fieldLink RX9 46 (TX9 7).1 (TX9 7).2.1 (TX9 7).2.2.1 ∈ sw_U := sw_in 448 (by decide +kernel) (by decide +kernel)
theorem fl_X9_46 : sw_fl RX9 46 9 7 := ⟨RX9, TX9, 13, tyX9, rfl, u_X9, by decide, fl0_X9_46, tyX9_ok, nmX9⟩
theorem fp_X9_46 : sw_fp RX9 46 9 7 true (.object "SorryToWin$Tally") := ⟨RX9, TX9, 13, tyX9, rfl, u_X9, by decide, fl0_X9_46, tyX9_ok, nmX9, rfl, by decide +kernel, fun _ => rfl⟩
theorem fl0_X9_53 : Cond.fieldLink RX9 53 (TX9 8).1 (TX9 8).2.1 (TX9 8).2.2.1 ∈ sw_U := sw_in 449 (by decide +kernel) (by decide +kernel)
theorem fl_X9_53 : sw_fl RX9 53 9 8 := ⟨RX9, TX9, 13, tyX9, rfl, u_X9, by decide, fl0_X9_53, tyX9_ok, nmX9⟩
theorem fp_X9_53 : sw_fp RX9 53 9 8 true (.object "SorryToWin$Rivals") := ⟨RX9, TX9, 13, tyX9, rfl, u_X9, by decide, fl0_X9_53, tyX9_ok, nmX9, rfl, by decide +kernel, fun _ => rfl⟩
theorem fl0_X9_60 : Cond.fieldLink RX9 60 (TX9 9).1 (TX9 9).2.1 (TX9 9).2.2.1 ∈ sw_U := sw_in 450 (by decide +kernel) (by decide +kernel)
theorem fl_X9_60 : sw_fl RX9 60 9 9 := ⟨RX9, TX9, 13, tyX9, rfl, u_X9, by decide, fl0_X9_60, tyX9_ok, nmX9⟩
theorem fp_X9_60 : sw_fp RX9 60 9 9 true (.object "SorryToWin$Bars") := ⟨RX9, TX9, 13, tyX9, rfl, u_X9, by decide, fl0_X9_60, tyX9_ok, nmX9, rfl, by decide +kernel, fun _ => rfl⟩
theorem fl0_X9_67 : Cond.fieldLink RX9 67 (TX9 10).1 (TX9 10).2.1 (TX9 10).2.2.1 ∈ sw_U := sw_in 451 (by decide +kernel) (by decide +kernel)
theorem fl_X9_67 : sw_fl RX9 67 9 10 := ⟨RX9, TX9, 13, tyX9, rfl, u_X9, by decide, fl0_X9_67, tyX9_ok, nmX9⟩
theorem fp_X9_67 : sw_fp RX9 67 9 10 true (.object "SorryToWin$Turns") := ⟨RX9, TX9, 13, tyX9, rfl, u_X9, by decide, fl0_X9_67, tyX9_ok, nmX9, rfl, by decide +kernel, fun _ => rfl⟩
theorem fl0_X9_74 : Cond.fieldLink RX9 74 (TX9 11).1 (TX9 11).2.1 (TX9 11).2.2.1 ∈ sw_U := sw_in 452 (by decide +kernel) (by decide +kernel)
theorem fl_X9_74 : sw_fl RX9 74 9 11 := ⟨RX9, TX9, 13, tyX9, rfl, u_X9, by decide, fl0_X9_74, tyX9_ok, nmX9⟩
theorem fp_X9_74 : sw_fp RX9 74 9 11 true (.object "SorryToWin$Rising") := ⟨RX9, TX9, 13, tyX9, rfl, u_X9, by decide, fl0_X9_74, tyX9_ok, nmX9, rfl, by decide +kernel, fun _ => rfl⟩
theorem fl0_X9_81 : Cond.fieldLink RX9 81 (TX9 12).1 (TX9 12).2.1 (TX9 12).2.2.1 ∈ sw_U := sw_in 453 (by decide +kernel) (by decide +kernel)
theorem fl_X9_81 : sw_fl RX9 81 9 12 := ⟨RX9, TX9, 13, tyX9, rfl, u_X9, by decide, fl0_X9_81, tyX9_ok, nmX9⟩
theorem fp_X9_81 : sw_fp RX9 81 9 12 true (.object "SorryToWin$Learner") := ⟨RX9, TX9, 13, tyX9, rfl, u_X9, by decide, fl0_X9_81, tyX9_ok, nmX9, rfl, by decide +kernel, fun _ => rfl⟩
theorem ml_L_23 : Cond.methodLink RL 23 yX9_feed ∈ sw_U := sw_in 481 (by decide +kernel) (by decide +kernel)
theorem ml_X9_85 : Cond.methodLink RX9 85 yX7_bytesIn ∈ sw_U := sw_in 485 (by decide +kernel) (by decide +kernel)
theorem ml_X9_92 : Cond.methodLink RX9 92 yX7_put ∈ sw_U := sw_in 488 (by decide +kernel) (by decide +kernel)
theorem ml_L_28 : Cond.methodLink RL 28 yX9_end ∈ sw_U := sw_in 492 (by decide +kernel) (by decide +kernel)
theorem ml_L_33 : Cond.methodLink RL 33 yX9_fault ∈ sw_U := sw_in 496 (by decide +kernel) (by decide +kernel)
theorem ml_X9_96 : Cond.methodLink RX9 96 yX7_read ∈ sw_U := sw_in 500 (by decide +kernel) (by decide +kernel)
theorem ml_X7_32 : Cond.methodLink RX7 32 yX5_clear ∈ sw_U := sw_in 504 (by decide +kernel) (by decide +kernel)
theorem ml_X7_35 : Cond.methodLink RX7 35 yX7_skip ∈ sw_U := sw_in 508 (by decide +kernel) (by decide +kernel)
theorem ml_X7_38 : Cond.methodLink RX7 38 yX7_look ∈ sw_U := sw_in 512 (by decide +kernel) (by decide +kernel)
theorem ml_X7_42 : Cond.methodLink RX7 42 yX7_number ∈ sw_U := sw_in 516 (by decide +kernel) (by decide +kernel)
theorem ml_X7_77 : Cond.methodLink RX7 77 yX7_digit ∈ sw_U := sw_in 520 (by decide +kernel) (by decide +kernel)
theorem ml_X7_52 : Cond.methodLink RX7 52 yX7_clause ∈ sw_U := sw_in 524 (by decide +kernel) (by decide +kernel)
theorem ml_X7_55 : Cond.methodLink RX7 55 yX7_truthClause ∈ sw_U := sw_in 528 (by decide +kernel) (by decide +kernel)
theorem ml_L_38 : Cond.methodLink RL 38 yX9_sale ∈ sw_U := sw_in 532 (by decide +kernel) (by decide +kernel)
theorem ml_X9_100 : Cond.methodLink RX9 100 yX7_takeDraft ∈ sw_U := sw_in 536 (by decide +kernel) (by decide +kernel)
theorem ml_L_42 : Cond.methodLink RL 42 yX9_told ∈ sw_U := sw_in 540 (by decide +kernel) (by decide +kernel)
theorem ml_X9_104 : Cond.methodLink RX9 104 yX9_saleAt ∈ sw_U := sw_in 544 (by decide +kernel) (by decide +kernel)
theorem ml_X9_123 : Cond.methodLink RX9 123 yX5_allWeights ∈ sw_U := sw_in 548 (by decide +kernel) (by decide +kernel)
theorem ml_L_55 : Cond.methodLink RL 55 yX9_change ∈ sw_U := sw_in 552 (by decide +kernel) (by decide +kernel)
theorem ml_L_60 : Cond.methodLink RL 60 yX9_worth ∈ sw_U := sw_in 556 (by decide +kernel) (by decide +kernel)
theorem ml_X9_145 : Cond.methodLink RX9 145 yX5_hasSign ∈ sw_U := sw_in 560 (by decide +kernel) (by decide +kernel)
theorem ml_X9_149 : Cond.methodLink RX9 149 yX9_isHalf ∈ sw_U := sw_in 564 (by decide +kernel) (by decide +kernel)
theorem ml_X9_152 : Cond.methodLink RX9 152 yX9_hasSignOrNone ∈ sw_U := sw_in 567 (by decide +kernel) (by decide +kernel)
theorem ml_X9_156 : Cond.methodLink RX9 156 yX5_weigh ∈ sw_U := sw_in 570 (by decide +kernel) (by decide +kernel)
theorem ml_X5_51 : Cond.methodLink RX5 51 yX5_seeing ∈ sw_U := sw_in 574 (by decide +kernel) (by decide +kernel)
theorem ml_X5_47 : Cond.methodLink RX5 47 yX5_hasSign ∈ sw_U := sw_in 578 (by decide +kernel) (by decide +kernel)
theorem ml_X9_167 : Cond.methodLink RX9 167 yX9_half ∈ sw_U := sw_in 579 (by decide +kernel) (by decide +kernel)
theorem ml_L_65 : Cond.methodLink RL 65 yX9_table ∈ sw_U := sw_in 582 (by decide +kernel) (by decide +kernel)
theorem ml_L_69 : Cond.methodLink RL 69 yX9_bid ∈ sw_U := sw_in 586 (by decide +kernel) (by decide +kernel)
theorem ml_X9_171 : Cond.methodLink RX9 171 yX9_hasTable ∈ sw_U := sw_in 590 (by decide +kernel) (by decide +kernel)
theorem ml_L_73 : Cond.methodLink RL 73 yX9_seat ∈ sw_U := sw_in 594 (by decide +kernel) (by decide +kernel)
theorem ml_L_77 : Cond.methodLink RL 77 yX9_bids ∈ sw_U := sw_in 598 (by decide +kernel) (by decide +kernel)
theorem ml_X9_177 : Cond.methodLink RX9 177 yX5_hasSeat ∈ sw_U := sw_in 602 (by decide +kernel) (by decide +kernel)
theorem ml_X9_180 : Cond.methodLink RX9 180 yX9_bidOf ∈ sw_U := sw_in 606 (by decide +kernel) (by decide +kernel)
theorem ml_X9_234 : Cond.methodLink RX9 234 yX9_plainBid ∈ sw_U := sw_in 610 (by decide +kernel) (by decide +kernel)
theorem ml_X9_284 : Cond.methodLink RX9 284 yX5_held ∈ sw_U := sw_in 613 (by decide +kernel) (by decide +kernel)
theorem ml_X5_55 : Cond.methodLink RX5 55 yX5_weigh ∈ sw_U := sw_in 617 (by decide +kernel) (by decide +kernel)
theorem ml_L_81 : Cond.methodLink RL 81 yX9_cases ∈ sw_U := sw_in 618 (by decide +kernel) (by decide +kernel)
theorem kl_X9_184 : Cond.constantLong RX9 184 (-1) ∈ sw_U := sw_in 622 (by decide +kernel) (by decide +kernel)
theorem ml_X9_186 : Cond.methodLink RX9 186 yX9_tallyOf ∈ sw_U := sw_in 623 (by decide +kernel) (by decide +kernel)
theorem ml_X9_273 : Cond.methodLink RX9 273 yX9_rowOf ∈ sw_U := sw_in 627 (by decide +kernel) (by decide +kernel)
theorem ml_X9_288 : Cond.methodLink RX9 288 yX1_bidBy ∈ sw_U := sw_in 631 (by decide +kernel) (by decide +kernel)
theorem ml_X9_258 : Cond.methodLink RX9 258 yX1_withSign ∈ sw_U := sw_in 635 (by decide +kernel) (by decide +kernel)
theorem ml_X1_60 : Cond.methodLink RX1 60 yX5_seeing ∈ sw_U := sw_in 639 (by decide +kernel) (by decide +kernel)
theorem ml_X9_261 : Cond.methodLink RX9 261 yX6_clear ∈ sw_U := sw_in 640 (by decide +kernel) (by decide +kernel)
theorem ml_X9_264 : Cond.methodLink RX9 264 yX6_add ∈ sw_U := sw_in 644 (by decide +kernel) (by decide +kernel)
theorem ml_X6_40 : Cond.methodLink RX6 40 yX1_begin ∈ sw_U := sw_in 648 (by decide +kernel) (by decide +kernel)
theorem ml_X1_67 : Cond.methodLink RX1 67 yX1_reckon ∈ sw_U := sw_in 652 (by decide +kernel) (by decide +kernel)
theorem ml_X1_77 : Cond.methodLink RX1 77 yX1_rank ∈ sw_U := sw_in 656 (by decide +kernel) (by decide +kernel)
theorem ml_X1_80 : Cond.methodLink RX1 80 yX1_bidNow ∈ sw_U := sw_in 660 (by decide +kernel) (by decide +kernel)
theorem ml_X6_49 : Cond.methodLink RX6 49 yX6_addCases ∈ sw_U := sw_in 664 (by decide +kernel) (by decide +kernel)
theorem kl_X6_56 : Cond.constantLong RX6 56 (12) ∈ sw_U := sw_in 668 (by decide +kernel) (by decide +kernel)
theorem ml_X6_64 : Cond.methodLink RX6 64 yX1_price ∈ sw_U := sw_in 669 (by decide +kernel) (by decide +kernel)
theorem ml_X6_71 : Cond.methodLink RX6 71 yX1_weightBelow ∈ sw_U := sw_in 673 (by decide +kernel) (by decide +kernel)
theorem ml_X6_78 : Cond.methodLink RX6 78 yX1_bidNow ∈ sw_U := sw_in 677 (by decide +kernel) (by decide +kernel)
theorem ml_X6_92 : Cond.methodLink RX6 92 yX6_paidBy ∈ sw_U := sw_in 678 (by decide +kernel) (by decide +kernel)
theorem ml_X6_53 : Cond.methodLink RX6 53 yX1_step ∈ sw_U := sw_in 681 (by decide +kernel) (by decide +kernel)
theorem ml_L_86 : Cond.methodLink RL 86 yX9_gain ∈ sw_U := sw_in 685 (by decide +kernel) (by decide +kernel)
theorem kl_X9_202 : Cond.constantLong RX9 202 (-1000000000000000) ∈ sw_U := sw_in 689 (by decide +kernel) (by decide +kernel)
theorem ml_L_90 : Cond.methodLink RL 90 yX9_won ∈ sw_U := sw_in 690 (by decide +kernel) (by decide +kernel)
theorem ml_X9_208 : Cond.methodLink RX9 208 yX9_wins ∈ sw_U := sw_in 694 (by decide +kernel) (by decide +kernel)
theorem ml_L_95 : Cond.methodLink RL 95 yX9_less ∈ sw_U := sw_in 698 (by decide +kernel) (by decide +kernel)
theorem ml_L_99 : Cond.methodLink RL 99 yX9_best ∈ sw_U := sw_in 702 (by decide +kernel) (by decide +kernel)
theorem ml_X9_218 : Cond.methodLink RX9 218 yX9_rowsWithout ∈ sw_U := sw_in 706 (by decide +kernel) (by decide +kernel)
theorem ml_X9_222 : Cond.methodLink RX9 222 yX9_rivalsBySign ∈ sw_U := sw_in 710 (by decide +kernel) (by decide +kernel)
theorem ml_X9_331 : Cond.methodLink RX9 331 yX4_gather ∈ sw_U := sw_in 714 (by decide +kernel) (by decide +kernel)
theorem ml_X4_34 : Cond.methodLink RX4 34 yX1_begin ∈ sw_U := sw_in 718 (by decide +kernel) (by decide +kernel)
theorem ml_X4_40 : Cond.methodLink RX4 40 yX4_addCases ∈ sw_U := sw_in 719 (by decide +kernel) (by decide +kernel)
theorem ml_X4_44 : Cond.methodLink RX4 44 yX1_step ∈ sw_U := sw_in 723 (by decide +kernel) (by decide +kernel)
theorem ml_X4_50 : Cond.methodLink RX4 50 yX4_reckon ∈ sw_U := sw_in 724 (by decide +kernel) (by decide +kernel)
theorem kl_X4_64 : Cond.constantLong RX4 64 (12) ∈ sw_U := sw_in 728 (by decide +kernel) (by decide +kernel)
theorem ml_X9_225 : Cond.methodLink RX9 225 yX4_pick ∈ sw_U := sw_in 729 (by decide +kernel) (by decide +kernel)
theorem ml_L_103 : Cond.methodLink RL 103 yX9_judge ∈ sw_U := sw_in 733 (by decide +kernel) (by decide +kernel)
theorem ml_X9_228 : Cond.methodLink RX9 228 yX4_isMost ∈ sw_U := sw_in 737 (by decide +kernel) (by decide +kernel)
theorem ml_X4_70 : Cond.methodLink RX4 70 yX4_most ∈ sw_U := sw_in 741 (by decide +kernel) (by decide +kernel)
theorem ml_X4_66 : Cond.methodLink RX4 66 yX4_pick ∈ sw_U := sw_in 745 (by decide +kernel) (by decide +kernel)
theorem ml_L_108 : Cond.methodLink RL 108 yX9_find ∈ sw_U := sw_in 746 (by decide +kernel) (by decide +kernel)
theorem ml_X9_238 : Cond.methodLink RX9 238 yX8_begin ∈ sw_U := sw_in 750 (by decide +kernel) (by decide +kernel)
theorem ml_X8_31 : Cond.methodLink RX8 31 yX8_keep ∈ sw_U := sw_in 754 (by decide +kernel) (by decide +kernel)
theorem ml_X9_241 : Cond.methodLink RX9 241 yX8_goesOn ∈ sw_U := sw_in 758 (by decide +kernel) (by decide +kernel)
theorem ml_X9_245 : Cond.methodLink RX9 245 yX9_turnOf ∈ sw_U := sw_in 762 (by decide +kernel) (by decide +kernel)
theorem ml_X9_248 : Cond.methodLink RX9 248 yX8_close ∈ sw_U := sw_in 766 (by decide +kernel) (by decide +kernel)
theorem ml_X8_34 : Cond.methodLink RX8 34 yX8_isRow ∈ sw_U := sw_in 770 (by decide +kernel) (by decide +kernel)
theorem ml_L_112 : Cond.methodLink RL 112 yX9_by ∈ sw_U := sw_in 774 (by decide +kernel) (by decide +kernel)
theorem ml_X9_254 : Cond.methodLink RX9 254 yX9_rowsAlike ∈ sw_U := sw_in 778 (by decide +kernel) (by decide +kernel)
theorem ml_L_117 : Cond.methodLink RL 117 yX9_bar ∈ sw_U := sw_in 782 (by decide +kernel) (by decide +kernel)
theorem ml_X9_268 : Cond.methodLink RX9 268 yX0_gather ∈ sw_U := sw_in 786 (by decide +kernel) (by decide +kernel)
theorem ml_X0_24 : Cond.methodLink RX0 24 yX1_begin ∈ sw_U := sw_in 790 (by decide +kernel) (by decide +kernel)
theorem ml_X0_36 : Cond.methodLink RX0 36 yX0_addTo ∈ sw_U := sw_in 791 (by decide +kernel) (by decide +kernel)
theorem ml_X0_42 : Cond.methodLink RX0 42 yX1_step ∈ sw_U := sw_in 794 (by decide +kernel) (by decide +kernel)
theorem ml_X9_272 : Cond.methodLink RX9 272 yX0_pick ∈ sw_U := sw_in 795 (by decide +kernel) (by decide +kernel)
theorem ml_L_122 : Cond.methodLink RL 122 yX9_telling ∈ sw_U := sw_in 799 (by decide +kernel) (by decide +kernel)
theorem ml_L_127 : Cond.methodLink RL 127 yX9_near ∈ sw_U := sw_in 803 (by decide +kernel) (by decide +kernel)
theorem ml_X9_277 : Cond.methodLink RX9 277 yX9_rivalsByTruth ∈ sw_U := sw_in 807 (by decide +kernel) (by decide +kernel)
theorem ml_X9_333 : Cond.methodLink RX9 333 yX1_withTruth ∈ sw_U := sw_in 811 (by decide +kernel) (by decide +kernel)
theorem ml_L_131 : Cond.methodLink RL 131 yX9_nearGain ∈ sw_U := sw_in 815 (by decide +kernel) (by decide +kernel)
theorem ml_X9_280 : Cond.methodLink RX9 280 yX4_most ∈ sw_U := sw_in 819 (by decide +kernel) (by decide +kernel)
theorem ml_L_135 : Cond.methodLink RL 135 yX9_asOne ∈ sw_U := sw_in 820 (by decide +kernel) (by decide +kernel)
theorem ml_L_139 : Cond.methodLink RL 139 yX9_lay ∈ sw_U := sw_in 824 (by decide +kernel) (by decide +kernel)
theorem ml_L_144 : Cond.methodLink RL 144 yX9_open ∈ sw_U := sw_in 828 (by decide +kernel) (by decide +kernel)
theorem ml_X9_292 : Cond.methodLink RX9 292 yX9_laidFor ∈ sw_U := sw_in 832 (by decide +kernel) (by decide +kernel)
theorem ml_X9_296 : Cond.methodLink RX9 296 yX3_rise ∈ sw_U := sw_in 836 (by decide +kernel) (by decide +kernel)
theorem ml_X3_43 : Cond.methodLink RX3 43 yX3_oneLeaves ∈ sw_U := sw_in 840 (by decide +kernel) (by decide +kernel)
theorem ml_X3_47 : Cond.methodLink RX3 47 yX3_limitOf ∈ sw_U := sw_in 844 (by decide +kernel) (by decide +kernel)
theorem ml_X3_57 : Cond.methodLink RX3 57 yX5_held ∈ sw_U := sw_in 848 (by decide +kernel) (by decide +kernel)
theorem ml_X3_51 : Cond.methodLink RX3 51 yJ9_max_7cf53 ∈ sw_U := sw_in 849 (by decide +kernel) (by decide +kernel)
theorem ml_L_148 : Cond.methodLink RL 148 yX9_leaves ∈ sw_U := sw_in 852 (by decide +kernel) (by decide +kernel)
theorem ml_L_154 : Cond.methodLink RL 154 yX9_learn ∈ sw_U := sw_in 856 (by decide +kernel) (by decide +kernel)
theorem ml_X9_312 : Cond.methodLink RX9 312 yX2_begin ∈ sw_U := sw_in 860 (by decide +kernel) (by decide +kernel)
theorem ml_X9_318 : Cond.methodLink RX9 318 yX2_round ∈ sw_U := sw_in 864 (by decide +kernel) (by decide +kernel)
theorem ml_X2_43 : Cond.methodLink RX2 43 yX2_drawTruth ∈ sw_U := sw_in 868 (by decide +kernel) (by decide +kernel)
theorem ml_X2_72 : Cond.methodLink RX2 72 yX5_allWeights ∈ sw_U := sw_in 872 (by decide +kernel) (by decide +kernel)
theorem ml_X2_75 : Cond.methodLink RX2 75 yX2_draw ∈ sw_U := sw_in 873 (by decide +kernel) (by decide +kernel)
theorem kl_X2_68 : Cond.constantLong RX2 68 (6364136223846793005) ∈ sw_U := sw_in 877 (by decide +kernel) (by decide +kernel)
theorem kl_X2_70 : Cond.constantLong RX2 70 (1442695040888963407) ∈ sw_U := sw_in 878 (by decide +kernel) (by decide +kernel)
theorem ml_X2_47 : Cond.methodLink RX2 47 yX2_drawSign ∈ sw_U := sw_in 879 (by decide +kernel) (by decide +kernel)
theorem ml_X2_87 : Cond.methodLink RX2 87 yX5_seeing ∈ sw_U := sw_in 883 (by decide +kernel) (by decide +kernel)
theorem ml_X2_51 : Cond.methodLink RX2 51 yX2_highest ∈ sw_U := sw_in 884 (by decide +kernel) (by decide +kernel)
theorem ml_X2_91 : Cond.methodLink RX2 91 yX2_bidNow ∈ sw_U := sw_in 888 (by decide +kernel) (by decide +kernel)
theorem ml_X2_57 : Cond.methodLink RX2 57 yX2_noneBids ∈ sw_U := sw_in 892 (by decide +kernel) (by decide +kernel)
theorem ml_X2_97 : Cond.methodLink RX2 97 yX2_move ∈ sw_U := sw_in 896 (by decide +kernel) (by decide +kernel)
theorem ml_X2_103 : Cond.methodLink RX2 103 yJ9_min_7cf53 ∈ sw_U := sw_in 900 (by decide +kernel) (by decide +kernel)
theorem ml_X2_108 : Cond.methodLink RX2 108 yJ9_max_7cf53 ∈ sw_U := sw_in 903 (by decide +kernel) (by decide +kernel)
theorem ml_X2_61 : Cond.methodLink RX2 61 yX2_drawWinner ∈ sw_U := sw_in 904 (by decide +kernel) (by decide +kernel)
theorem ml_X2_64 : Cond.methodLink RX2 64 yX2_oneWins ∈ sw_U := sw_in 908 (by decide +kernel) (by decide +kernel)
theorem ml_L_163 : Cond.methodLink RL 163 yX9_got ∈ sw_U := sw_in 912 (by decide +kernel) (by decide +kernel)
theorem ml_L_167 : Cond.methodLink RL 167 yX9_count ∈ sw_U := sw_in 916 (by decide +kernel) (by decide +kernel)
theorem ml_L_46 : Cond.methodLink RL 46 yL_truth ∈ sw_U := sw_in 920 (by decide +kernel) (by decide +kernel)
theorem ml_L_7 : Cond.methodLink RL 7 yX9_truth ∈ sw_U := sw_in 924 (by decide +kernel) (by decide +kernel)
theorem ml_X9_141 : Cond.methodLink RX9 141 yX5_seeing ∈ sw_U := sw_in 995 (by decide +kernel) (by decide +kernel)
theorem ml_L_159 : Cond.methodLink RL 159 yL_learned ∈ sw_U := sw_in 996 (by decide +kernel) (by decide +kernel)
theorem ml_L_15 : Cond.methodLink RL 15 yX9_learned ∈ sw_U := sw_in 999 (by decide +kernel) (by decide +kernel)
theorem cl_L_20 : Cond.classLink RL 20 RX10 ∈ sw_U := sw_in 1004 (by decide +kernel) (by decide +kernel)
theorem ml_L_22 : Cond.methodLink RL 22 yX10_init ∈ sw_U := sw_in 1006 (by decide +kernel) (by decide +kernel)
theorem ml_X10_1 : Cond.methodLink RX10 1 objectInit ∈ sw_U := sw_in 1009 (by decide +kernel) (by decide +kernel)
theorem fl0_X10_76 : Cond.fieldLink RX10 76 (TX10 0).1 (TX10 0).2.1 (TX10 0).2.2.1 ∈ sw_U := sw_in 1010 (by decide +kernel) (by decide +kernel)
theorem fl_X10_76 : sw_fl RX10 76 10 0 := ⟨RX10, TX10, 54, tyX10, rfl, u_X10, by decide, fl0_X10_76, tyX10_ok, nmX10⟩
theorem fp_X10_76 : sw_fp RX10 76 10 0 false .int := ⟨RX10, TX10, 54, tyX10, rfl, u_X10, by decide, fl0_X10_76, tyX10_ok, nmX10, rfl, by decide +kernel, fun _ => rfl⟩
theorem fl0_X10_7 : Cond.fieldLink RX10 7 (TX10 1).1 (TX10 1).2.1 (TX10 1).2.2.1 ∈ sw_U := sw_in 1011 (by decide +kernel) (by decide +kernel)
theorem fl_X10_7 : sw_fl RX10 7 10 1 := ⟨RX10, TX10, 54, tyX10, rfl, u_X10, by decide, fl0_X10_7, tyX10_ok, nmX10⟩
theorem fp_X10_7 : sw_fp RX10 7 10 1 true (.array .int) := ⟨RX10, TX10, 54, tyX10, rfl, u_X10, by decide, fl0_X10_7, tyX10_ok, nmX10, rfl, by decide +kernel, fun _ => rfl⟩
theorem fl0_X10_84 : Cond.fieldLink RX10 84 (TX10 2).1 (TX10 2).2.1 (TX10 2).2.2.1 ∈ sw_U := sw_in 1012 (by decide +kernel) (by decide +kernel)
theorem fl_X10_84 : sw_fl RX10 84 10 2 := ⟨RX10, TX10, 54, tyX10, rfl, u_X10, by decide, fl0_X10_84, tyX10_ok, nmX10⟩
theorem fp_X10_84 : sw_fp RX10 84 10 2 false .int := ⟨RX10, TX10, 54, tyX10, rfl, u_X10, by decide, fl0_X10_84, tyX10_ok, nmX10, rfl, by decide +kernel, fun _ => rfl⟩
theorem fl0_X10_87 : Cond.fieldLink RX10 87 (TX10 3).1 (TX10 3).2.1 (TX10 3).2.2.1 ∈ sw_U := sw_in 1013 (by decide +kernel) (by decide +kernel)
theorem fl_X10_87 : sw_fl RX10 87 10 3 := ⟨RX10, TX10, 54, tyX10, rfl, u_X10, by decide, fl0_X10_87, tyX10_ok, nmX10⟩
theorem fp_X10_87 : sw_fp RX10 87 10 3 false .int := ⟨RX10, TX10, 54, tyX10, rfl, u_X10, by decide, fl0_X10_87, tyX10_ok, nmX10, rfl, by decide +kernel, fun _ => rfl⟩
theorem fl0_X10_94 : Cond.fieldLink RX10 94 (TX10 4).1 (TX10 4).2.1 (TX10 4).2.2.1 ∈ sw_U := sw_in 1014 (by decide +kernel) (by decide +kernel)
theorem fl_X10_94 : sw_fl RX10 94 10 4 := ⟨RX10, TX10, 54, tyX10, rfl, u_X10, by decide, fl0_X10_94, tyX10_ok, nmX10⟩
theorem fp_X10_94 : sw_fp RX10 94 10 4 false .int := ⟨RX10, TX10, 54, tyX10, rfl, u_X10, by decide, fl0_X10_94, tyX10_ok, nmX10, rfl, by decide +kernel, fun _ => rfl⟩
theorem fl0_X10_13 : Cond.fieldLink RX10 13 (TX10 5).1 (TX10 5).2.1 (TX10 5).2.2.1 ∈ sw_U := sw_in 1015 (by decide +kernel) (by decide +kernel)
theorem fl_X10_13 : sw_fl RX10 13 10 5 := ⟨RX10, TX10, 54, tyX10, rfl, u_X10, by decide, fl0_X10_13, tyX10_ok, nmX10⟩
theorem fp_X10_13 : sw_fp RX10 13 10 5 true (.array .int) := ⟨RX10, TX10, 54, tyX10, rfl, u_X10, by decide, fl0_X10_13, tyX10_ok, nmX10, rfl, by decide +kernel, fun _ => rfl⟩
theorem fl0_X10_16 : Cond.fieldLink RX10 16 (TX10 6).1 (TX10 6).2.1 (TX10 6).2.2.1 ∈ sw_U := sw_in 1016 (by decide +kernel) (by decide +kernel)
theorem fl_X10_16 : sw_fl RX10 16 10 6 := ⟨RX10, TX10, 54, tyX10, rfl, u_X10, by decide, fl0_X10_16, tyX10_ok, nmX10⟩
theorem fp_X10_16 : sw_fp RX10 16 10 6 true (.array .int) := ⟨RX10, TX10, 54, tyX10, rfl, u_X10, by decide, fl0_X10_16, tyX10_ok, nmX10, rfl, by decide +kernel, fun _ => rfl⟩
theorem fl0_X10_19 : Cond.fieldLink RX10 19 (TX10 7).1 (TX10 7).2.1 (TX10 7).2.2.1 ∈ sw_U := sw_in 1017 (by decide +kernel) (by decide +kernel)
theorem fl_X10_19 : sw_fl RX10 19 10 7 := ⟨RX10, TX10, 54, tyX10, rfl, u_X10, by decide, fl0_X10_19, tyX10_ok, nmX10⟩
theorem fp_X10_19 : sw_fp RX10 19 10 7 true (.array .int) := ⟨RX10, TX10, 54, tyX10, rfl, u_X10, by decide, fl0_X10_19, tyX10_ok, nmX10, rfl, by decide +kernel, fun _ => rfl⟩
theorem fl0_X10_22 : Cond.fieldLink RX10 22 (TX10 8).1 (TX10 8).2.1 (TX10 8).2.2.1 ∈ sw_U := sw_in 1018 (by decide +kernel) (by decide +kernel)
theorem fl_X10_22 : sw_fl RX10 22 10 8 := ⟨RX10, TX10, 54, tyX10, rfl, u_X10, by decide, fl0_X10_22, tyX10_ok, nmX10⟩
theorem fp_X10_22 : sw_fp RX10 22 10 8 true (.array .int) := ⟨RX10, TX10, 54, tyX10, rfl, u_X10, by decide, fl0_X10_22, tyX10_ok, nmX10, rfl, by decide +kernel, fun _ => rfl⟩
theorem fl0_X10_25 : Cond.fieldLink RX10 25 (TX10 9).1 (TX10 9).2.1 (TX10 9).2.2.1 ∈ sw_U := sw_in 1019 (by decide +kernel) (by decide +kernel)
theorem fl_X10_25 : sw_fl RX10 25 10 9 := ⟨RX10, TX10, 54, tyX10, rfl, u_X10, by decide, fl0_X10_25, tyX10_ok, nmX10⟩
theorem fp_X10_25 : sw_fp RX10 25 10 9 true (.array .int) := ⟨RX10, TX10, 54, tyX10, rfl, u_X10, by decide, fl0_X10_25, tyX10_ok, nmX10, rfl, by decide +kernel, fun _ => rfl⟩
theorem fl0_X10_28 : Cond.fieldLink RX10 28 (TX10 10).1 (TX10 10).2.1 (TX10 10).2.2.1 ∈ sw_U := sw_in 1020 (by decide +kernel) (by decide +kernel)
theorem fl_X10_28 : sw_fl RX10 28 10 10 := ⟨RX10, TX10, 54, tyX10, rfl, u_X10, by decide, fl0_X10_28, tyX10_ok, nmX10⟩
theorem fp_X10_28 : sw_fp RX10 28 10 10 true (.array .int) := ⟨RX10, TX10, 54, tyX10, rfl, u_X10, by decide, fl0_X10_28, tyX10_ok, nmX10, rfl, by decide +kernel, fun _ => rfl⟩
theorem fl0_X10_31 : Cond.fieldLink RX10 31 (TX10 11).1 (TX10 11).2.1 (TX10 11).2.2.1 ∈ sw_U := sw_in 1021 (by decide +kernel) (by decide +kernel)
theorem fl_X10_31 : sw_fl RX10 31 10 11 := ⟨RX10, TX10, 54, tyX10, rfl, u_X10, by decide, fl0_X10_31, tyX10_ok, nmX10⟩
theorem fp_X10_31 : sw_fp RX10 31 10 11 true (.array .int) := ⟨RX10, TX10, 54, tyX10, rfl, u_X10, by decide, fl0_X10_31, tyX10_ok, nmX10, rfl, by decide +kernel, fun _ => rfl⟩
theorem fl0_X10_34 : Cond.fieldLink RX10 34 (TX10 12).1 (TX10 12).2.1 (TX10 12).2.2.1 ∈ sw_U := sw_in 1022 (by decide +kernel) (by decide +kernel)
theorem fl_X10_34 : sw_fl RX10 34 10 12 := ⟨RX10, TX10, 54, tyX10, rfl, u_X10, by decide, fl0_X10_34, tyX10_ok, nmX10⟩
theorem fp_X10_34 : sw_fp RX10 34 10 12 true (.array .int) := ⟨RX10, TX10, 54, tyX10, rfl, u_X10, by decide, fl0_X10_34, tyX10_ok, nmX10, rfl, by decide +kernel, fun _ => rfl⟩
theorem fl0_X10_37 : Cond.fieldLink RX10 37 (TX10 13).1 (TX10 13).2.1 (TX10 13).2.2.1 ∈ sw_U := sw_in 1023 (by decide +kernel) (by decide +kernel)
theorem fl_X10_37 : sw_fl RX10 37 10 13 := ⟨RX10, TX10, 54, tyX10, rfl, u_X10, by decide, fl0_X10_37, tyX10_ok, nmX10⟩
theorem fp_X10_37 : sw_fp RX10 37 10 13 true (.array .int) := ⟨RX10, TX10, 54, tyX10, rfl, u_X10, by decide, fl0_X10_37, tyX10_ok, nmX10, rfl, by decide +kernel, fun _ => rfl⟩
theorem fl0_X10_126 : Cond.fieldLink RX10 126 (TX10 14).1 (TX10 14).2.1 (TX10 14).2.2.1 ∈ sw_U := sw_in 1024 (by decide +kernel) (by decide +kernel)
theorem fl_X10_126 : sw_fl RX10 126 10 14 := ⟨RX10, TX10, 54, tyX10, rfl, u_X10, by decide, fl0_X10_126, tyX10_ok, nmX10⟩
theorem fp_X10_126 : sw_fp RX10 126 10 14 false .int := ⟨RX10, TX10, 54, tyX10, rfl, u_X10, by decide, fl0_X10_126, tyX10_ok, nmX10, rfl, by decide +kernel, fun _ => rfl⟩
theorem fl0_X10_40 : Cond.fieldLink RX10 40 (TX10 15).1 (TX10 15).2.1 (TX10 15).2.2.1 ∈ sw_U := sw_in 1025 (by decide +kernel) (by decide +kernel)
theorem fl_X10_40 : sw_fl RX10 40 10 15 := ⟨RX10, TX10, 54, tyX10, rfl, u_X10, by decide, fl0_X10_40, tyX10_ok, nmX10⟩
theorem fp_X10_40 : sw_fp RX10 40 10 15 true (.array .int) := ⟨RX10, TX10, 54, tyX10, rfl, u_X10, by decide, fl0_X10_40, tyX10_ok, nmX10, rfl, by decide +kernel, fun _ => rfl⟩
theorem fl0_X10_135 : Cond.fieldLink RX10 135 (TX10 16).1 (TX10 16).2.1 (TX10 16).2.2.1 ∈ sw_U := sw_in 1026 (by decide +kernel) (by decide +kernel)
theorem fl_X10_135 : sw_fl RX10 135 10 16 := ⟨RX10, TX10, 54, tyX10, rfl, u_X10, by decide, fl0_X10_135, tyX10_ok, nmX10⟩
theorem fp_X10_135 : sw_fp RX10 135 10 16 false .long := ⟨RX10, TX10, 54, tyX10, rfl, u_X10, by decide, fl0_X10_135, tyX10_ok, nmX10, rfl, by decide +kernel, fun _ => rfl⟩
theorem fl0_X10_139 : Cond.fieldLink RX10 139 (TX10 17).1 (TX10 17).2.1 (TX10 17).2.2.1 ∈ sw_U := sw_in 1027 (by decide +kernel) (by decide +kernel)
theorem fl_X10_139 : sw_fl RX10 139 10 17 := ⟨RX10, TX10, 54, tyX10, rfl, u_X10, by decide, fl0_X10_139, tyX10_ok, nmX10⟩
theorem fp_X10_139 : sw_fp RX10 139 10 17 false .long := ⟨RX10, TX10, 54, tyX10, rfl, u_X10, by decide, fl0_X10_139, tyX10_ok, nmX10, rfl, by decide +kernel, fun _ => rfl⟩
theorem fl0_X10_43 : Cond.fieldLink RX10 43 (TX10 18).1 (TX10 18).2.1 (TX10 18).2.2.1 ∈ sw_U := sw_in 1028 (by decide +kernel) (by decide +kernel)
theorem fl_X10_43 : sw_fl RX10 43 10 18 := ⟨RX10, TX10, 54, tyX10, rfl, u_X10, by decide, fl0_X10_43, tyX10_ok, nmX10⟩
theorem fp_X10_43 : sw_fp RX10 43 10 18 true (.array .int) := ⟨RX10, TX10, 54, tyX10, rfl, u_X10, by decide, fl0_X10_43, tyX10_ok, nmX10, rfl, by decide +kernel, fun _ => rfl⟩
theorem fl0_X10_173 : Cond.fieldLink RX10 173 (TX10 19).1 (TX10 19).2.1 (TX10 19).2.2.1 ∈ sw_U := sw_in 1029 (by decide +kernel) (by decide +kernel)
theorem fl_X10_173 : sw_fl RX10 173 10 19 := ⟨RX10, TX10, 54, tyX10, rfl, u_X10, by decide, fl0_X10_173, tyX10_ok, nmX10⟩
theorem fp_X10_173 : sw_fp RX10 173 10 19 false .int := ⟨RX10, TX10, 54, tyX10, rfl, u_X10, by decide, fl0_X10_173, tyX10_ok, nmX10, rfl, by decide +kernel, fun _ => rfl⟩
theorem fl0_X10_46 : Cond.fieldLink RX10 46 (TX10 20).1 (TX10 20).2.1 (TX10 20).2.2.1 ∈ sw_U := sw_in 1030 (by decide +kernel) (by decide +kernel)
theorem fl_X10_46 : sw_fl RX10 46 10 20 := ⟨RX10, TX10, 54, tyX10, rfl, u_X10, by decide, fl0_X10_46, tyX10_ok, nmX10⟩
theorem fp_X10_46 : sw_fp RX10 46 10 20 true (.array .int) := ⟨RX10, TX10, 54, tyX10, rfl, u_X10, by decide, fl0_X10_46, tyX10_ok, nmX10, rfl, by decide +kernel, fun _ => rfl⟩
theorem fl0_X10_176 : Cond.fieldLink RX10 176 (TX10 21).1 (TX10 21).2.1 (TX10 21).2.2.1 ∈ sw_U := sw_in 1031 (by decide +kernel) (by decide +kernel)
theorem fl_X10_176 : sw_fl RX10 176 10 21 := ⟨RX10, TX10, 54, tyX10, rfl, u_X10, by decide, fl0_X10_176, tyX10_ok, nmX10⟩
theorem fp_X10_176 : sw_fp RX10 176 10 21 false .int := ⟨RX10, TX10, 54, tyX10, rfl, u_X10, by decide, fl0_X10_176, tyX10_ok, nmX10, rfl, by decide +kernel, fun _ => rfl⟩
theorem fl0_X10_183 : Cond.fieldLink RX10 183 (TX10 22).1 (TX10 22).2.1 (TX10 22).2.2.1 ∈ sw_U := sw_in 1032 (by decide +kernel) (by decide +kernel)
theorem fl_X10_183 : sw_fl RX10 183 10 22 := ⟨RX10, TX10, 54, tyX10, rfl, u_X10, by decide, fl0_X10_183, tyX10_ok, nmX10⟩
theorem fp_X10_183 : sw_fp RX10 183 10 22 false .int := ⟨RX10, TX10, 54, tyX10, rfl, u_X10, by decide, fl0_X10_183, tyX10_ok, nmX10, rfl, by decide +kernel, fun _ => rfl⟩
theorem fl0_X10_186 : Cond.fieldLink RX10 186 (TX10 23).1 (TX10 23).2.1 (TX10 23).2.2.1 ∈ sw_U := sw_in 1033 (by decide +kernel) (by decide +kernel)
theorem fl_X10_186 : sw_fl RX10 186 10 23 := ⟨RX10, TX10, 54, tyX10, rfl, u_X10, by decide, fl0_X10_186, tyX10_ok, nmX10⟩
theorem fp_X10_186 : sw_fp RX10 186 10 23 false .int := ⟨RX10, TX10, 54, tyX10, rfl, u_X10, by decide, fl0_X10_186, tyX10_ok, nmX10, rfl, by decide +kernel, fun _ => rfl⟩
theorem fl0_X10_49 : Cond.fieldLink RX10 49 (TX10 24).1 (TX10 24).2.1 (TX10 24).2.2.1 ∈ sw_U := sw_in 1034 (by decide +kernel) (by decide +kernel)
theorem fl_X10_49 : sw_fl RX10 49 10 24 := ⟨RX10, TX10, 54, tyX10, rfl, u_X10, by decide, fl0_X10_49, tyX10_ok, nmX10⟩
theorem fp_X10_49 : sw_fp RX10 49 10 24 true (.array .int) := ⟨RX10, TX10, 54, tyX10, rfl, u_X10, by decide, fl0_X10_49, tyX10_ok, nmX10, rfl, by decide +kernel, fun _ => rfl⟩
theorem fl0_X10_52 : Cond.fieldLink RX10 52 (TX10 25).1 (TX10 25).2.1 (TX10 25).2.2.1 ∈ sw_U := sw_in 1035 (by decide +kernel) (by decide +kernel)
theorem fl_X10_52 : sw_fl RX10 52 10 25 := ⟨RX10, TX10, 54, tyX10, rfl, u_X10, by decide, fl0_X10_52, tyX10_ok, nmX10⟩
theorem fp_X10_52 : sw_fp RX10 52 10 25 true (.array .int) := ⟨RX10, TX10, 54, tyX10, rfl, u_X10, by decide, fl0_X10_52, tyX10_ok, nmX10, rfl, by decide +kernel, fun _ => rfl⟩
theorem fl0_X10_202 : Cond.fieldLink RX10 202 (TX10 26).1 (TX10 26).2.1 (TX10 26).2.2.1 ∈ sw_U := sw_in 1036 (by decide +kernel) (by decide +kernel)
theorem fl_X10_202 : sw_fl RX10 202 10 26 := ⟨RX10, TX10, 54, tyX10, rfl, u_X10, by decide, fl0_X10_202, tyX10_ok, nmX10⟩
theorem fp_X10_202 : sw_fp RX10 202 10 26 false .int := ⟨RX10, TX10, 54, tyX10, rfl, u_X10, by decide, fl0_X10_202, tyX10_ok, nmX10, rfl, by decide +kernel, fun _ => rfl⟩
theorem fl0_X10_205 : Cond.fieldLink RX10 205 (TX10 27).1 (TX10 27).2.1 (TX10 27).2.2.1 ∈ sw_U := sw_in 1037 (by decide +kernel) (by decide +kernel)
theorem fl_X10_205 : sw_fl RX10 205 10 27 := ⟨RX10, TX10, 54, tyX10, rfl, u_X10, by decide, fl0_X10_205, tyX10_ok, nmX10⟩
theorem fp_X10_205 : sw_fp RX10 205 10 27 false .int := ⟨RX10, TX10, 54, tyX10, rfl, u_X10, by decide, fl0_X10_205, tyX10_ok, nmX10, rfl, by decide +kernel, fun _ => rfl⟩
theorem fl0_X10_231 : Cond.fieldLink RX10 231 (TX10 28).1 (TX10 28).2.1 (TX10 28).2.2.1 ∈ sw_U := sw_in 1038 (by decide +kernel) (by decide +kernel)
theorem fl_X10_231 : sw_fl RX10 231 10 28 := ⟨RX10, TX10, 54, tyX10, rfl, u_X10, by decide, fl0_X10_231, tyX10_ok, nmX10⟩
theorem fp_X10_231 : sw_fp RX10 231 10 28 false .long := ⟨RX10, TX10, 54, tyX10, rfl, u_X10, by decide, fl0_X10_231, tyX10_ok, nmX10, rfl, by decide +kernel, fun _ => rfl⟩
theorem fl0_X10_234 : Cond.fieldLink RX10 234 (TX10 29).1 (TX10 29).2.1 (TX10 29).2.2.1 ∈ sw_U := sw_in 1039 (by decide +kernel) (by decide +kernel)
theorem fl_X10_234 : sw_fl RX10 234 10 29 := ⟨RX10, TX10, 54, tyX10, rfl, u_X10, by decide, fl0_X10_234, tyX10_ok, nmX10⟩
theorem fp_X10_234 : sw_fp RX10 234 10 29 false .long := ⟨RX10, TX10, 54, tyX10, rfl, u_X10, by decide, fl0_X10_234, tyX10_ok, nmX10, rfl, by decide +kernel, fun _ => rfl⟩
theorem fl0_X10_237 : Cond.fieldLink RX10 237 (TX10 30).1 (TX10 30).2.1 (TX10 30).2.2.1 ∈ sw_U := sw_in 1040 (by decide +kernel) (by decide +kernel)
theorem fl_X10_237 : sw_fl RX10 237 10 30 := ⟨RX10, TX10, 54, tyX10, rfl, u_X10, by decide, fl0_X10_237, tyX10_ok, nmX10⟩
theorem fp_X10_237 : sw_fp RX10 237 10 30 false .long := ⟨RX10, TX10, 54, tyX10, rfl, u_X10, by decide, fl0_X10_237, tyX10_ok, nmX10, rfl, by decide +kernel, fun _ => rfl⟩
theorem fl0_X10_240 : Cond.fieldLink RX10 240 (TX10 31).1 (TX10 31).2.1 (TX10 31).2.2.1 ∈ sw_U := sw_in 1041 (by decide +kernel) (by decide +kernel)
theorem fl_X10_240 : sw_fl RX10 240 10 31 := ⟨RX10, TX10, 54, tyX10, rfl, u_X10, by decide, fl0_X10_240, tyX10_ok, nmX10⟩
theorem fp_X10_240 : sw_fp RX10 240 10 31 false .long := ⟨RX10, TX10, 54, tyX10, rfl, u_X10, by decide, fl0_X10_240, tyX10_ok, nmX10, rfl, by decide +kernel, fun _ => rfl⟩
theorem fl0_X10_243 : Cond.fieldLink RX10 243 (TX10 32).1 (TX10 32).2.1 (TX10 32).2.2.1 ∈ sw_U := sw_in 1042 (by decide +kernel) (by decide +kernel)
theorem fl_X10_243 : sw_fl RX10 243 10 32 := ⟨RX10, TX10, 54, tyX10, rfl, u_X10, by decide, fl0_X10_243, tyX10_ok, nmX10⟩
theorem fp_X10_243 : sw_fp RX10 243 10 32 false .long := ⟨RX10, TX10, 54, tyX10, rfl, u_X10, by decide, fl0_X10_243, tyX10_ok, nmX10, rfl, by decide +kernel, fun _ => rfl⟩
theorem fl0_X10_246 : Cond.fieldLink RX10 246 (TX10 33).1 (TX10 33).2.1 (TX10 33).2.2.1 ∈ sw_U := sw_in 1043 (by decide +kernel) (by decide +kernel)
theorem fl_X10_246 : sw_fl RX10 246 10 33 := ⟨RX10, TX10, 54, tyX10, rfl, u_X10, by decide, fl0_X10_246, tyX10_ok, nmX10⟩
theorem fp_X10_246 : sw_fp RX10 246 10 33 false .long := ⟨RX10, TX10, 54, tyX10, rfl, u_X10, by decide, fl0_X10_246, tyX10_ok, nmX10, rfl, by decide +kernel, fun _ => rfl⟩
theorem fl0_X10_249 : Cond.fieldLink RX10 249 (TX10 34).1 (TX10 34).2.1 (TX10 34).2.2.1 ∈ sw_U := sw_in 1044 (by decide +kernel) (by decide +kernel)
theorem fl_X10_249 : sw_fl RX10 249 10 34 := ⟨RX10, TX10, 54, tyX10, rfl, u_X10, by decide, fl0_X10_249, tyX10_ok, nmX10⟩
theorem fp_X10_249 : sw_fp RX10 249 10 34 false .long := ⟨RX10, TX10, 54, tyX10, rfl, u_X10, by decide, fl0_X10_249, tyX10_ok, nmX10, rfl, by decide +kernel, fun _ => rfl⟩
theorem fl0_X10_216 : Cond.fieldLink RX10 216 (TX10 35).1 (TX10 35).2.1 (TX10 35).2.2.1 ∈ sw_U := sw_in 1045 (by decide +kernel) (by decide +kernel)
theorem fl_X10_216 : sw_fl RX10 216 10 35 := ⟨RX10, TX10, 54, tyX10, rfl, u_X10, by decide, fl0_X10_216, tyX10_ok, nmX10⟩
theorem fp_X10_216 : sw_fp RX10 216 10 35 false .int := ⟨RX10, TX10, 54, tyX10, rfl, u_X10, by decide, fl0_X10_216, tyX10_ok, nmX10, rfl, by decide +kernel, fun _ => rfl⟩
theorem fl0_X10_219 : Cond.fieldLink RX10 219 (TX10 36).1 (TX10 36).2.1 (TX10 36).2.2.1 ∈ sw_U := sw_in 1046 (by decide +kernel) (by decide +kernel)
theorem fl_X10_219 : sw_fl RX10 219 10 36 := ⟨RX10, TX10, 54, tyX10, rfl, u_X10, by decide, fl0_X10_219, tyX10_ok, nmX10⟩
theorem fp_X10_219 : sw_fp RX10 219 10 36 false .int := ⟨RX10, TX10, 54, tyX10, rfl, u_X10, by decide, fl0_X10_219, tyX10_ok, nmX10, rfl, by decide +kernel, fun _ => rfl⟩
theorem fl0_X10_222 : Cond.fieldLink RX10 222 (TX10 37).1 (TX10 37).2.1 (TX10 37).2.2.1 ∈ sw_U := sw_in 1047 (by decide +kernel) (by decide +kernel)
theorem fl_X10_222 : sw_fl RX10 222 10 37 := ⟨RX10, TX10, 54, tyX10, rfl, u_X10, by decide, fl0_X10_222, tyX10_ok, nmX10⟩
theorem fp_X10_222 : sw_fp RX10 222 10 37 false .int := ⟨RX10, TX10, 54, tyX10, rfl, u_X10, by decide, fl0_X10_222, tyX10_ok, nmX10, rfl, by decide +kernel, fun _ => rfl⟩
theorem fl0_X10_225 : Cond.fieldLink RX10 225 (TX10 38).1 (TX10 38).2.1 (TX10 38).2.2.1 ∈ sw_U := sw_in 1048 (by decide +kernel) (by decide +kernel)
theorem fl_X10_225 : sw_fl RX10 225 10 38 := ⟨RX10, TX10, 54, tyX10, rfl, u_X10, by decide, fl0_X10_225, tyX10_ok, nmX10⟩
theorem fp_X10_225 : sw_fp RX10 225 10 38 false .int := ⟨RX10, TX10, 54, tyX10, rfl, u_X10, by decide, fl0_X10_225, tyX10_ok, nmX10, rfl, by decide +kernel, fun _ => rfl⟩
theorem fl0_X10_228 : Cond.fieldLink RX10 228 (TX10 39).1 (TX10 39).2.1 (TX10 39).2.2.1 ∈ sw_U := sw_in 1049 (by decide +kernel) (by decide +kernel)
theorem fl_X10_228 : sw_fl RX10 228 10 39 := ⟨RX10, TX10, 54, tyX10, rfl, u_X10, by decide, fl0_X10_228, tyX10_ok, nmX10⟩
theorem fp_X10_228 : sw_fp RX10 228 10 39 false .int := ⟨RX10, TX10, 54, tyX10, rfl, u_X10, by decide, fl0_X10_228, tyX10_ok, nmX10, rfl, by decide +kernel, fun _ => rfl⟩
theorem fl0_X10_55 : Cond.fieldLink RX10 55 (TX10 40).1 (TX10 40).2.1 (TX10 40).2.2.1 ∈ sw_U := sw_in 1050 (by decide +kernel) (by decide +kernel)
theorem fl_X10_55 : sw_fl RX10 55 10 40 := ⟨RX10, TX10, 54, tyX10, rfl, u_X10, by decide, fl0_X10_55, tyX10_ok, nmX10⟩
theorem fp_X10_55 : sw_fp RX10 55 10 40 true (.array .int) := ⟨RX10, TX10, 54, tyX10, rfl, u_X10, by decide, fl0_X10_55, tyX10_ok, nmX10, rfl, by decide +kernel, fun _ => rfl⟩
theorem fl0_X10_58 : Cond.fieldLink RX10 58 (TX10 41).1 (TX10 41).2.1 (TX10 41).2.2.1 ∈ sw_U := sw_in 1051 (by decide +kernel) (by decide +kernel)
theorem fl_X10_58 : sw_fl RX10 58 10 41 := ⟨RX10, TX10, 54, tyX10, rfl, u_X10, by decide, fl0_X10_58, tyX10_ok, nmX10⟩
theorem fp_X10_58 : sw_fp RX10 58 10 41 true (.array .int) := ⟨RX10, TX10, 54, tyX10, rfl, u_X10, by decide, fl0_X10_58, tyX10_ok, nmX10, rfl, by decide +kernel, fun _ => rfl⟩
theorem fl0_X10_61 : Cond.fieldLink RX10 61 (TX10 42).1 (TX10 42).2.1 (TX10 42).2.2.1 ∈ sw_U := sw_in 1052 (by decide +kernel) (by decide +kernel)
theorem fl_X10_61 : sw_fl RX10 61 10 42 := ⟨RX10, TX10, 54, tyX10, rfl, u_X10, by decide, fl0_X10_61, tyX10_ok, nmX10⟩
theorem fp_X10_61 : sw_fp RX10 61 10 42 true (.array .int) := ⟨RX10, TX10, 54, tyX10, rfl, u_X10, by decide, fl0_X10_61, tyX10_ok, nmX10, rfl, by decide +kernel, fun _ => rfl⟩
theorem fl0_X10_64 : Cond.fieldLink RX10 64 (TX10 43).1 (TX10 43).2.1 (TX10 43).2.2.1 ∈ sw_U := sw_in 1053 (by decide +kernel) (by decide +kernel)
theorem fl_X10_64 : sw_fl RX10 64 10 43 := ⟨RX10, TX10, 54, tyX10, rfl, u_X10, by decide, fl0_X10_64, tyX10_ok, nmX10⟩
theorem fp_X10_64 : sw_fp RX10 64 10 43 true (.array .int) := ⟨RX10, TX10, 54, tyX10, rfl, u_X10, by decide, fl0_X10_64, tyX10_ok, nmX10, rfl, by decide +kernel, fun _ => rfl⟩
theorem fl0_X10_67 : Cond.fieldLink RX10 67 (TX10 44).1 (TX10 44).2.1 (TX10 44).2.2.1 ∈ sw_U := sw_in 1054 (by decide +kernel) (by decide +kernel)
theorem fl_X10_67 : sw_fl RX10 67 10 44 := ⟨RX10, TX10, 54, tyX10, rfl, u_X10, by decide, fl0_X10_67, tyX10_ok, nmX10⟩
theorem fp_X10_67 : sw_fp RX10 67 10 44 true (.array .int) := ⟨RX10, TX10, 54, tyX10, rfl, u_X10, by decide, fl0_X10_67, tyX10_ok, nmX10, rfl, by decide +kernel, fun _ => rfl⟩
theorem fl0_X10_313 : Cond.fieldLink RX10 313 (TX10 45).1 (TX10 45).2.1 (TX10 45).2.2.1 ∈ sw_U := sw_in 1055 (by decide +kernel) (by decide +kernel)
theorem fl_X10_313 : sw_fl RX10 313 10 45 := ⟨RX10, TX10, 54, tyX10, rfl, u_X10, by decide, fl0_X10_313, tyX10_ok, nmX10⟩
theorem fp_X10_313 : sw_fp RX10 313 10 45 false .int := ⟨RX10, TX10, 54, tyX10, rfl, u_X10, by decide, fl0_X10_313, tyX10_ok, nmX10, rfl, by decide +kernel, fun _ => rfl⟩
theorem fl0_X10_330 : Cond.fieldLink RX10 330 (TX10 46).1 (TX10 46).2.1 (TX10 46).2.2.1 ∈ sw_U := sw_in 1056 (by decide +kernel) (by decide +kernel)
theorem fl_X10_330 : sw_fl RX10 330 10 46 := ⟨RX10, TX10, 54, tyX10, rfl, u_X10, by decide, fl0_X10_330, tyX10_ok, nmX10⟩
theorem fp_X10_330 : sw_fp RX10 330 10 46 false .int := ⟨RX10, TX10, 54, tyX10, rfl, u_X10, by decide, fl0_X10_330, tyX10_ok, nmX10, rfl, by decide +kernel, fun _ => rfl⟩
theorem fl0_X10_316 : Cond.fieldLink RX10 316 (TX10 47).1 (TX10 47).2.1 (TX10 47).2.2.1 ∈ sw_U := sw_in 1057 (by decide +kernel) (by decide +kernel)
theorem fl_X10_316 : sw_fl RX10 316 10 47 := ⟨RX10, TX10, 54, tyX10, rfl, u_X10, by decide, fl0_X10_316, tyX10_ok, nmX10⟩
theorem fp_X10_316 : sw_fp RX10 316 10 47 false .int := ⟨RX10, TX10, 54, tyX10, rfl, u_X10, by decide, fl0_X10_316, tyX10_ok, nmX10, rfl, by decide +kernel, fun _ => rfl⟩
theorem fl0_X10_70 : Cond.fieldLink RX10 70 (TX10 48).1 (TX10 48).2.1 (TX10 48).2.2.1 ∈ sw_U := sw_in 1058 (by decide +kernel) (by decide +kernel)
theorem fl_X10_70 : sw_fl RX10 70 10 48 := ⟨RX10, TX10, 54, tyX10, rfl, u_X10, by decide, fl0_X10_70, tyX10_ok, nmX10⟩
theorem fp_X10_70 : sw_fp RX10 70 10 48 true (.array .int) := ⟨RX10, TX10, 54, tyX10, rfl, u_X10, by decide, fl0_X10_70, tyX10_ok, nmX10, rfl, by decide +kernel, fun _ => rfl⟩
theorem fl0_X10_73 : Cond.fieldLink RX10 73 (TX10 49).1 (TX10 49).2.1 (TX10 49).2.2.1 ∈ sw_U := sw_in 1059 (by decide +kernel) (by decide +kernel)
theorem fl_X10_73 : sw_fl RX10 73 10 49 := ⟨RX10, TX10, 54, tyX10, rfl, u_X10, by decide, fl0_X10_73, tyX10_ok, nmX10⟩
theorem fp_X10_73 : sw_fp RX10 73 10 49 true (.array .int) := ⟨RX10, TX10, 54, tyX10, rfl, u_X10, by decide, fl0_X10_73, tyX10_ok, nmX10, rfl, by decide +kernel, fun _ => rfl⟩
theorem fl0_X10_346 : Cond.fieldLink RX10 346 (TX10 50).1 (TX10 50).2.1 (TX10 50).2.2.1 ∈ sw_U := sw_in 1060 (by decide +kernel) (by decide +kernel)
theorem fl_X10_346 : sw_fl RX10 346 10 50 := ⟨RX10, TX10, 54, tyX10, rfl, u_X10, by decide, fl0_X10_346, tyX10_ok, nmX10⟩
theorem fp_X10_346 : sw_fp RX10 346 10 50 false .int := ⟨RX10, TX10, 54, tyX10, rfl, u_X10, by decide, fl0_X10_346, tyX10_ok, nmX10, rfl, by decide +kernel, fun _ => rfl⟩
theorem fl0_X10_349 : Cond.fieldLink RX10 349 (TX10 51).1 (TX10 51).2.1 (TX10 51).2.2.1 ∈ sw_U := sw_in 1061 (by decide +kernel) (by decide +kernel)
theorem fl_X10_349 : sw_fl RX10 349 10 51 := ⟨RX10, TX10, 54, tyX10, rfl, u_X10, by decide, fl0_X10_349, tyX10_ok, nmX10⟩
theorem fp_X10_349 : sw_fp RX10 349 10 51 false .int := ⟨RX10, TX10, 54, tyX10, rfl, u_X10, by decide, fl0_X10_349, tyX10_ok, nmX10, rfl, by decide +kernel, fun _ => rfl⟩
theorem fl0_X10_352 : Cond.fieldLink RX10 352 (TX10 52).1 (TX10 52).2.1 (TX10 52).2.2.1 ∈ sw_U := sw_in 1062 (by decide +kernel) (by decide +kernel)
theorem fl_X10_352 : sw_fl RX10 352 10 52 := ⟨RX10, TX10, 54, tyX10, rfl, u_X10, by decide, fl0_X10_352, tyX10_ok, nmX10⟩
theorem fp_X10_352 : sw_fp RX10 352 10 52 false .int := ⟨RX10, TX10, 54, tyX10, rfl, u_X10, by decide, fl0_X10_352, tyX10_ok, nmX10, rfl, by decide +kernel, fun _ => rfl⟩
theorem fl0_X10_336 : Cond.fieldLink RX10 336 (TX10 53).1 (TX10 53).2.1 (TX10 53).2.2.1 ∈ sw_U := sw_in 1063 (by decide +kernel) (by decide +kernel)
theorem fl_X10_336 : sw_fl RX10 336 10 53 := ⟨RX10, TX10, 54, tyX10, rfl, u_X10, by decide, fl0_X10_336, tyX10_ok, nmX10⟩
theorem fp_X10_336 : sw_fp RX10 336 10 53 false .long := ⟨RX10, TX10, 54, tyX10, rfl, u_X10, by decide, fl0_X10_336, tyX10_ok, nmX10, rfl, by decide +kernel, fun _ => rfl⟩
theorem ml_L_52 : Cond.methodLink RL 52 yX10_thrown ∈ sw_U := sw_in 1173 (by decide +kernel) (by decide +kernel)
theorem ml_L_27 : Cond.methodLink RL 27 yX10_feed ∈ sw_U := sw_in 1177 (by decide +kernel) (by decide +kernel)
theorem ml_X10_80 : Cond.methodLink RX10 80 yX10_byteOf ∈ sw_U := sw_in 1181 (by decide +kernel) (by decide +kernel)
theorem ml_L_32 : Cond.methodLink RL 32 yX10_end ∈ sw_U := sw_in 1184 (by decide +kernel) (by decide +kernel)
theorem ml_L_37 : Cond.methodLink RL 37 yX10_fault ∈ sw_U := sw_in 1188 (by decide +kernel) (by decide +kernel)
theorem ml_X10_122 : Cond.methodLink RX10 122 yX10_readSale ∈ sw_U := sw_in 1192 (by decide +kernel) (by decide +kernel)
theorem ml_X10_97 : Cond.methodLink RX10 97 yX10_look ∈ sw_U := sw_in 1196 (by decide +kernel) (by decide +kernel)
theorem ml_X10_90 : Cond.methodLink RX10 90 yX10_here ∈ sw_U := sw_in 1200 (by decide +kernel) (by decide +kernel)
theorem ml_X10_104 : Cond.methodLink RX10 104 yX10_bad ∈ sw_U := sw_in 1204 (by decide +kernel) (by decide +kernel)
theorem ml_X10_111 : Cond.methodLink RX10 111 yX10_number ∈ sw_U := sw_in 1208 (by decide +kernel) (by decide +kernel)
theorem ml_X10_100 : Cond.methodLink RX10 100 yX10_isDigit ∈ sw_U := sw_in 1212 (by decide +kernel) (by decide +kernel)
theorem ml_X10_107 : Cond.methodLink RX10 107 yX10_in ∈ sw_U := sw_in 1215 (by decide +kernel) (by decide +kernel)
theorem ml_X10_115 : Cond.methodLink RX10 115 yX10_statement ∈ sw_U := sw_in 1218 (by decide +kernel) (by decide +kernel)
theorem ml_X10_119 : Cond.methodLink RX10 119 yX10_readTruth ∈ sw_U := sw_in 1222 (by decide +kernel) (by decide +kernel)
theorem ml_L_41 : Cond.methodLink RL 41 yX10_sale ∈ sw_U := sw_in 1226 (by decide +kernel) (by decide +kernel)
theorem ml_L_45 : Cond.methodLink RL 45 yX10_told ∈ sw_U := sw_in 1230 (by decide +kernel) (by decide +kernel)
theorem ml_X10_129 : Cond.methodLink RX10 129 yX10_isSale ∈ sw_U := sw_in 1234 (by decide +kernel) (by decide +kernel)
theorem ml_X10_132 : Cond.methodLink RX10 132 yX10_allWeights ∈ sw_U := sw_in 1238 (by decide +kernel) (by decide +kernel)
theorem ml_L_51 : Cond.methodLink RL 51 yX10_truth ∈ sw_U := sw_in 1242 (by decide +kernel) (by decide +kernel)
theorem ml_L_59 : Cond.methodLink RL 59 yX10_change ∈ sw_U := sw_in 1246 (by decide +kernel) (by decide +kernel)
theorem ml_L_64 : Cond.methodLink RL 64 yX10_worth ∈ sw_U := sw_in 1250 (by decide +kernel) (by decide +kernel)
theorem ml_X10_162 : Cond.methodLink RX10 162 yX10_isSign ∈ sw_U := sw_in 1254 (by decide +kernel) (by decide +kernel)
theorem ml_X10_166 : Cond.methodLink RX10 166 yX10_isSignOrNone ∈ sw_U := sw_in 1258 (by decide +kernel) (by decide +kernel)
theorem ml_X10_145 : Cond.methodLink RX10 145 yX10_see ∈ sw_U := sw_in 1262 (by decide +kernel) (by decide +kernel)
theorem ml_X10_142 : Cond.methodLink RX10 142 yX10_weigh ∈ sw_U := sw_in 1266 (by decide +kernel) (by decide +kernel)
theorem ml_X10_169 : Cond.methodLink RX10 169 yX10_part ∈ sw_U := sw_in 1270 (by decide +kernel) (by decide +kernel)
theorem ml_X10_156 : Cond.methodLink RX10 156 yJ9_abs_067f4 ∈ sw_U := sw_in 1273 (by decide +kernel) (by decide +kernel)
theorem ml_X10_152 : Cond.methodLink RX10 152 yX10_divisor ∈ sw_U := sw_in 1276 (by decide +kernel) (by decide +kernel)
theorem ml_L_68 : Cond.methodLink RL 68 yX10_table ∈ sw_U := sw_in 1279 (by decide +kernel) (by decide +kernel)
theorem ml_L_72 : Cond.methodLink RL 72 yX10_bid ∈ sw_U := sw_in 1283 (by decide +kernel) (by decide +kernel)
theorem ml_L_76 : Cond.methodLink RL 76 yX10_seat ∈ sw_U := sw_in 1287 (by decide +kernel) (by decide +kernel)
theorem ml_L_80 : Cond.methodLink RL 80 yX10_bids ∈ sw_U := sw_in 1291 (by decide +kernel) (by decide +kernel)
theorem ml_X10_196 : Cond.methodLink RX10 196 yX10_isSeat ∈ sw_U := sw_in 1295 (by decide +kernel) (by decide +kernel)
theorem ml_X10_199 : Cond.methodLink RX10 199 yX10_begin ∈ sw_U := sw_in 1299 (by decide +kernel) (by decide +kernel)
theorem ml_X10_189 : Cond.methodLink RX10 189 yX10_fill ∈ sw_U := sw_in 1303 (by decide +kernel) (by decide +kernel)
theorem ml_X10_193 : Cond.methodLink RX10 193 yX10_bidBy ∈ sw_U := sw_in 1307 (by decide +kernel) (by decide +kernel)
theorem ml_X10_179 : Cond.methodLink RX10 179 yX10_held ∈ sw_U := sw_in 1311 (by decide +kernel) (by decide +kernel)
theorem ml_X10_149 : Cond.methodLink RX10 149 yX10_heldNow ∈ sw_U := sw_in 1315 (by decide +kernel) (by decide +kernel)
theorem ml_L_85 : Cond.methodLink RL 85 yX10_cases ∈ sw_U := sw_in 1319 (by decide +kernel) (by decide +kernel)
theorem kl_X10_269 : Cond.constantLong RX10 269 (-1) ∈ sw_U := sw_in 1323 (by decide +kernel) (by decide +kernel)
theorem ml_X10_271 : Cond.methodLink RX10 271 yX10_ask ∈ sw_U := sw_in 1324 (by decide +kernel) (by decide +kernel)
theorem ml_X10_275 : Cond.methodLink RX10 275 yX10_goThrough ∈ sw_U := sw_in 1328 (by decide +kernel) (by decide +kernel)
theorem ml_X10_252 : Cond.methodLink RX10 252 yX10_lay ∈ sw_U := sw_in 1332 (by decide +kernel) (by decide +kernel)
theorem ml_X10_258 : Cond.methodLink RX10 258 yX10_settle ∈ sw_U := sw_in 1336 (by decide +kernel) (by decide +kernel)
theorem ml_X10_208 : Cond.methodLink RX10 208 yJ9_max_7cf53 ∈ sw_U := sw_in 1340 (by decide +kernel) (by decide +kernel)
theorem ml_X10_255 : Cond.methodLink RX10 255 yX10_count ∈ sw_U := sw_in 1341 (by decide +kernel) (by decide +kernel)
theorem kl_X10_211 : Cond.constantLong RX10 211 (12) ∈ sw_U := sw_in 1345 (by decide +kernel) (by decide +kernel)
theorem ml_X10_261 : Cond.methodLink RX10 261 yX10_taken ∈ sw_U := sw_in 1346 (by decide +kernel) (by decide +kernel)
theorem ml_X10_213 : Cond.methodLink RX10 213 yX10_pays ∈ sw_U := sw_in 1350 (by decide +kernel) (by decide +kernel)
theorem ml_X10_265 : Cond.methodLink RX10 265 yX10_gains ∈ sw_U := sw_in 1354 (by decide +kernel) (by decide +kernel)
theorem ml_L_89 : Cond.methodLink RL 89 yX10_gain ∈ sw_U := sw_in 1358 (by decide +kernel) (by decide +kernel)
theorem kl_X10_278 : Cond.constantLong RX10 278 (-1000000000000000) ∈ sw_U := sw_in 1362 (by decide +kernel) (by decide +kernel)
theorem ml_L_94 : Cond.methodLink RL 94 yX10_won ∈ sw_U := sw_in 1363 (by decide +kernel) (by decide +kernel)
theorem ml_X10_280 : Cond.methodLink RX10 280 yX10_findWon ∈ sw_U := sw_in 1367 (by decide +kernel) (by decide +kernel)
theorem ml_L_98 : Cond.methodLink RL 98 yX10_less ∈ sw_U := sw_in 1371 (by decide +kernel) (by decide +kernel)
theorem ml_L_102 : Cond.methodLink RL 102 yX10_best ∈ sw_U := sw_in 1375 (by decide +kernel) (by decide +kernel)
theorem ml_X10_287 : Cond.methodLink RX10 287 yX10_bestOf ∈ sw_U := sw_in 1379 (by decide +kernel) (by decide +kernel)
theorem ml_X10_283 : Cond.methodLink RX10 283 yX10_gainBy ∈ sw_U := sw_in 1383 (by decide +kernel) (by decide +kernel)
theorem ml_L_107 : Cond.methodLink RL 107 yX10_judge ∈ sw_U := sw_in 1387 (by decide +kernel) (by decide +kernel)
theorem ml_L_111 : Cond.methodLink RL 111 yX10_find ∈ sw_U := sw_in 1391 (by decide +kernel) (by decide +kernel)
theorem ml_X10_297 : Cond.methodLink RX10 297 yX10_fillAll ∈ sw_U := sw_in 1395 (by decide +kernel) (by decide +kernel)
theorem ml_X10_294 : Cond.methodLink RX10 294 yX10_keep ∈ sw_U := sw_in 1399 (by decide +kernel) (by decide +kernel)
theorem ml_X10_300 : Cond.methodLink RX10 300 yX10_turns ∈ sw_U := sw_in 1403 (by decide +kernel) (by decide +kernel)
theorem ml_X10_291 : Cond.methodLink RX10 291 yX10_isKept ∈ sw_U := sw_in 1407 (by decide +kernel) (by decide +kernel)
theorem ml_L_116 : Cond.methodLink RL 116 yX10_by ∈ sw_U := sw_in 1411 (by decide +kernel) (by decide +kernel)
theorem ml_X10_303 : Cond.methodLink RX10 303 yX10_sell ∈ sw_U := sw_in 1415 (by decide +kernel) (by decide +kernel)
theorem ml_L_121 : Cond.methodLink RL 121 yX10_bar ∈ sw_U := sw_in 1419 (by decide +kernel) (by decide +kernel)
theorem ml_L_126 : Cond.methodLink RL 126 yX10_telling ∈ sw_U := sw_in 1423 (by decide +kernel) (by decide +kernel)
theorem ml_L_130 : Cond.methodLink RL 130 yX10_near ∈ sw_U := sw_in 1427 (by decide +kernel) (by decide +kernel)
theorem ml_X10_310 : Cond.methodLink RX10 310 yX10_nearBest ∈ sw_U := sw_in 1431 (by decide +kernel) (by decide +kernel)
theorem ml_X10_306 : Cond.methodLink RX10 306 yX10_nearBy ∈ sw_U := sw_in 1435 (by decide +kernel) (by decide +kernel)
theorem ml_L_134 : Cond.methodLink RL 134 yX10_nearGain ∈ sw_U := sw_in 1439 (by decide +kernel) (by decide +kernel)
theorem ml_L_138 : Cond.methodLink RL 138 yX10_asOne ∈ sw_U := sw_in 1443 (by decide +kernel) (by decide +kernel)
theorem ml_L_143 : Cond.methodLink RL 143 yX10_lay_ ∈ sw_U := sw_in 1447 (by decide +kernel) (by decide +kernel)
theorem ml_L_147 : Cond.methodLink RL 147 yX10_open ∈ sw_U := sw_in 1451 (by decide +kernel) (by decide +kernel)
theorem ml_X10_333 : Cond.methodLink RX10 333 yX10_rise ∈ sw_U := sw_in 1455 (by decide +kernel) (by decide +kernel)
theorem ml_X10_319 : Cond.methodLink RX10 319 yJ6_bitCount_0f7a4 ∈ sw_U := sw_in 1459 (by decide +kernel) (by decide +kernel)
theorem ki_J6_265 : Cond.constant RJ6 265 (1431655765) ∈ sw_U := sw_in 1462 (by decide +kernel) (by decide +kernel)
theorem ki_J6_266 : Cond.constant RJ6 266 (858993459) ∈ sw_U := sw_in 1463 (by decide +kernel) (by decide +kernel)
theorem ki_J6_267 : Cond.constant RJ6 267 (252645135) ∈ sw_U := sw_in 1464 (by decide +kernel) (by decide +kernel)
theorem ml_X10_324 : Cond.methodLink RX10 324 yX10_heldOf ∈ sw_U := sw_in 1465 (by decide +kernel) (by decide +kernel)
theorem ml_X10_327 : Cond.methodLink RX10 327 yJ6_numberOfTrailingZeros_0f7a4 ∈ sw_U := sw_in 1469 (by decide +kernel) (by decide +kernel)
theorem ki_J6_264 : Cond.constant RJ6 264 (65536) ∈ sw_U := sw_in 1472 (by decide +kernel) (by decide +kernel)
theorem ml_L_151 : Cond.methodLink RL 151 yX10_leaves ∈ sw_U := sw_in 1473 (by decide +kernel) (by decide +kernel)
theorem ml_L_158 : Cond.methodLink RL 158 yX10_learn ∈ sw_U := sw_in 1477 (by decide +kernel) (by decide +kernel)
theorem ml_X10_355 : Cond.methodLink RX10 355 yX10_round ∈ sw_U := sw_in 1481 (by decide +kernel) (by decide +kernel)
theorem ml_X10_358 : Cond.methodLink RX10 358 yX10_drawTruth ∈ sw_U := sw_in 1485 (by decide +kernel) (by decide +kernel)
theorem ml_X10_343 : Cond.methodLink RX10 343 yX10_draw ∈ sw_U := sw_in 1489 (by decide +kernel) (by decide +kernel)
theorem kl_X10_339 : Cond.constantLong RX10 339 (6364136223846793005) ∈ sw_U := sw_in 1493 (by decide +kernel) (by decide +kernel)
theorem kl_X10_341 : Cond.constantLong RX10 341 (1442695040888963407) ∈ sw_U := sw_in 1494 (by decide +kernel) (by decide +kernel)
theorem ml_X10_361 : Cond.methodLink RX10 361 yX10_drawSign ∈ sw_U := sw_in 1495 (by decide +kernel) (by decide +kernel)
theorem ml_X10_364 : Cond.methodLink RX10 364 yX10_change_ ∈ sw_U := sw_in 1499 (by decide +kernel) (by decide +kernel)
theorem ml_X10_367 : Cond.methodLink RX10 367 yJ9_min_7cf53 ∈ sw_U := sw_in 1503 (by decide +kernel) (by decide +kernel)
theorem ml_L_162 : Cond.methodLink RL 162 yX10_learned ∈ sw_U := sw_in 1504 (by decide +kernel) (by decide +kernel)
theorem ml_L_166 : Cond.methodLink RL 166 yX10_got ∈ sw_U := sw_in 1508 (by decide +kernel) (by decide +kernel)
theorem ml_L_170 : Cond.methodLink RL 170 yX10_count_ ∈ sw_U := sw_in 1512 (by decide +kernel) (by decide +kernel)
theorem kl_L_152 : Cond.constantLong RL 152 (4294967295) ∈ sw_U := sw_in 1516 (by decide +kernel) (by decide +kernel)
/-- a method: name, code, locals, answer, frames below it and its own, new cells, their slots -/
abbrev sw_Mt : Type := MethodName × ByteArray × Nat × Option FieldType × Nat × Nat × Nat
abbrev mY (μ : sw_Mt) : MethodName := μ.1
abbrev mC (μ : sw_Mt) : ByteArray := μ.2.1
abbrev mL (μ : sw_Mt) : Nat := μ.2.2.1
abbrev mR (μ : sw_Mt) : Option FieldType := μ.2.2.2.1
abbrev mF (μ : sw_Mt) : Nat := μ.2.2.2.2.1
abbrev mK (μ : sw_Mt) : Nat := μ.2.2.2.2.2.1
abbrev mS (μ : sw_Mt) : Nat := μ.2.2.2.2.2.2
abbrev mT (μ : sw_Mt) : List Cond := Cond.code (mY μ) (mC μ) (mL μ) (mR μ) :: sw_U
def sw_mo (μ : sw_Mt) : Prop := Cond.code (mY μ) (mC μ) (mL μ) (mR μ) ∈ sw_U ∧ (mY μ).cls ≠ "java/lang/invoke/MethodHandle" ∧ (mY μ).cls ≠ "java/lang/invoke/VarHandle" ∧ Cond.initialized (mY μ).cls ∈ sw_U ∧ plainName (mY μ).cls = true
def sw_mv (μ : sw_Mt) : Prop := sw_mo μ ∧ Cond.instanceMethod (mY μ) ∈ sw_U ∧ Cond.selects (mY μ).cls (mY μ) (mY μ) ∈ sw_U
def sw_ms (μ : sw_Mt) : Prop := sw_mo μ ∧ Cond.static (mY μ) ∈ sw_U
def μX0_gather : sw_Mt := (yX0_gather, cX0_gather, 5, none, 6, 0, 0)
theorem mc_X0_gather : Cond.code yX0_gather cX0_gather 5 none ∈ sw_U := sw_in 789 (by decide +kernel) (by decide +kernel)
theorem mi_X0_gather : Cond.instanceMethod yX0_gather ∈ sw_U := sw_in 787 (by decide +kernel) (by decide +kernel)
theorem mx_X0_gather : Cond.selects RX0 yX0_gather yX0_gather ∈ sw_U := sw_in 788 (by decide +kernel) (by decide +kernel)
theorem mm_X0_gather : sw_mv μX0_gather := ⟨⟨mc_X0_gather, by decide +kernel, by decide +kernel, ui_X0, by decide +kernel⟩, mi_X0_gather, mx_X0_gather⟩
def μX0_addTo : sw_Mt := (yX0_addTo, cX0_addTo, 4, none, 2, 0, 0)
theorem mc_X0_addTo : Cond.code yX0_addTo cX0_addTo 4 none ∈ sw_U := sw_in 793 (by decide +kernel) (by decide +kernel)
theorem mt_X0_addTo : Cond.static yX0_addTo ∈ sw_U := sw_in 792 (by decide +kernel) (by decide +kernel)
theorem mm_X0_addTo : sw_ms μX0_addTo := ⟨⟨mc_X0_addTo, by decide +kernel, by decide +kernel, ui_X0, by decide +kernel⟩, mt_X0_addTo⟩
def μX0_pick : sw_Mt := (yX0_pick, cX0_pick, 13, (some .int), 2, 0, 0)
theorem mc_X0_pick : Cond.code yX0_pick cX0_pick 13 (some .int) ∈ sw_U := sw_in 798 (by decide +kernel) (by decide +kernel)
theorem mi_X0_pick : Cond.instanceMethod yX0_pick ∈ sw_U := sw_in 796 (by decide +kernel) (by decide +kernel)
theorem mx_X0_pick : Cond.selects RX0 yX0_pick yX0_pick ∈ sw_U := sw_in 797 (by decide +kernel) (by decide +kernel)
theorem mm_X0_pick : sw_mv μX0_pick := ⟨⟨mc_X0_pick, by decide +kernel, by decide +kernel, ui_X0, by decide +kernel⟩, mi_X0_pick, mx_X0_pick⟩
def μX1_bidBy : sw_Mt := (yX1_bidBy, cX1_bidBy, 4, none, 2, 0, 0)
theorem mc_X1_bidBy : Cond.code yX1_bidBy cX1_bidBy 4 none ∈ sw_U := sw_in 634 (by decide +kernel) (by decide +kernel)
theorem mi_X1_bidBy : Cond.instanceMethod yX1_bidBy ∈ sw_U := sw_in 632 (by decide +kernel) (by decide +kernel)
theorem mx_X1_bidBy : Cond.selects RX1 yX1_bidBy yX1_bidBy ∈ sw_U := sw_in 633 (by decide +kernel) (by decide +kernel)
theorem mm_X1_bidBy : sw_mv μX1_bidBy := ⟨⟨mc_X1_bidBy, by decide +kernel, by decide +kernel, ui_X1, by decide +kernel⟩, mi_X1_bidBy, mx_X1_bidBy⟩
def μX1_bidNow : sw_Mt := (yX1_bidNow, cX1_bidNow, 2, (some .int), 2, 0, 0)
theorem mc_X1_bidNow : Cond.code yX1_bidNow cX1_bidNow 2 (some .int) ∈ sw_U := sw_in 663 (by decide +kernel) (by decide +kernel)
theorem mi_X1_bidNow : Cond.instanceMethod yX1_bidNow ∈ sw_U := sw_in 661 (by decide +kernel) (by decide +kernel)
theorem mx_X1_bidNow : Cond.selects RX1 yX1_bidNow yX1_bidNow ∈ sw_U := sw_in 662 (by decide +kernel) (by decide +kernel)
theorem mm_X1_bidNow : sw_mv μX1_bidNow := ⟨⟨mc_X1_bidNow, by decide +kernel, by decide +kernel, ui_X1, by decide +kernel⟩, mi_X1_bidNow, mx_X1_bidNow⟩
def μX1_withSign : sw_Mt := (yX1_withSign, cX1_withSign, 4, none, 4, 0, 0)
theorem mc_X1_withSign : Cond.code yX1_withSign cX1_withSign 4 none ∈ sw_U := sw_in 638 (by decide +kernel) (by decide +kernel)
theorem mi_X1_withSign : Cond.instanceMethod yX1_withSign ∈ sw_U := sw_in 636 (by decide +kernel) (by decide +kernel)
theorem mx_X1_withSign : Cond.selects RX1 yX1_withSign yX1_withSign ∈ sw_U := sw_in 637 (by decide +kernel) (by decide +kernel)
theorem mm_X1_withSign : sw_mv μX1_withSign := ⟨⟨mc_X1_withSign, by decide +kernel, by decide +kernel, ui_X1, by decide +kernel⟩, mi_X1_withSign, mx_X1_withSign⟩
def μX1_withTruth : sw_Mt := (yX1_withTruth, cX1_withTruth, 4, none, 2, 0, 0)
theorem mc_X1_withTruth : Cond.code yX1_withTruth cX1_withTruth 4 none ∈ sw_U := sw_in 814 (by decide +kernel) (by decide +kernel)
theorem mi_X1_withTruth : Cond.instanceMethod yX1_withTruth ∈ sw_U := sw_in 812 (by decide +kernel) (by decide +kernel)
theorem mx_X1_withTruth : Cond.selects RX1 yX1_withTruth yX1_withTruth ∈ sw_U := sw_in 813 (by decide +kernel) (by decide +kernel)
theorem mm_X1_withTruth : sw_mv μX1_withTruth := ⟨⟨mc_X1_withTruth, by decide +kernel, by decide +kernel, ui_X1, by decide +kernel⟩, mi_X1_withTruth, mx_X1_withTruth⟩
def μX1_begin : sw_Mt := (yX1_begin, cX1_begin, 6, (some .int), 5, 0, 0)
theorem mc_X1_begin : Cond.code yX1_begin cX1_begin 6 (some .int) ∈ sw_U := sw_in 651 (by decide +kernel) (by decide +kernel)
theorem mi_X1_begin : Cond.instanceMethod yX1_begin ∈ sw_U := sw_in 649 (by decide +kernel) (by decide +kernel)
theorem mx_X1_begin : Cond.selects RX1 yX1_begin yX1_begin ∈ sw_U := sw_in 650 (by decide +kernel) (by decide +kernel)
theorem mm_X1_begin : sw_mv μX1_begin := ⟨⟨mc_X1_begin, by decide +kernel, by decide +kernel, ui_X1, by decide +kernel⟩, mi_X1_begin, mx_X1_begin⟩
def μX1_step : sw_Mt := (yX1_step, cX1_step, 2, none, 5, 0, 0)
theorem mc_X1_step : Cond.code yX1_step cX1_step 2 none ∈ sw_U := sw_in 684 (by decide +kernel) (by decide +kernel)
theorem mi_X1_step : Cond.instanceMethod yX1_step ∈ sw_U := sw_in 682 (by decide +kernel) (by decide +kernel)
theorem mx_X1_step : Cond.selects RX1 yX1_step yX1_step ∈ sw_U := sw_in 683 (by decide +kernel) (by decide +kernel)
theorem mm_X1_step : sw_mv μX1_step := ⟨⟨mc_X1_step, by decide +kernel, by decide +kernel, ui_X1, by decide +kernel⟩, mi_X1_step, mx_X1_step⟩
def μX1_reckon : sw_Mt := (yX1_reckon, cX1_reckon, 5, none, 4, 0, 0)
theorem mc_X1_reckon : Cond.code yX1_reckon cX1_reckon 5 none ∈ sw_U := sw_in 655 (by decide +kernel) (by decide +kernel)
theorem mi_X1_reckon : Cond.instanceMethod yX1_reckon ∈ sw_U := sw_in 654 (by decide +kernel) (by decide +kernel)
theorem mx_X1_reckon : Cond.selects RX1 yX1_reckon yX1_reckon ∈ sw_U := sw_in 11 (by decide +kernel) (by decide +kernel)
theorem mm_X1_reckon : sw_mv μX1_reckon := ⟨⟨mc_X1_reckon, by decide +kernel, by decide +kernel, ui_X1, by decide +kernel⟩, mi_X1_reckon, mx_X1_reckon⟩
def μX1_rank : sw_Mt := (yX1_rank, cX1_rank, 3, none, 3, 0, 0)
theorem mc_X1_rank : Cond.code yX1_rank cX1_rank 3 none ∈ sw_U := sw_in 659 (by decide +kernel) (by decide +kernel)
theorem mi_X1_rank : Cond.instanceMethod yX1_rank ∈ sw_U := sw_in 658 (by decide +kernel) (by decide +kernel)
theorem mx_X1_rank : Cond.selects RX1 yX1_rank yX1_rank ∈ sw_U := sw_in 12 (by decide +kernel) (by decide +kernel)
theorem mm_X1_rank : sw_mv μX1_rank := ⟨⟨mc_X1_rank, by decide +kernel, by decide +kernel, ui_X1, by decide +kernel⟩, mi_X1_rank, mx_X1_rank⟩
def μX1_price : sw_Mt := (yX1_price, cX1_price, 1, (some .int), 2, 0, 0)
theorem mc_X1_price : Cond.code yX1_price cX1_price 1 (some .int) ∈ sw_U := sw_in 672 (by decide +kernel) (by decide +kernel)
theorem mi_X1_price : Cond.instanceMethod yX1_price ∈ sw_U := sw_in 670 (by decide +kernel) (by decide +kernel)
theorem mx_X1_price : Cond.selects RX1 yX1_price yX1_price ∈ sw_U := sw_in 671 (by decide +kernel) (by decide +kernel)
theorem mm_X1_price : sw_mv μX1_price := ⟨⟨mc_X1_price, by decide +kernel, by decide +kernel, ui_X1, by decide +kernel⟩, mi_X1_price, mx_X1_price⟩
def μX1_weightBelow : sw_Mt := (yX1_weightBelow, cX1_weightBelow, 5, (some .long), 2, 0, 0)
theorem mc_X1_weightBelow : Cond.code yX1_weightBelow cX1_weightBelow 5 (some .long) ∈ sw_U := sw_in 676 (by decide +kernel) (by decide +kernel)
theorem mi_X1_weightBelow : Cond.instanceMethod yX1_weightBelow ∈ sw_U := sw_in 674 (by decide +kernel) (by decide +kernel)
theorem mx_X1_weightBelow : Cond.selects RX1 yX1_weightBelow yX1_weightBelow ∈ sw_U := sw_in 675 (by decide +kernel) (by decide +kernel)
theorem mm_X1_weightBelow : sw_mv μX1_weightBelow := ⟨⟨mc_X1_weightBelow, by decide +kernel, by decide +kernel, ui_X1, by decide +kernel⟩, mi_X1_weightBelow, mx_X1_weightBelow⟩
def μX2_begin : sw_Mt := (yX2_begin, cX2_begin, 5, none, 2, 0, 0)
theorem mc_X2_begin : Cond.code yX2_begin cX2_begin 5 none ∈ sw_U := sw_in 863 (by decide +kernel) (by decide +kernel)
theorem mi_X2_begin : Cond.instanceMethod yX2_begin ∈ sw_U := sw_in 861 (by decide +kernel) (by decide +kernel)
theorem mx_X2_begin : Cond.selects RX2 yX2_begin yX2_begin ∈ sw_U := sw_in 862 (by decide +kernel) (by decide +kernel)
theorem mm_X2_begin : sw_mv μX2_begin := ⟨⟨mc_X2_begin, by decide +kernel, by decide +kernel, ui_X2, by decide +kernel⟩, mi_X2_begin, mx_X2_begin⟩
def μX2_round : sw_Mt := (yX2_round, cX2_round, 3, none, 5, 0, 0)
theorem mc_X2_round : Cond.code yX2_round cX2_round 3 none ∈ sw_U := sw_in 867 (by decide +kernel) (by decide +kernel)
theorem mi_X2_round : Cond.instanceMethod yX2_round ∈ sw_U := sw_in 865 (by decide +kernel) (by decide +kernel)
theorem mx_X2_round : Cond.selects RX2 yX2_round yX2_round ∈ sw_U := sw_in 866 (by decide +kernel) (by decide +kernel)
theorem mm_X2_round : sw_mv μX2_round := ⟨⟨mc_X2_round, by decide +kernel, by decide +kernel, ui_X2, by decide +kernel⟩, mi_X2_round, mx_X2_round⟩
def μX2_draw : sw_Mt := (yX2_draw, cX2_draw, 2, (some .int), 2, 0, 0)
theorem mc_X2_draw : Cond.code yX2_draw cX2_draw 2 (some .int) ∈ sw_U := sw_in 876 (by decide +kernel) (by decide +kernel)
theorem mi_X2_draw : Cond.instanceMethod yX2_draw ∈ sw_U := sw_in 875 (by decide +kernel) (by decide +kernel)
theorem mx_X2_draw : Cond.selects RX2 yX2_draw yX2_draw ∈ sw_U := sw_in 28 (by decide +kernel) (by decide +kernel)
theorem mm_X2_draw : sw_mv μX2_draw := ⟨⟨mc_X2_draw, by decide +kernel, by decide +kernel, ui_X2, by decide +kernel⟩, mi_X2_draw, mx_X2_draw⟩
def μX2_drawTruth : sw_Mt := (yX2_drawTruth, cX2_drawTruth, 3, (some .int), 3, 0, 0)
theorem mc_X2_drawTruth : Cond.code yX2_drawTruth cX2_drawTruth 3 (some .int) ∈ sw_U := sw_in 871 (by decide +kernel) (by decide +kernel)
theorem mi_X2_drawTruth : Cond.instanceMethod yX2_drawTruth ∈ sw_U := sw_in 870 (by decide +kernel) (by decide +kernel)
theorem mx_X2_drawTruth : Cond.selects RX2 yX2_drawTruth yX2_drawTruth ∈ sw_U := sw_in 27 (by decide +kernel) (by decide +kernel)
theorem mm_X2_drawTruth : sw_mv μX2_drawTruth := ⟨⟨mc_X2_drawTruth, by decide +kernel, by decide +kernel, ui_X2, by decide +kernel⟩, mi_X2_drawTruth, mx_X2_drawTruth⟩
def μX2_drawSign : sw_Mt := (yX2_drawSign, cX2_drawSign, 4, (some .int), 4, 0, 0)
theorem mc_X2_drawSign : Cond.code yX2_drawSign cX2_drawSign 4 (some .int) ∈ sw_U := sw_in 882 (by decide +kernel) (by decide +kernel)
theorem mi_X2_drawSign : Cond.instanceMethod yX2_drawSign ∈ sw_U := sw_in 881 (by decide +kernel) (by decide +kernel)
theorem mx_X2_drawSign : Cond.selects RX2 yX2_drawSign yX2_drawSign ∈ sw_U := sw_in 29 (by decide +kernel) (by decide +kernel)
theorem mm_X2_drawSign : sw_mv μX2_drawSign := ⟨⟨mc_X2_drawSign, by decide +kernel, by decide +kernel, ui_X2, by decide +kernel⟩, mi_X2_drawSign, mx_X2_drawSign⟩
def μX2_drawWinner : sw_Mt := (yX2_drawWinner, cX2_drawWinner, 5, (some .int), 3, 0, 0)
theorem mc_X2_drawWinner : Cond.code yX2_drawWinner cX2_drawWinner 5 (some .int) ∈ sw_U := sw_in 907 (by decide +kernel) (by decide +kernel)
theorem mi_X2_drawWinner : Cond.instanceMethod yX2_drawWinner ∈ sw_U := sw_in 906 (by decide +kernel) (by decide +kernel)
theorem mx_X2_drawWinner : Cond.selects RX2 yX2_drawWinner yX2_drawWinner ∈ sw_U := sw_in 34 (by decide +kernel) (by decide +kernel)
theorem mm_X2_drawWinner : sw_mv μX2_drawWinner := ⟨⟨mc_X2_drawWinner, by decide +kernel, by decide +kernel, ui_X2, by decide +kernel⟩, mi_X2_drawWinner, mx_X2_drawWinner⟩
def μX2_bidNow : sw_Mt := (yX2_bidNow, cX2_bidNow, 2, (some .int), 2, 0, 0)
theorem mc_X2_bidNow : Cond.code yX2_bidNow cX2_bidNow 2 (some .int) ∈ sw_U := sw_in 891 (by decide +kernel) (by decide +kernel)
theorem mi_X2_bidNow : Cond.instanceMethod yX2_bidNow ∈ sw_U := sw_in 890 (by decide +kernel) (by decide +kernel)
theorem mx_X2_bidNow : Cond.selects RX2 yX2_bidNow yX2_bidNow ∈ sw_U := sw_in 31 (by decide +kernel) (by decide +kernel)
theorem mm_X2_bidNow : sw_mv μX2_bidNow := ⟨⟨mc_X2_bidNow, by decide +kernel, by decide +kernel, ui_X2, by decide +kernel⟩, mi_X2_bidNow, mx_X2_bidNow⟩
def μX2_highest : sw_Mt := (yX2_highest, cX2_highest, 5, (some .int), 3, 0, 0)
theorem mc_X2_highest : Cond.code yX2_highest cX2_highest 5 (some .int) ∈ sw_U := sw_in 887 (by decide +kernel) (by decide +kernel)
theorem mi_X2_highest : Cond.instanceMethod yX2_highest ∈ sw_U := sw_in 886 (by decide +kernel) (by decide +kernel)
theorem mx_X2_highest : Cond.selects RX2 yX2_highest yX2_highest ∈ sw_U := sw_in 30 (by decide +kernel) (by decide +kernel)
theorem mm_X2_highest : sw_mv μX2_highest := ⟨⟨mc_X2_highest, by decide +kernel, by decide +kernel, ui_X2, by decide +kernel⟩, mi_X2_highest, mx_X2_highest⟩
def μX2_noneBids : sw_Mt := (yX2_noneBids, cX2_noneBids, 3, none, 4, 0, 0)
theorem mc_X2_noneBids : Cond.code yX2_noneBids cX2_noneBids 3 none ∈ sw_U := sw_in 895 (by decide +kernel) (by decide +kernel)
theorem mi_X2_noneBids : Cond.instanceMethod yX2_noneBids ∈ sw_U := sw_in 894 (by decide +kernel) (by decide +kernel)
theorem mx_X2_noneBids : Cond.selects RX2 yX2_noneBids yX2_noneBids ∈ sw_U := sw_in 32 (by decide +kernel) (by decide +kernel)
theorem mm_X2_noneBids : sw_mv μX2_noneBids := ⟨⟨mc_X2_noneBids, by decide +kernel, by decide +kernel, ui_X2, by decide +kernel⟩, mi_X2_noneBids, mx_X2_noneBids⟩
def μX2_oneWins : sw_Mt := (yX2_oneWins, cX2_oneWins, 7, none, 4, 0, 0)
theorem mc_X2_oneWins : Cond.code yX2_oneWins cX2_oneWins 7 none ∈ sw_U := sw_in 911 (by decide +kernel) (by decide +kernel)
theorem mi_X2_oneWins : Cond.instanceMethod yX2_oneWins ∈ sw_U := sw_in 910 (by decide +kernel) (by decide +kernel)
theorem mx_X2_oneWins : Cond.selects RX2 yX2_oneWins yX2_oneWins ∈ sw_U := sw_in 35 (by decide +kernel) (by decide +kernel)
theorem mm_X2_oneWins : sw_mv μX2_oneWins := ⟨⟨mc_X2_oneWins, by decide +kernel, by decide +kernel, ui_X2, by decide +kernel⟩, mi_X2_oneWins, mx_X2_oneWins⟩
def μX2_move : sw_Mt := (yX2_move, cX2_move, 4, none, 3, 0, 0)
theorem mc_X2_move : Cond.code yX2_move cX2_move 4 none ∈ sw_U := sw_in 899 (by decide +kernel) (by decide +kernel)
theorem mi_X2_move : Cond.instanceMethod yX2_move ∈ sw_U := sw_in 898 (by decide +kernel) (by decide +kernel)
theorem mx_X2_move : Cond.selects RX2 yX2_move yX2_move ∈ sw_U := sw_in 33 (by decide +kernel) (by decide +kernel)
theorem mm_X2_move : sw_mv μX2_move := ⟨⟨mc_X2_move, by decide +kernel, by decide +kernel, ui_X2, by decide +kernel⟩, mi_X2_move, mx_X2_move⟩
def μX3_rise : sw_Mt := (yX3_rise, cX3_rise, 4, none, 8, 0, 0)
theorem mc_X3_rise : Cond.code yX3_rise cX3_rise 4 none ∈ sw_U := sw_in 839 (by decide +kernel) (by decide +kernel)
theorem mi_X3_rise : Cond.instanceMethod yX3_rise ∈ sw_U := sw_in 837 (by decide +kernel) (by decide +kernel)
theorem mx_X3_rise : Cond.selects RX3 yX3_rise yX3_rise ∈ sw_U := sw_in 838 (by decide +kernel) (by decide +kernel)
theorem mm_X3_rise : sw_mv μX3_rise := ⟨⟨mc_X3_rise, by decide +kernel, by decide +kernel, ui_X3, by decide +kernel⟩, mi_X3_rise, mx_X3_rise⟩
def μX3_oneLeaves : sw_Mt := (yX3_oneLeaves, cX3_oneLeaves, 7, none, 7, 0, 0)
theorem mc_X3_oneLeaves : Cond.code yX3_oneLeaves cX3_oneLeaves 7 none ∈ sw_U := sw_in 843 (by decide +kernel) (by decide +kernel)
theorem mi_X3_oneLeaves : Cond.instanceMethod yX3_oneLeaves ∈ sw_U := sw_in 842 (by decide +kernel) (by decide +kernel)
theorem mx_X3_oneLeaves : Cond.selects RX3 yX3_oneLeaves yX3_oneLeaves ∈ sw_U := sw_in 25 (by decide +kernel) (by decide +kernel)
theorem mm_X3_oneLeaves : sw_mv μX3_oneLeaves := ⟨⟨mc_X3_oneLeaves, by decide +kernel, by decide +kernel, ui_X3, by decide +kernel⟩, mi_X3_oneLeaves, mx_X3_oneLeaves⟩
def μX3_limitOf : sw_Mt := (yX3_limitOf, cX3_limitOf, 5, (some .int), 6, 0, 0)
theorem mc_X3_limitOf : Cond.code yX3_limitOf cX3_limitOf 5 (some .int) ∈ sw_U := sw_in 847 (by decide +kernel) (by decide +kernel)
theorem mi_X3_limitOf : Cond.instanceMethod yX3_limitOf ∈ sw_U := sw_in 846 (by decide +kernel) (by decide +kernel)
theorem mx_X3_limitOf : Cond.selects RX3 yX3_limitOf yX3_limitOf ∈ sw_U := sw_in 26 (by decide +kernel) (by decide +kernel)
theorem mm_X3_limitOf : sw_mv μX3_limitOf := ⟨⟨mc_X3_limitOf, by decide +kernel, by decide +kernel, ui_X3, by decide +kernel⟩, mi_X3_limitOf, mx_X3_limitOf⟩
def μX4_gather : sw_Mt := (yX4_gather, cX4_gather, 6, none, 6, 0, 0)
theorem mc_X4_gather : Cond.code yX4_gather cX4_gather 6 none ∈ sw_U := sw_in 717 (by decide +kernel) (by decide +kernel)
theorem mi_X4_gather : Cond.instanceMethod yX4_gather ∈ sw_U := sw_in 715 (by decide +kernel) (by decide +kernel)
theorem mx_X4_gather : Cond.selects RX4 yX4_gather yX4_gather ∈ sw_U := sw_in 716 (by decide +kernel) (by decide +kernel)
theorem mm_X4_gather : sw_mv μX4_gather := ⟨⟨mc_X4_gather, by decide +kernel, by decide +kernel, ui_X4, by decide +kernel⟩, mi_X4_gather, mx_X4_gather⟩
def μX4_addCases : sw_Mt := (yX4_addCases, cX4_addCases, 3, none, 2, 0, 0)
theorem mc_X4_addCases : Cond.code yX4_addCases cX4_addCases 3 none ∈ sw_U := sw_in 722 (by decide +kernel) (by decide +kernel)
theorem mi_X4_addCases : Cond.instanceMethod yX4_addCases ∈ sw_U := sw_in 721 (by decide +kernel) (by decide +kernel)
theorem mx_X4_addCases : Cond.selects RX4 yX4_addCases yX4_addCases ∈ sw_U := sw_in 17 (by decide +kernel) (by decide +kernel)
theorem mm_X4_addCases : sw_mv μX4_addCases := ⟨⟨mc_X4_addCases, by decide +kernel, by decide +kernel, ui_X4, by decide +kernel⟩, mi_X4_addCases, mx_X4_addCases⟩
def μX4_reckon : sw_Mt := (yX4_reckon, cX4_reckon, 20, none, 2, 0, 0)
theorem mc_X4_reckon : Cond.code yX4_reckon cX4_reckon 20 none ∈ sw_U := sw_in 727 (by decide +kernel) (by decide +kernel)
theorem mi_X4_reckon : Cond.instanceMethod yX4_reckon ∈ sw_U := sw_in 726 (by decide +kernel) (by decide +kernel)
theorem mx_X4_reckon : Cond.selects RX4 yX4_reckon yX4_reckon ∈ sw_U := sw_in 18 (by decide +kernel) (by decide +kernel)
theorem mm_X4_reckon : sw_mv μX4_reckon := ⟨⟨mc_X4_reckon, by decide +kernel, by decide +kernel, ui_X4, by decide +kernel⟩, mi_X4_reckon, mx_X4_reckon⟩
def μX4_pick : sw_Mt := (yX4_pick, cX4_pick, 3, (some .int), 2, 0, 0)
theorem mc_X4_pick : Cond.code yX4_pick cX4_pick 3 (some .int) ∈ sw_U := sw_in 732 (by decide +kernel) (by decide +kernel)
theorem mi_X4_pick : Cond.instanceMethod yX4_pick ∈ sw_U := sw_in 730 (by decide +kernel) (by decide +kernel)
theorem mx_X4_pick : Cond.selects RX4 yX4_pick yX4_pick ∈ sw_U := sw_in 731 (by decide +kernel) (by decide +kernel)
theorem mm_X4_pick : sw_mv μX4_pick := ⟨⟨mc_X4_pick, by decide +kernel, by decide +kernel, ui_X4, by decide +kernel⟩, mi_X4_pick, mx_X4_pick⟩
def μX4_most : sw_Mt := (yX4_most, cX4_most, 1, (some .long), 3, 0, 0)
theorem mc_X4_most : Cond.code yX4_most cX4_most 1 (some .long) ∈ sw_U := sw_in 744 (by decide +kernel) (by decide +kernel)
theorem mi_X4_most : Cond.instanceMethod yX4_most ∈ sw_U := sw_in 742 (by decide +kernel) (by decide +kernel)
theorem mx_X4_most : Cond.selects RX4 yX4_most yX4_most ∈ sw_U := sw_in 743 (by decide +kernel) (by decide +kernel)
theorem mm_X4_most : sw_mv μX4_most := ⟨⟨mc_X4_most, by decide +kernel, by decide +kernel, ui_X4, by decide +kernel⟩, mi_X4_most, mx_X4_most⟩
def μX4_isMost : sw_Mt := (yX4_isMost, cX4_isMost, 2, (some .boolean), 4, 0, 0)
theorem mc_X4_isMost : Cond.code yX4_isMost cX4_isMost 2 (some .boolean) ∈ sw_U := sw_in 740 (by decide +kernel) (by decide +kernel)
theorem mi_X4_isMost : Cond.instanceMethod yX4_isMost ∈ sw_U := sw_in 738 (by decide +kernel) (by decide +kernel)
theorem mx_X4_isMost : Cond.selects RX4 yX4_isMost yX4_isMost ∈ sw_U := sw_in 739 (by decide +kernel) (by decide +kernel)
theorem mm_X4_isMost : sw_mv μX4_isMost := ⟨⟨mc_X4_isMost, by decide +kernel, by decide +kernel, ui_X4, by decide +kernel⟩, mi_X4_isMost, mx_X4_isMost⟩
def μX5_clear : sw_Mt := (yX5_clear, cX5_clear, 2, none, 2, 0, 0)
theorem mc_X5_clear : Cond.code yX5_clear cX5_clear 2 none ∈ sw_U := sw_in 507 (by decide +kernel) (by decide +kernel)
theorem mi_X5_clear : Cond.instanceMethod yX5_clear ∈ sw_U := sw_in 505 (by decide +kernel) (by decide +kernel)
theorem mx_X5_clear : Cond.selects RX5 yX5_clear yX5_clear ∈ sw_U := sw_in 506 (by decide +kernel) (by decide +kernel)
theorem mm_X5_clear : sw_mv μX5_clear := ⟨⟨mc_X5_clear, by decide +kernel, by decide +kernel, ui_X5, by decide +kernel⟩, mi_X5_clear, mx_X5_clear⟩
def μX5_hasSign : sw_Mt := (yX5_hasSign, cX5_hasSign, 2, (some .boolean), 2, 0, 0)
theorem mc_X5_hasSign : Cond.code yX5_hasSign cX5_hasSign 2 (some .boolean) ∈ sw_U := sw_in 563 (by decide +kernel) (by decide +kernel)
theorem mi_X5_hasSign : Cond.instanceMethod yX5_hasSign ∈ sw_U := sw_in 561 (by decide +kernel) (by decide +kernel)
theorem mx_X5_hasSign : Cond.selects RX5 yX5_hasSign yX5_hasSign ∈ sw_U := sw_in 562 (by decide +kernel) (by decide +kernel)
theorem mm_X5_hasSign : sw_mv μX5_hasSign := ⟨⟨mc_X5_hasSign, by decide +kernel, by decide +kernel, ui_X5, by decide +kernel⟩, mi_X5_hasSign, mx_X5_hasSign⟩
def μX5_hasSeat : sw_Mt := (yX5_hasSeat, cX5_hasSeat, 2, (some .boolean), 2, 0, 0)
theorem mc_X5_hasSeat : Cond.code yX5_hasSeat cX5_hasSeat 2 (some .boolean) ∈ sw_U := sw_in 605 (by decide +kernel) (by decide +kernel)
theorem mi_X5_hasSeat : Cond.instanceMethod yX5_hasSeat ∈ sw_U := sw_in 603 (by decide +kernel) (by decide +kernel)
theorem mx_X5_hasSeat : Cond.selects RX5 yX5_hasSeat yX5_hasSeat ∈ sw_U := sw_in 604 (by decide +kernel) (by decide +kernel)
theorem mm_X5_hasSeat : sw_mv μX5_hasSeat := ⟨⟨mc_X5_hasSeat, by decide +kernel, by decide +kernel, ui_X5, by decide +kernel⟩, mi_X5_hasSeat, mx_X5_hasSeat⟩
def μX5_allWeights : sw_Mt := (yX5_allWeights, cX5_allWeights, 3, (some .int), 2, 0, 0)
theorem mc_X5_allWeights : Cond.code yX5_allWeights cX5_allWeights 3 (some .int) ∈ sw_U := sw_in 551 (by decide +kernel) (by decide +kernel)
theorem mi_X5_allWeights : Cond.instanceMethod yX5_allWeights ∈ sw_U := sw_in 549 (by decide +kernel) (by decide +kernel)
theorem mx_X5_allWeights : Cond.selects RX5 yX5_allWeights yX5_allWeights ∈ sw_U := sw_in 550 (by decide +kernel) (by decide +kernel)
theorem mm_X5_allWeights : sw_mv μX5_allWeights := ⟨⟨mc_X5_allWeights, by decide +kernel, by decide +kernel, ui_X5, by decide +kernel⟩, mi_X5_allWeights, mx_X5_allWeights⟩
def μX5_seeing : sw_Mt := (yX5_seeing, cX5_seeing, 3, (some .int), 3, 0, 0)
theorem mc_X5_seeing : Cond.code yX5_seeing cX5_seeing 3 (some .int) ∈ sw_U := sw_in 577 (by decide +kernel) (by decide +kernel)
theorem mi_X5_seeing : Cond.instanceMethod yX5_seeing ∈ sw_U := sw_in 575 (by decide +kernel) (by decide +kernel)
theorem mx_X5_seeing : Cond.selects RX5 yX5_seeing yX5_seeing ∈ sw_U := sw_in 576 (by decide +kernel) (by decide +kernel)
theorem mm_X5_seeing : sw_mv μX5_seeing := ⟨⟨mc_X5_seeing, by decide +kernel, by decide +kernel, ui_X5, by decide +kernel⟩, mi_X5_seeing, mx_X5_seeing⟩
def μX5_weigh : sw_Mt := (yX5_weigh, cX5_weigh, 8, (some .boolean), 4, 0, 0)
theorem mc_X5_weigh : Cond.code yX5_weigh cX5_weigh 8 (some .boolean) ∈ sw_U := sw_in 573 (by decide +kernel) (by decide +kernel)
theorem mi_X5_weigh : Cond.instanceMethod yX5_weigh ∈ sw_U := sw_in 571 (by decide +kernel) (by decide +kernel)
theorem mx_X5_weigh : Cond.selects RX5 yX5_weigh yX5_weigh ∈ sw_U := sw_in 572 (by decide +kernel) (by decide +kernel)
theorem mm_X5_weigh : sw_mv μX5_weigh := ⟨⟨mc_X5_weigh, by decide +kernel, by decide +kernel, ui_X5, by decide +kernel⟩, mi_X5_weigh, mx_X5_weigh⟩
def μX5_held : sw_Mt := (yX5_held, cX5_held, 5, (some .int), 5, 0, 0)
theorem mc_X5_held : Cond.code yX5_held cX5_held 5 (some .int) ∈ sw_U := sw_in 616 (by decide +kernel) (by decide +kernel)
theorem mi_X5_held : Cond.instanceMethod yX5_held ∈ sw_U := sw_in 614 (by decide +kernel) (by decide +kernel)
theorem mx_X5_held : Cond.selects RX5 yX5_held yX5_held ∈ sw_U := sw_in 615 (by decide +kernel) (by decide +kernel)
theorem mm_X5_held : sw_mv μX5_held := ⟨⟨mc_X5_held, by decide +kernel, by decide +kernel, ui_X5, by decide +kernel⟩, mi_X5_held, mx_X5_held⟩
def μX6_clear : sw_Mt := (yX6_clear, cX6_clear, 2, none, 2, 0, 0)
theorem mc_X6_clear : Cond.code yX6_clear cX6_clear 2 none ∈ sw_U := sw_in 643 (by decide +kernel) (by decide +kernel)
theorem mi_X6_clear : Cond.instanceMethod yX6_clear ∈ sw_U := sw_in 641 (by decide +kernel) (by decide +kernel)
theorem mx_X6_clear : Cond.selects RX6 yX6_clear yX6_clear ∈ sw_U := sw_in 642 (by decide +kernel) (by decide +kernel)
theorem mm_X6_clear : sw_mv μX6_clear := ⟨⟨mc_X6_clear, by decide +kernel, by decide +kernel, ui_X6, by decide +kernel⟩, mi_X6_clear, mx_X6_clear⟩
def μX6_add : sw_Mt := (yX6_add, cX6_add, 6, none, 6, 0, 0)
theorem mc_X6_add : Cond.code yX6_add cX6_add 6 none ∈ sw_U := sw_in 647 (by decide +kernel) (by decide +kernel)
theorem mi_X6_add : Cond.instanceMethod yX6_add ∈ sw_U := sw_in 645 (by decide +kernel) (by decide +kernel)
theorem mx_X6_add : Cond.selects RX6 yX6_add yX6_add ∈ sw_U := sw_in 646 (by decide +kernel) (by decide +kernel)
theorem mm_X6_add : sw_mv μX6_add := ⟨⟨mc_X6_add, by decide +kernel, by decide +kernel, ui_X6, by decide +kernel⟩, mi_X6_add, mx_X6_add⟩
def μX6_addCases : sw_Mt := (yX6_addCases, cX6_addCases, 9, none, 3, 0, 0)
theorem mc_X6_addCases : Cond.code yX6_addCases cX6_addCases 9 none ∈ sw_U := sw_in 667 (by decide +kernel) (by decide +kernel)
theorem mi_X6_addCases : Cond.instanceMethod yX6_addCases ∈ sw_U := sw_in 666 (by decide +kernel) (by decide +kernel)
theorem mx_X6_addCases : Cond.selects RX6 yX6_addCases yX6_addCases ∈ sw_U := sw_in 13 (by decide +kernel) (by decide +kernel)
theorem mm_X6_addCases : sw_mv μX6_addCases := ⟨⟨mc_X6_addCases, by decide +kernel, by decide +kernel, ui_X6, by decide +kernel⟩, mi_X6_addCases, mx_X6_addCases⟩
def μX6_paidBy : sw_Mt := (yX6_paidBy, cX6_paidBy, 4, (some .long), 2, 0, 0)
theorem mc_X6_paidBy : Cond.code yX6_paidBy cX6_paidBy 4 (some .long) ∈ sw_U := sw_in 680 (by decide +kernel) (by decide +kernel)
theorem mt_X6_paidBy : Cond.static yX6_paidBy ∈ sw_U := sw_in 679 (by decide +kernel) (by decide +kernel)
theorem mm_X6_paidBy : sw_ms μX6_paidBy := ⟨⟨mc_X6_paidBy, by decide +kernel, by decide +kernel, ui_X6, by decide +kernel⟩, mt_X6_paidBy⟩
def μX7_bytesIn : sw_Mt := (yX7_bytesIn, cX7_bytesIn, 3, (some .int), 2, 0, 0)
theorem mc_X7_bytesIn : Cond.code yX7_bytesIn cX7_bytesIn 3 (some .int) ∈ sw_U := sw_in 487 (by decide +kernel) (by decide +kernel)
theorem mt_X7_bytesIn : Cond.static yX7_bytesIn ∈ sw_U := sw_in 486 (by decide +kernel) (by decide +kernel)
theorem mm_X7_bytesIn : sw_ms μX7_bytesIn := ⟨⟨mc_X7_bytesIn, by decide +kernel, by decide +kernel, ui_X7, by decide +kernel⟩, mt_X7_bytesIn⟩
def μX7_put : sw_Mt := (yX7_put, cX7_put, 4, none, 2, 0, 0)
theorem mc_X7_put : Cond.code yX7_put cX7_put 4 none ∈ sw_U := sw_in 491 (by decide +kernel) (by decide +kernel)
theorem mi_X7_put : Cond.instanceMethod yX7_put ∈ sw_U := sw_in 489 (by decide +kernel) (by decide +kernel)
theorem mx_X7_put : Cond.selects RX7 yX7_put yX7_put ∈ sw_U := sw_in 490 (by decide +kernel) (by decide +kernel)
theorem mm_X7_put : sw_mv μX7_put := ⟨⟨mc_X7_put, by decide +kernel, by decide +kernel, ui_X7, by decide +kernel⟩, mi_X7_put, mx_X7_put⟩
def μX7_takeDraft : sw_Mt := (yX7_takeDraft, cX7_takeDraft, 2, (some (.object "SorryToWin$Sale")), 3, 5, 71)
theorem mc_X7_takeDraft : Cond.code yX7_takeDraft cX7_takeDraft 2 (some (.object "SorryToWin$Sale")) ∈ sw_U := sw_in 539 (by decide +kernel) (by decide +kernel)
theorem mi_X7_takeDraft : Cond.instanceMethod yX7_takeDraft ∈ sw_U := sw_in 537 (by decide +kernel) (by decide +kernel)
theorem mx_X7_takeDraft : Cond.selects RX7 yX7_takeDraft yX7_takeDraft ∈ sw_U := sw_in 538 (by decide +kernel) (by decide +kernel)
theorem mm_X7_takeDraft : sw_mv μX7_takeDraft := ⟨⟨mc_X7_takeDraft, by decide +kernel, by decide +kernel, ui_X7, by decide +kernel⟩, mi_X7_takeDraft, mx_X7_takeDraft⟩
def μX7_read : sw_Mt := (yX7_read, cX7_read, 2, (some .int), 7, 0, 0)
theorem mc_X7_read : Cond.code yX7_read cX7_read 2 (some .int) ∈ sw_U := sw_in 503 (by decide +kernel) (by decide +kernel)
theorem mi_X7_read : Cond.instanceMethod yX7_read ∈ sw_U := sw_in 501 (by decide +kernel) (by decide +kernel)
theorem mx_X7_read : Cond.selects RX7 yX7_read yX7_read ∈ sw_U := sw_in 502 (by decide +kernel) (by decide +kernel)
theorem mm_X7_read : sw_mv μX7_read := ⟨⟨mc_X7_read, by decide +kernel, by decide +kernel, ui_X7, by decide +kernel⟩, mi_X7_read, mx_X7_read⟩
def μX7_look : sw_Mt := (yX7_look, cX7_look, 1, (some .int), 2, 0, 0)
theorem mc_X7_look : Cond.code yX7_look cX7_look 1 (some .int) ∈ sw_U := sw_in 515 (by decide +kernel) (by decide +kernel)
theorem mi_X7_look : Cond.instanceMethod yX7_look ∈ sw_U := sw_in 514 (by decide +kernel) (by decide +kernel)
theorem mx_X7_look : Cond.selects RX7 yX7_look yX7_look ∈ sw_U := sw_in 1 (by decide +kernel) (by decide +kernel)
theorem mm_X7_look : sw_mv μX7_look := ⟨⟨mc_X7_look, by decide +kernel, by decide +kernel, ui_X7, by decide +kernel⟩, mi_X7_look, mx_X7_look⟩
def μX7_skip : sw_Mt := (yX7_skip, cX7_skip, 2, none, 3, 0, 0)
theorem mc_X7_skip : Cond.code yX7_skip cX7_skip 2 none ∈ sw_U := sw_in 511 (by decide +kernel) (by decide +kernel)
theorem mi_X7_skip : Cond.instanceMethod yX7_skip ∈ sw_U := sw_in 510 (by decide +kernel) (by decide +kernel)
theorem mx_X7_skip : Cond.selects RX7 yX7_skip yX7_skip ∈ sw_U := sw_in 0 (by decide +kernel) (by decide +kernel)
theorem mm_X7_skip : sw_mv μX7_skip := ⟨⟨mc_X7_skip, by decide +kernel, by decide +kernel, ui_X7, by decide +kernel⟩, mi_X7_skip, mx_X7_skip⟩
def μX7_clause : sw_Mt := (yX7_clause, cX7_clause, 2, none, 6, 0, 0)
theorem mc_X7_clause : Cond.code yX7_clause cX7_clause 2 none ∈ sw_U := sw_in 527 (by decide +kernel) (by decide +kernel)
theorem mi_X7_clause : Cond.instanceMethod yX7_clause ∈ sw_U := sw_in 526 (by decide +kernel) (by decide +kernel)
theorem mx_X7_clause : Cond.selects RX7 yX7_clause yX7_clause ∈ sw_U := sw_in 4 (by decide +kernel) (by decide +kernel)
theorem mm_X7_clause : sw_mv μX7_clause := ⟨⟨mc_X7_clause, by decide +kernel, by decide +kernel, ui_X7, by decide +kernel⟩, mi_X7_clause, mx_X7_clause⟩
def μX7_truthClause : sw_Mt := (yX7_truthClause, cX7_truthClause, 6, none, 5, 0, 0)
theorem mc_X7_truthClause : Cond.code yX7_truthClause cX7_truthClause 6 none ∈ sw_U := sw_in 531 (by decide +kernel) (by decide +kernel)
theorem mi_X7_truthClause : Cond.instanceMethod yX7_truthClause ∈ sw_U := sw_in 530 (by decide +kernel) (by decide +kernel)
theorem mx_X7_truthClause : Cond.selects RX7 yX7_truthClause yX7_truthClause ∈ sw_U := sw_in 5 (by decide +kernel) (by decide +kernel)
theorem mm_X7_truthClause : sw_mv μX7_truthClause := ⟨⟨mc_X7_truthClause, by decide +kernel, by decide +kernel, ui_X7, by decide +kernel⟩, mi_X7_truthClause, mx_X7_truthClause⟩
def μX7_number : sw_Mt := (yX7_number, cX7_number, 6, (some .int), 4, 0, 0)
theorem mc_X7_number : Cond.code yX7_number cX7_number 6 (some .int) ∈ sw_U := sw_in 519 (by decide +kernel) (by decide +kernel)
theorem mi_X7_number : Cond.instanceMethod yX7_number ∈ sw_U := sw_in 518 (by decide +kernel) (by decide +kernel)
theorem mx_X7_number : Cond.selects RX7 yX7_number yX7_number ∈ sw_U := sw_in 2 (by decide +kernel) (by decide +kernel)
theorem mm_X7_number : sw_mv μX7_number := ⟨⟨mc_X7_number, by decide +kernel, by decide +kernel, ui_X7, by decide +kernel⟩, mi_X7_number, mx_X7_number⟩
def μX7_digit : sw_Mt := (yX7_digit, cX7_digit, 2, (some .int), 3, 0, 0)
theorem mc_X7_digit : Cond.code yX7_digit cX7_digit 2 (some .int) ∈ sw_U := sw_in 523 (by decide +kernel) (by decide +kernel)
theorem mi_X7_digit : Cond.instanceMethod yX7_digit ∈ sw_U := sw_in 522 (by decide +kernel) (by decide +kernel)
theorem mx_X7_digit : Cond.selects RX7 yX7_digit yX7_digit ∈ sw_U := sw_in 3 (by decide +kernel) (by decide +kernel)
theorem mm_X7_digit : sw_mv μX7_digit := ⟨⟨mc_X7_digit, by decide +kernel, by decide +kernel, ui_X7, by decide +kernel⟩, mi_X7_digit, mx_X7_digit⟩
def μX8_begin : sw_Mt := (yX8_begin, cX8_begin, 2, none, 3, 0, 0)
theorem mc_X8_begin : Cond.code yX8_begin cX8_begin 2 none ∈ sw_U := sw_in 753 (by decide +kernel) (by decide +kernel)
theorem mi_X8_begin : Cond.instanceMethod yX8_begin ∈ sw_U := sw_in 751 (by decide +kernel) (by decide +kernel)
theorem mx_X8_begin : Cond.selects RX8 yX8_begin yX8_begin ∈ sw_U := sw_in 752 (by decide +kernel) (by decide +kernel)
theorem mm_X8_begin : sw_mv μX8_begin := ⟨⟨mc_X8_begin, by decide +kernel, by decide +kernel, ui_X8, by decide +kernel⟩, mi_X8_begin, mx_X8_begin⟩
def μX8_goesOn : sw_Mt := (yX8_goesOn, cX8_goesOn, 1, (some .boolean), 2, 0, 0)
theorem mc_X8_goesOn : Cond.code yX8_goesOn cX8_goesOn 1 (some .boolean) ∈ sw_U := sw_in 761 (by decide +kernel) (by decide +kernel)
theorem mi_X8_goesOn : Cond.instanceMethod yX8_goesOn ∈ sw_U := sw_in 759 (by decide +kernel) (by decide +kernel)
theorem mx_X8_goesOn : Cond.selects RX8 yX8_goesOn yX8_goesOn ∈ sw_U := sw_in 760 (by decide +kernel) (by decide +kernel)
theorem mm_X8_goesOn : sw_mv μX8_goesOn := ⟨⟨mc_X8_goesOn, by decide +kernel, by decide +kernel, ui_X8, by decide +kernel⟩, mi_X8_goesOn, mx_X8_goesOn⟩
def μX8_close : sw_Mt := (yX8_close, cX8_close, 2, none, 3, 0, 0)
theorem mc_X8_close : Cond.code yX8_close cX8_close 2 none ∈ sw_U := sw_in 769 (by decide +kernel) (by decide +kernel)
theorem mi_X8_close : Cond.instanceMethod yX8_close ∈ sw_U := sw_in 767 (by decide +kernel) (by decide +kernel)
theorem mx_X8_close : Cond.selects RX8 yX8_close yX8_close ∈ sw_U := sw_in 768 (by decide +kernel) (by decide +kernel)
theorem mm_X8_close : sw_mv μX8_close := ⟨⟨mc_X8_close, by decide +kernel, by decide +kernel, ui_X8, by decide +kernel⟩, mi_X8_close, mx_X8_close⟩
def μX8_isRow : sw_Mt := (yX8_isRow, cX8_isRow, 3, (some .boolean), 2, 0, 0)
theorem mc_X8_isRow : Cond.code yX8_isRow cX8_isRow 3 (some .boolean) ∈ sw_U := sw_in 773 (by decide +kernel) (by decide +kernel)
theorem mi_X8_isRow : Cond.instanceMethod yX8_isRow ∈ sw_U := sw_in 772 (by decide +kernel) (by decide +kernel)
theorem mx_X8_isRow : Cond.selects RX8 yX8_isRow yX8_isRow ∈ sw_U := sw_in 21 (by decide +kernel) (by decide +kernel)
theorem mm_X8_isRow : sw_mv μX8_isRow := ⟨⟨mc_X8_isRow, by decide +kernel, by decide +kernel, ui_X8, by decide +kernel⟩, mi_X8_isRow, mx_X8_isRow⟩
def μX8_keep : sw_Mt := (yX8_keep, cX8_keep, 2, none, 2, 0, 0)
theorem mc_X8_keep : Cond.code yX8_keep cX8_keep 2 none ∈ sw_U := sw_in 757 (by decide +kernel) (by decide +kernel)
theorem mi_X8_keep : Cond.instanceMethod yX8_keep ∈ sw_U := sw_in 756 (by decide +kernel) (by decide +kernel)
theorem mx_X8_keep : Cond.selects RX8 yX8_keep yX8_keep ∈ sw_U := sw_in 19 (by decide +kernel) (by decide +kernel)
theorem mm_X8_keep : sw_mv μX8_keep := ⟨⟨mc_X8_keep, by decide +kernel, by decide +kernel, ui_X8, by decide +kernel⟩, mi_X8_keep, mx_X8_keep⟩
def μX9_feed : sw_Mt := (yX9_feed, cX9_feed, 7, (some .int), 3, 0, 0)
theorem mc_X9_feed : Cond.code yX9_feed cX9_feed 7 (some .int) ∈ sw_U := sw_in 484 (by decide +kernel) (by decide +kernel)
theorem mi_X9_feed : Cond.instanceMethod yX9_feed ∈ sw_U := sw_in 482 (by decide +kernel) (by decide +kernel)
theorem mx_X9_feed : Cond.selects RX9 yX9_feed yX9_feed ∈ sw_U := sw_in 483 (by decide +kernel) (by decide +kernel)
theorem mm_X9_feed : sw_mv μX9_feed := ⟨⟨mc_X9_feed, by decide +kernel, by decide +kernel, ui_X9, by decide +kernel⟩, mi_X9_feed, mx_X9_feed⟩
def μX9_end : sw_Mt := (yX9_end, cX9_end, 2, (some .boolean), 2, 0, 0)
theorem mc_X9_end : Cond.code yX9_end cX9_end 2 (some .boolean) ∈ sw_U := sw_in 495 (by decide +kernel) (by decide +kernel)
theorem mi_X9_end : Cond.instanceMethod yX9_end ∈ sw_U := sw_in 493 (by decide +kernel) (by decide +kernel)
theorem mx_X9_end : Cond.selects RX9 yX9_end yX9_end ∈ sw_U := sw_in 494 (by decide +kernel) (by decide +kernel)
theorem mm_X9_end : sw_mv μX9_end := ⟨⟨mc_X9_end, by decide +kernel, by decide +kernel, ui_X9, by decide +kernel⟩, mi_X9_end, mx_X9_end⟩
def μX9_fault : sw_Mt := (yX9_fault, cX9_fault, 1, (some .int), 8, 0, 0)
theorem mc_X9_fault : Cond.code yX9_fault cX9_fault 1 (some .int) ∈ sw_U := sw_in 499 (by decide +kernel) (by decide +kernel)
theorem mi_X9_fault : Cond.instanceMethod yX9_fault ∈ sw_U := sw_in 497 (by decide +kernel) (by decide +kernel)
theorem mx_X9_fault : Cond.selects RX9 yX9_fault yX9_fault ∈ sw_U := sw_in 498 (by decide +kernel) (by decide +kernel)
theorem mm_X9_fault : sw_mv μX9_fault := ⟨⟨mc_X9_fault, by decide +kernel, by decide +kernel, ui_X9, by decide +kernel⟩, mi_X9_fault, mx_X9_fault⟩
def μX9_sale : sw_Mt := (yX9_sale, cX9_sale, 1, (some .int), 8, 5, 71)
theorem mc_X9_sale : Cond.code yX9_sale cX9_sale 1 (some .int) ∈ sw_U := sw_in 535 (by decide +kernel) (by decide +kernel)
theorem mi_X9_sale : Cond.instanceMethod yX9_sale ∈ sw_U := sw_in 533 (by decide +kernel) (by decide +kernel)
theorem mx_X9_sale : Cond.selects RX9 yX9_sale yX9_sale ∈ sw_U := sw_in 534 (by decide +kernel) (by decide +kernel)
theorem mm_X9_sale : sw_mv μX9_sale := ⟨⟨mc_X9_sale, by decide +kernel, by decide +kernel, ui_X9, by decide +kernel⟩, mi_X9_sale, mx_X9_sale⟩
def μX9_told : sw_Mt := (yX9_told, cX9_told, 4, (some .int), 3, 0, 0)
theorem mc_X9_told : Cond.code yX9_told cX9_told 4 (some .int) ∈ sw_U := sw_in 543 (by decide +kernel) (by decide +kernel)
theorem mi_X9_told : Cond.instanceMethod yX9_told ∈ sw_U := sw_in 541 (by decide +kernel) (by decide +kernel)
theorem mx_X9_told : Cond.selects RX9 yX9_told yX9_told ∈ sw_U := sw_in 542 (by decide +kernel) (by decide +kernel)
theorem mm_X9_told : sw_mv μX9_told := ⟨⟨mc_X9_told, by decide +kernel, by decide +kernel, ui_X9, by decide +kernel⟩, mi_X9_told, mx_X9_told⟩
def μX9_truth : sw_Mt := (yX9_truth, cX9_truth, 5, (some .int), 4, 0, 0)
theorem mc_X9_truth : Cond.code yX9_truth cX9_truth 5 (some .int) ∈ sw_U := sw_in 927 (by decide +kernel) (by decide +kernel)
theorem mi_X9_truth : Cond.instanceMethod yX9_truth ∈ sw_U := sw_in 925 (by decide +kernel) (by decide +kernel)
theorem mx_X9_truth : Cond.selects RX9 yX9_truth yX9_truth ∈ sw_U := sw_in 926 (by decide +kernel) (by decide +kernel)
theorem mm_X9_truth : sw_mv μX9_truth := ⟨⟨mc_X9_truth, by decide +kernel, by decide +kernel, ui_X9, by decide +kernel⟩, mi_X9_truth, mx_X9_truth⟩
def μX9_change : sw_Mt := (yX9_change, cX9_change, 5, (some .boolean), 3, 0, 0)
theorem mc_X9_change : Cond.code yX9_change cX9_change 5 (some .boolean) ∈ sw_U := sw_in 555 (by decide +kernel) (by decide +kernel)
theorem mi_X9_change : Cond.instanceMethod yX9_change ∈ sw_U := sw_in 553 (by decide +kernel) (by decide +kernel)
theorem mx_X9_change : Cond.selects RX9 yX9_change yX9_change ∈ sw_U := sw_in 554 (by decide +kernel) (by decide +kernel)
theorem mm_X9_change : sw_mv μX9_change := ⟨⟨mc_X9_change, by decide +kernel, by decide +kernel, ui_X9, by decide +kernel⟩, mi_X9_change, mx_X9_change⟩
def μX9_worth : sw_Mt := (yX9_worth, cX9_worth, 8, (some .int), 5, 0, 0)
theorem mc_X9_worth : Cond.code yX9_worth cX9_worth 8 (some .int) ∈ sw_U := sw_in 559 (by decide +kernel) (by decide +kernel)
theorem mi_X9_worth : Cond.instanceMethod yX9_worth ∈ sw_U := sw_in 557 (by decide +kernel) (by decide +kernel)
theorem mx_X9_worth : Cond.selects RX9 yX9_worth yX9_worth ∈ sw_U := sw_in 558 (by decide +kernel) (by decide +kernel)
theorem mm_X9_worth : sw_mv μX9_worth := ⟨⟨mc_X9_worth, by decide +kernel, by decide +kernel, ui_X9, by decide +kernel⟩, mi_X9_worth, mx_X9_worth⟩
def μX9_table : sw_Mt := (yX9_table, cX9_table, 1, (some .int), 2, 0, 0)
theorem mc_X9_table : Cond.code yX9_table cX9_table 1 (some .int) ∈ sw_U := sw_in 585 (by decide +kernel) (by decide +kernel)
theorem mi_X9_table : Cond.instanceMethod yX9_table ∈ sw_U := sw_in 583 (by decide +kernel) (by decide +kernel)
theorem mx_X9_table : Cond.selects RX9 yX9_table yX9_table ∈ sw_U := sw_in 584 (by decide +kernel) (by decide +kernel)
theorem mm_X9_table : sw_mv μX9_table := ⟨⟨mc_X9_table, by decide +kernel, by decide +kernel, ui_X9, by decide +kernel⟩, mi_X9_table, mx_X9_table⟩
def μX9_bid : sw_Mt := (yX9_bid, cX9_bid, 4, (some .boolean), 3, 0, 0)
theorem mc_X9_bid : Cond.code yX9_bid cX9_bid 4 (some .boolean) ∈ sw_U := sw_in 589 (by decide +kernel) (by decide +kernel)
theorem mi_X9_bid : Cond.instanceMethod yX9_bid ∈ sw_U := sw_in 587 (by decide +kernel) (by decide +kernel)
theorem mx_X9_bid : Cond.selects RX9 yX9_bid yX9_bid ∈ sw_U := sw_in 588 (by decide +kernel) (by decide +kernel)
theorem mm_X9_bid : sw_mv μX9_bid := ⟨⟨mc_X9_bid, by decide +kernel, by decide +kernel, ui_X9, by decide +kernel⟩, mi_X9_bid, mx_X9_bid⟩
def μX9_seat : sw_Mt := (yX9_seat, cX9_seat, 5, (some .boolean), 3, 0, 0)
theorem mc_X9_seat : Cond.code yX9_seat cX9_seat 5 (some .boolean) ∈ sw_U := sw_in 597 (by decide +kernel) (by decide +kernel)
theorem mi_X9_seat : Cond.instanceMethod yX9_seat ∈ sw_U := sw_in 595 (by decide +kernel) (by decide +kernel)
theorem mx_X9_seat : Cond.selects RX9 yX9_seat yX9_seat ∈ sw_U := sw_in 596 (by decide +kernel) (by decide +kernel)
theorem mm_X9_seat : sw_mv μX9_seat := ⟨⟨mc_X9_seat, by decide +kernel, by decide +kernel, ui_X9, by decide +kernel⟩, mi_X9_seat, mx_X9_seat⟩
def μX9_bids : sw_Mt := (yX9_bids, cX9_bids, 5, (some .int), 8, 0, 0)
theorem mc_X9_bids : Cond.code yX9_bids cX9_bids 5 (some .int) ∈ sw_U := sw_in 601 (by decide +kernel) (by decide +kernel)
theorem mi_X9_bids : Cond.instanceMethod yX9_bids ∈ sw_U := sw_in 599 (by decide +kernel) (by decide +kernel)
theorem mx_X9_bids : Cond.selects RX9 yX9_bids yX9_bids ∈ sw_U := sw_in 600 (by decide +kernel) (by decide +kernel)
theorem mm_X9_bids : sw_mv μX9_bids := ⟨⟨mc_X9_bids, by decide +kernel, by decide +kernel, ui_X9, by decide +kernel⟩, mi_X9_bids, mx_X9_bids⟩
def μX9_cases : sw_Mt := (yX9_cases, cX9_cases, 4, (some .long), 10, 0, 0)
theorem mc_X9_cases : Cond.code yX9_cases cX9_cases 4 (some .long) ∈ sw_U := sw_in 621 (by decide +kernel) (by decide +kernel)
theorem mi_X9_cases : Cond.instanceMethod yX9_cases ∈ sw_U := sw_in 619 (by decide +kernel) (by decide +kernel)
theorem mx_X9_cases : Cond.selects RX9 yX9_cases yX9_cases ∈ sw_U := sw_in 620 (by decide +kernel) (by decide +kernel)
theorem mm_X9_cases : sw_mv μX9_cases := ⟨⟨mc_X9_cases, by decide +kernel, by decide +kernel, ui_X9, by decide +kernel⟩, mi_X9_cases, mx_X9_cases⟩
def μX9_gain : sw_Mt := (yX9_gain, cX9_gain, 4, (some .long), 10, 0, 0)
theorem mc_X9_gain : Cond.code yX9_gain cX9_gain 4 (some .long) ∈ sw_U := sw_in 688 (by decide +kernel) (by decide +kernel)
theorem mi_X9_gain : Cond.instanceMethod yX9_gain ∈ sw_U := sw_in 686 (by decide +kernel) (by decide +kernel)
theorem mx_X9_gain : Cond.selects RX9 yX9_gain yX9_gain ∈ sw_U := sw_in 687 (by decide +kernel) (by decide +kernel)
theorem mm_X9_gain : sw_mv μX9_gain := ⟨⟨mc_X9_gain, by decide +kernel, by decide +kernel, ui_X9, by decide +kernel⟩, mi_X9_gain, mx_X9_gain⟩
def μX9_won : sw_Mt := (yX9_won, cX9_won, 7, (some .long), 11, 0, 0)
theorem mc_X9_won : Cond.code yX9_won cX9_won 7 (some .long) ∈ sw_U := sw_in 693 (by decide +kernel) (by decide +kernel)
theorem mi_X9_won : Cond.instanceMethod yX9_won ∈ sw_U := sw_in 691 (by decide +kernel) (by decide +kernel)
theorem mx_X9_won : Cond.selects RX9 yX9_won yX9_won ∈ sw_U := sw_in 692 (by decide +kernel) (by decide +kernel)
theorem mm_X9_won : sw_mv μX9_won := ⟨⟨mc_X9_won, by decide +kernel, by decide +kernel, ui_X9, by decide +kernel⟩, mi_X9_won, mx_X9_won⟩
def μX9_less : sw_Mt := (yX9_less, cX9_less, 9, (some .long), 11, 0, 0)
theorem mc_X9_less : Cond.code yX9_less cX9_less 9 (some .long) ∈ sw_U := sw_in 701 (by decide +kernel) (by decide +kernel)
theorem mi_X9_less : Cond.instanceMethod yX9_less ∈ sw_U := sw_in 699 (by decide +kernel) (by decide +kernel)
theorem mx_X9_less : Cond.selects RX9 yX9_less yX9_less ∈ sw_U := sw_in 700 (by decide +kernel) (by decide +kernel)
theorem mm_X9_less : sw_mv μX9_less := ⟨⟨mc_X9_less, by decide +kernel, by decide +kernel, ui_X9, by decide +kernel⟩, mi_X9_less, mx_X9_less⟩
def μX9_best : sw_Mt := (yX9_best, cX9_best, 5, (some .int), 10, 0, 0)
theorem mc_X9_best : Cond.code yX9_best cX9_best 5 (some .int) ∈ sw_U := sw_in 705 (by decide +kernel) (by decide +kernel)
theorem mi_X9_best : Cond.instanceMethod yX9_best ∈ sw_U := sw_in 703 (by decide +kernel) (by decide +kernel)
theorem mx_X9_best : Cond.selects RX9 yX9_best yX9_best ∈ sw_U := sw_in 704 (by decide +kernel) (by decide +kernel)
theorem mm_X9_best : sw_mv μX9_best := ⟨⟨mc_X9_best, by decide +kernel, by decide +kernel, ui_X9, by decide +kernel⟩, mi_X9_best, mx_X9_best⟩
def μX9_judge : sw_Mt := (yX9_judge, cX9_judge, 5, (some .int), 10, 0, 0)
theorem mc_X9_judge : Cond.code yX9_judge cX9_judge 5 (some .int) ∈ sw_U := sw_in 736 (by decide +kernel) (by decide +kernel)
theorem mi_X9_judge : Cond.instanceMethod yX9_judge ∈ sw_U := sw_in 734 (by decide +kernel) (by decide +kernel)
theorem mx_X9_judge : Cond.selects RX9 yX9_judge yX9_judge ∈ sw_U := sw_in 735 (by decide +kernel) (by decide +kernel)
theorem mm_X9_judge : sw_mv μX9_judge := ⟨⟨mc_X9_judge, by decide +kernel, by decide +kernel, ui_X9, by decide +kernel⟩, mi_X9_judge, mx_X9_judge⟩
def μX9_find : sw_Mt := (yX9_find, cX9_find, 5, (some .int), 9, 0, 0)
theorem mc_X9_find : Cond.code yX9_find cX9_find 5 (some .int) ∈ sw_U := sw_in 749 (by decide +kernel) (by decide +kernel)
theorem mi_X9_find : Cond.instanceMethod yX9_find ∈ sw_U := sw_in 747 (by decide +kernel) (by decide +kernel)
theorem mx_X9_find : Cond.selects RX9 yX9_find yX9_find ∈ sw_U := sw_in 748 (by decide +kernel) (by decide +kernel)
theorem mm_X9_find : sw_mv μX9_find := ⟨⟨mc_X9_find, by decide +kernel, by decide +kernel, ui_X9, by decide +kernel⟩, mi_X9_find, mx_X9_find⟩
def μX9_by : sw_Mt := (yX9_by, cX9_by, 6, (some .long), 8, 0, 0)
theorem mc_X9_by : Cond.code yX9_by cX9_by 6 (some .long) ∈ sw_U := sw_in 777 (by decide +kernel) (by decide +kernel)
theorem mi_X9_by : Cond.instanceMethod yX9_by ∈ sw_U := sw_in 775 (by decide +kernel) (by decide +kernel)
theorem mx_X9_by : Cond.selects RX9 yX9_by yX9_by ∈ sw_U := sw_in 776 (by decide +kernel) (by decide +kernel)
theorem mm_X9_by : sw_mv μX9_by := ⟨⟨mc_X9_by, by decide +kernel, by decide +kernel, ui_X9, by decide +kernel⟩, mi_X9_by, mx_X9_by⟩
def μX9_bar : sw_Mt := (yX9_bar, cX9_bar, 4, (some .int), 8, 0, 0)
theorem mc_X9_bar : Cond.code yX9_bar cX9_bar 4 (some .int) ∈ sw_U := sw_in 785 (by decide +kernel) (by decide +kernel)
theorem mi_X9_bar : Cond.instanceMethod yX9_bar ∈ sw_U := sw_in 783 (by decide +kernel) (by decide +kernel)
theorem mx_X9_bar : Cond.selects RX9 yX9_bar yX9_bar ∈ sw_U := sw_in 784 (by decide +kernel) (by decide +kernel)
theorem mm_X9_bar : sw_mv μX9_bar := ⟨⟨mc_X9_bar, by decide +kernel, by decide +kernel, ui_X9, by decide +kernel⟩, mi_X9_bar, mx_X9_bar⟩
def μX9_telling : sw_Mt := (yX9_telling, cX9_telling, 5, (some .long), 9, 0, 0)
theorem mc_X9_telling : Cond.code yX9_telling cX9_telling 5 (some .long) ∈ sw_U := sw_in 802 (by decide +kernel) (by decide +kernel)
theorem mi_X9_telling : Cond.instanceMethod yX9_telling ∈ sw_U := sw_in 800 (by decide +kernel) (by decide +kernel)
theorem mx_X9_telling : Cond.selects RX9 yX9_telling yX9_telling ∈ sw_U := sw_in 801 (by decide +kernel) (by decide +kernel)
theorem mm_X9_telling : sw_mv μX9_telling := ⟨⟨mc_X9_telling, by decide +kernel, by decide +kernel, ui_X9, by decide +kernel⟩, mi_X9_telling, mx_X9_telling⟩
def μX9_near : sw_Mt := (yX9_near, cX9_near, 4, (some .int), 10, 0, 0)
theorem mc_X9_near : Cond.code yX9_near cX9_near 4 (some .int) ∈ sw_U := sw_in 806 (by decide +kernel) (by decide +kernel)
theorem mi_X9_near : Cond.instanceMethod yX9_near ∈ sw_U := sw_in 804 (by decide +kernel) (by decide +kernel)
theorem mx_X9_near : Cond.selects RX9 yX9_near yX9_near ∈ sw_U := sw_in 805 (by decide +kernel) (by decide +kernel)
theorem mm_X9_near : sw_mv μX9_near := ⟨⟨mc_X9_near, by decide +kernel, by decide +kernel, ui_X9, by decide +kernel⟩, mi_X9_near, mx_X9_near⟩
def μX9_nearGain : sw_Mt := (yX9_nearGain, cX9_nearGain, 6, (some .long), 10, 0, 0)
theorem mc_X9_nearGain : Cond.code yX9_nearGain cX9_nearGain 6 (some .long) ∈ sw_U := sw_in 818 (by decide +kernel) (by decide +kernel)
theorem mi_X9_nearGain : Cond.instanceMethod yX9_nearGain ∈ sw_U := sw_in 816 (by decide +kernel) (by decide +kernel)
theorem mx_X9_nearGain : Cond.selects RX9 yX9_nearGain yX9_nearGain ∈ sw_U := sw_in 817 (by decide +kernel) (by decide +kernel)
theorem mm_X9_nearGain : sw_mv μX9_nearGain := ⟨⟨mc_X9_nearGain, by decide +kernel, by decide +kernel, ui_X9, by decide +kernel⟩, mi_X9_nearGain, mx_X9_nearGain⟩
def μX9_asOne : sw_Mt := (yX9_asOne, cX9_asOne, 5, (some .long), 9, 0, 0)
theorem mc_X9_asOne : Cond.code yX9_asOne cX9_asOne 5 (some .long) ∈ sw_U := sw_in 823 (by decide +kernel) (by decide +kernel)
theorem mi_X9_asOne : Cond.instanceMethod yX9_asOne ∈ sw_U := sw_in 821 (by decide +kernel) (by decide +kernel)
theorem mx_X9_asOne : Cond.selects RX9 yX9_asOne yX9_asOne ∈ sw_U := sw_in 822 (by decide +kernel) (by decide +kernel)
theorem mm_X9_asOne : sw_mv μX9_asOne := ⟨⟨mc_X9_asOne, by decide +kernel, by decide +kernel, ui_X9, by decide +kernel⟩, mi_X9_asOne, mx_X9_asOne⟩
def μX9_lay : sw_Mt := (yX9_lay, cX9_lay, 3, (some .boolean), 2, 0, 0)
theorem mc_X9_lay : Cond.code yX9_lay cX9_lay 3 (some .boolean) ∈ sw_U := sw_in 827 (by decide +kernel) (by decide +kernel)
theorem mi_X9_lay : Cond.instanceMethod yX9_lay ∈ sw_U := sw_in 825 (by decide +kernel) (by decide +kernel)
theorem mx_X9_lay : Cond.selects RX9 yX9_lay yX9_lay ∈ sw_U := sw_in 826 (by decide +kernel) (by decide +kernel)
theorem mm_X9_lay : sw_mv μX9_lay := ⟨⟨mc_X9_lay, by decide +kernel, by decide +kernel, ui_X9, by decide +kernel⟩, mi_X9_lay, mx_X9_lay⟩
def μX9_open : sw_Mt := (yX9_open, cX9_open, 4, (some .int), 9, 0, 0)
theorem mc_X9_open : Cond.code yX9_open cX9_open 4 (some .int) ∈ sw_U := sw_in 831 (by decide +kernel) (by decide +kernel)
theorem mi_X9_open : Cond.instanceMethod yX9_open ∈ sw_U := sw_in 829 (by decide +kernel) (by decide +kernel)
theorem mx_X9_open : Cond.selects RX9 yX9_open yX9_open ∈ sw_U := sw_in 830 (by decide +kernel) (by decide +kernel)
theorem mm_X9_open : sw_mv μX9_open := ⟨⟨mc_X9_open, by decide +kernel, by decide +kernel, ui_X9, by decide +kernel⟩, mi_X9_open, mx_X9_open⟩
def μX9_leaves : sw_Mt := (yX9_leaves, cX9_leaves, 5, (some .int), 9, 0, 0)
theorem mc_X9_leaves : Cond.code yX9_leaves cX9_leaves 5 (some .int) ∈ sw_U := sw_in 855 (by decide +kernel) (by decide +kernel)
theorem mi_X9_leaves : Cond.instanceMethod yX9_leaves ∈ sw_U := sw_in 853 (by decide +kernel) (by decide +kernel)
theorem mx_X9_leaves : Cond.selects RX9 yX9_leaves yX9_leaves ∈ sw_U := sw_in 854 (by decide +kernel) (by decide +kernel)
theorem mm_X9_leaves : sw_mv μX9_leaves := ⟨⟨mc_X9_leaves, by decide +kernel, by decide +kernel, ui_X9, by decide +kernel⟩, mi_X9_leaves, mx_X9_leaves⟩
def μX9_learn : sw_Mt := (yX9_learn, cX9_learn, 8, (some .int), 8, 0, 0)
theorem mc_X9_learn : Cond.code yX9_learn cX9_learn 8 (some .int) ∈ sw_U := sw_in 859 (by decide +kernel) (by decide +kernel)
theorem mi_X9_learn : Cond.instanceMethod yX9_learn ∈ sw_U := sw_in 857 (by decide +kernel) (by decide +kernel)
theorem mx_X9_learn : Cond.selects RX9 yX9_learn yX9_learn ∈ sw_U := sw_in 858 (by decide +kernel) (by decide +kernel)
theorem mm_X9_learn : sw_mv μX9_learn := ⟨⟨mc_X9_learn, by decide +kernel, by decide +kernel, ui_X9, by decide +kernel⟩, mi_X9_learn, mx_X9_learn⟩
def μX9_learned : sw_Mt := (yX9_learned, cX9_learned, 3, (some .int), 2, 0, 0)
theorem mc_X9_learned : Cond.code yX9_learned cX9_learned 3 (some .int) ∈ sw_U := sw_in 1002 (by decide +kernel) (by decide +kernel)
theorem mi_X9_learned : Cond.instanceMethod yX9_learned ∈ sw_U := sw_in 1000 (by decide +kernel) (by decide +kernel)
theorem mx_X9_learned : Cond.selects RX9 yX9_learned yX9_learned ∈ sw_U := sw_in 1001 (by decide +kernel) (by decide +kernel)
theorem mm_X9_learned : sw_mv μX9_learned := ⟨⟨mc_X9_learned, by decide +kernel, by decide +kernel, ui_X9, by decide +kernel⟩, mi_X9_learned, mx_X9_learned⟩
def μX9_got : sw_Mt := (yX9_got, cX9_got, 1, (some .int), 2, 0, 0)
theorem mc_X9_got : Cond.code yX9_got cX9_got 1 (some .int) ∈ sw_U := sw_in 915 (by decide +kernel) (by decide +kernel)
theorem mi_X9_got : Cond.instanceMethod yX9_got ∈ sw_U := sw_in 913 (by decide +kernel) (by decide +kernel)
theorem mx_X9_got : Cond.selects RX9 yX9_got yX9_got ∈ sw_U := sw_in 914 (by decide +kernel) (by decide +kernel)
theorem mm_X9_got : sw_mv μX9_got := ⟨⟨mc_X9_got, by decide +kernel, by decide +kernel, ui_X9, by decide +kernel⟩, mi_X9_got, mx_X9_got⟩
def μX9_count : sw_Mt := (yX9_count, cX9_count, 2, (some .int), 2, 0, 0)
theorem mc_X9_count : Cond.code yX9_count cX9_count 2 (some .int) ∈ sw_U := sw_in 919 (by decide +kernel) (by decide +kernel)
theorem mi_X9_count : Cond.instanceMethod yX9_count ∈ sw_U := sw_in 917 (by decide +kernel) (by decide +kernel)
theorem mx_X9_count : Cond.selects RX9 yX9_count yX9_count ∈ sw_U := sw_in 918 (by decide +kernel) (by decide +kernel)
theorem mm_X9_count : sw_mv μX9_count := ⟨⟨mc_X9_count, by decide +kernel, by decide +kernel, ui_X9, by decide +kernel⟩, mi_X9_count, mx_X9_count⟩
def μX9_saleAt : sw_Mt := (yX9_saleAt, cX9_saleAt, 2, (some (.object "SorryToWin$Sale")), 2, 0, 0)
theorem mc_X9_saleAt : Cond.code yX9_saleAt cX9_saleAt 2 (some (.object "SorryToWin$Sale")) ∈ sw_U := sw_in 547 (by decide +kernel) (by decide +kernel)
theorem mi_X9_saleAt : Cond.instanceMethod yX9_saleAt ∈ sw_U := sw_in 546 (by decide +kernel) (by decide +kernel)
theorem mx_X9_saleAt : Cond.selects RX9 yX9_saleAt yX9_saleAt ∈ sw_U := sw_in 6 (by decide +kernel) (by decide +kernel)
theorem mm_X9_saleAt : sw_mv μX9_saleAt := ⟨⟨mc_X9_saleAt, by decide +kernel, by decide +kernel, ui_X9, by decide +kernel⟩, mi_X9_saleAt, mx_X9_saleAt⟩
def μX9_hasTable : sw_Mt := (yX9_hasTable, cX9_hasTable, 2, (some .boolean), 2, 0, 0)
theorem mc_X9_hasTable : Cond.code yX9_hasTable cX9_hasTable 2 (some .boolean) ∈ sw_U := sw_in 593 (by decide +kernel) (by decide +kernel)
theorem mi_X9_hasTable : Cond.instanceMethod yX9_hasTable ∈ sw_U := sw_in 592 (by decide +kernel) (by decide +kernel)
theorem mx_X9_hasTable : Cond.selects RX9 yX9_hasTable yX9_hasTable ∈ sw_U := sw_in 7 (by decide +kernel) (by decide +kernel)
theorem mm_X9_hasTable : sw_mv μX9_hasTable := ⟨⟨mc_X9_hasTable, by decide +kernel, by decide +kernel, ui_X9, by decide +kernel⟩, mi_X9_hasTable, mx_X9_hasTable⟩
def μX9_isHalf : sw_Mt := (yX9_isHalf, cX9_isHalf, 1, (some .boolean), 2, 0, 0)
theorem mc_X9_isHalf : Cond.code yX9_isHalf cX9_isHalf 1 (some .boolean) ∈ sw_U := sw_in 566 (by decide +kernel) (by decide +kernel)
theorem mt_X9_isHalf : Cond.static yX9_isHalf ∈ sw_U := sw_in 565 (by decide +kernel) (by decide +kernel)
theorem mm_X9_isHalf : sw_ms μX9_isHalf := ⟨⟨mc_X9_isHalf, by decide +kernel, by decide +kernel, ui_X9, by decide +kernel⟩, mt_X9_isHalf⟩
def μX9_hasSignOrNone : sw_Mt := (yX9_hasSignOrNone, cX9_hasSignOrNone, 2, (some .boolean), 3, 0, 0)
theorem mc_X9_hasSignOrNone : Cond.code yX9_hasSignOrNone cX9_hasSignOrNone 2 (some .boolean) ∈ sw_U := sw_in 569 (by decide +kernel) (by decide +kernel)
theorem mt_X9_hasSignOrNone : Cond.static yX9_hasSignOrNone ∈ sw_U := sw_in 568 (by decide +kernel) (by decide +kernel)
theorem mm_X9_hasSignOrNone : sw_ms μX9_hasSignOrNone := ⟨⟨mc_X9_hasSignOrNone, by decide +kernel, by decide +kernel, ui_X9, by decide +kernel⟩, mt_X9_hasSignOrNone⟩
def μX9_half : sw_Mt := (yX9_half, cX9_half, 12, (some .long), 2, 0, 0)
theorem mc_X9_half : Cond.code yX9_half cX9_half 12 (some .long) ∈ sw_U := sw_in 581 (by decide +kernel) (by decide +kernel)
theorem mt_X9_half : Cond.static yX9_half ∈ sw_U := sw_in 580 (by decide +kernel) (by decide +kernel)
theorem mm_X9_half : sw_ms μX9_half := ⟨⟨mc_X9_half, by decide +kernel, by decide +kernel, ui_X9, by decide +kernel⟩, mt_X9_half⟩
def μX9_bidOf : sw_Mt := (yX9_bidOf, cX9_bidOf, 6, (some .int), 7, 0, 0)
theorem mc_X9_bidOf : Cond.code yX9_bidOf cX9_bidOf 6 (some .int) ∈ sw_U := sw_in 609 (by decide +kernel) (by decide +kernel)
theorem mi_X9_bidOf : Cond.instanceMethod yX9_bidOf ∈ sw_U := sw_in 608 (by decide +kernel) (by decide +kernel)
theorem mx_X9_bidOf : Cond.selects RX9 yX9_bidOf yX9_bidOf ∈ sw_U := sw_in 8 (by decide +kernel) (by decide +kernel)
theorem mm_X9_bidOf : sw_mv μX9_bidOf := ⟨⟨mc_X9_bidOf, by decide +kernel, by decide +kernel, ui_X9, by decide +kernel⟩, mi_X9_bidOf, mx_X9_bidOf⟩
def μX9_plainBid : sw_Mt := (yX9_plainBid, cX9_plainBid, 4, (some .int), 6, 0, 0)
theorem mc_X9_plainBid : Cond.code yX9_plainBid cX9_plainBid 4 (some .int) ∈ sw_U := sw_in 612 (by decide +kernel) (by decide +kernel)
theorem mt_X9_plainBid : Cond.static yX9_plainBid ∈ sw_U := sw_in 611 (by decide +kernel) (by decide +kernel)
theorem mm_X9_plainBid : sw_ms μX9_plainBid := ⟨⟨mc_X9_plainBid, by decide +kernel, by decide +kernel, ui_X9, by decide +kernel⟩, mt_X9_plainBid⟩
def μX9_rowOf : sw_Mt := (yX9_rowOf, cX9_rowOf, 6, none, 8, 0, 0)
theorem mc_X9_rowOf : Cond.code yX9_rowOf cX9_rowOf 6 none ∈ sw_U := sw_in 630 (by decide +kernel) (by decide +kernel)
theorem mi_X9_rowOf : Cond.instanceMethod yX9_rowOf ∈ sw_U := sw_in 629 (by decide +kernel) (by decide +kernel)
theorem mx_X9_rowOf : Cond.selects RX9 yX9_rowOf yX9_rowOf ∈ sw_U := sw_in 10 (by decide +kernel) (by decide +kernel)
theorem mm_X9_rowOf : sw_mv μX9_rowOf := ⟨⟨mc_X9_rowOf, by decide +kernel, by decide +kernel, ui_X9, by decide +kernel⟩, mi_X9_rowOf, mx_X9_rowOf⟩
def μX9_rowsWithout : sw_Mt := (yX9_rowsWithout, cX9_rowsWithout, 5, none, 9, 0, 0)
theorem mc_X9_rowsWithout : Cond.code yX9_rowsWithout cX9_rowsWithout 5 none ∈ sw_U := sw_in 709 (by decide +kernel) (by decide +kernel)
theorem mi_X9_rowsWithout : Cond.instanceMethod yX9_rowsWithout ∈ sw_U := sw_in 708 (by decide +kernel) (by decide +kernel)
theorem mx_X9_rowsWithout : Cond.selects RX9 yX9_rowsWithout yX9_rowsWithout ∈ sw_U := sw_in 15 (by decide +kernel) (by decide +kernel)
theorem mm_X9_rowsWithout : sw_mv μX9_rowsWithout := ⟨⟨mc_X9_rowsWithout, by decide +kernel, by decide +kernel, ui_X9, by decide +kernel⟩, mi_X9_rowsWithout, mx_X9_rowsWithout⟩
def μX9_rowsAlike : sw_Mt := (yX9_rowsAlike, cX9_rowsAlike, 6, none, 7, 0, 0)
theorem mc_X9_rowsAlike : Cond.code yX9_rowsAlike cX9_rowsAlike 6 none ∈ sw_U := sw_in 781 (by decide +kernel) (by decide +kernel)
theorem mi_X9_rowsAlike : Cond.instanceMethod yX9_rowsAlike ∈ sw_U := sw_in 780 (by decide +kernel) (by decide +kernel)
theorem mx_X9_rowsAlike : Cond.selects RX9 yX9_rowsAlike yX9_rowsAlike ∈ sw_U := sw_in 22 (by decide +kernel) (by decide +kernel)
theorem mm_X9_rowsAlike : sw_mv μX9_rowsAlike := ⟨⟨mc_X9_rowsAlike, by decide +kernel, by decide +kernel, ui_X9, by decide +kernel⟩, mi_X9_rowsAlike, mx_X9_rowsAlike⟩
def μX9_tallyOf : sw_Mt := (yX9_tallyOf, cX9_tallyOf, 3, none, 9, 0, 0)
theorem mc_X9_tallyOf : Cond.code yX9_tallyOf cX9_tallyOf 3 none ∈ sw_U := sw_in 626 (by decide +kernel) (by decide +kernel)
theorem mi_X9_tallyOf : Cond.instanceMethod yX9_tallyOf ∈ sw_U := sw_in 625 (by decide +kernel) (by decide +kernel)
theorem mx_X9_tallyOf : Cond.selects RX9 yX9_tallyOf yX9_tallyOf ∈ sw_U := sw_in 9 (by decide +kernel) (by decide +kernel)
theorem mm_X9_tallyOf : sw_mv μX9_tallyOf := ⟨⟨mc_X9_tallyOf, by decide +kernel, by decide +kernel, ui_X9, by decide +kernel⟩, mi_X9_tallyOf, mx_X9_tallyOf⟩
def μX9_wins : sw_Mt := (yX9_wins, cX9_wins, 4, (some .boolean), 10, 0, 0)
theorem mc_X9_wins : Cond.code yX9_wins cX9_wins 4 (some .boolean) ∈ sw_U := sw_in 697 (by decide +kernel) (by decide +kernel)
theorem mi_X9_wins : Cond.instanceMethod yX9_wins ∈ sw_U := sw_in 696 (by decide +kernel) (by decide +kernel)
theorem mx_X9_wins : Cond.selects RX9 yX9_wins yX9_wins ∈ sw_U := sw_in 14 (by decide +kernel) (by decide +kernel)
theorem mm_X9_wins : sw_mv μX9_wins := ⟨⟨mc_X9_wins, by decide +kernel, by decide +kernel, ui_X9, by decide +kernel⟩, mi_X9_wins, mx_X9_wins⟩
def μX9_rivalsBySign : sw_Mt := (yX9_rivalsBySign, cX9_rivalsBySign, 3, none, 7, 0, 0)
theorem mc_X9_rivalsBySign : Cond.code yX9_rivalsBySign cX9_rivalsBySign 3 none ∈ sw_U := sw_in 713 (by decide +kernel) (by decide +kernel)
theorem mi_X9_rivalsBySign : Cond.instanceMethod yX9_rivalsBySign ∈ sw_U := sw_in 712 (by decide +kernel) (by decide +kernel)
theorem mx_X9_rivalsBySign : Cond.selects RX9 yX9_rivalsBySign yX9_rivalsBySign ∈ sw_U := sw_in 16 (by decide +kernel) (by decide +kernel)
theorem mm_X9_rivalsBySign : sw_mv μX9_rivalsBySign := ⟨⟨mc_X9_rivalsBySign, by decide +kernel, by decide +kernel, ui_X9, by decide +kernel⟩, mi_X9_rivalsBySign, mx_X9_rivalsBySign⟩
def μX9_rivalsByTruth : sw_Mt := (yX9_rivalsByTruth, cX9_rivalsByTruth, 3, none, 7, 0, 0)
theorem mc_X9_rivalsByTruth : Cond.code yX9_rivalsByTruth cX9_rivalsByTruth 3 none ∈ sw_U := sw_in 810 (by decide +kernel) (by decide +kernel)
theorem mi_X9_rivalsByTruth : Cond.instanceMethod yX9_rivalsByTruth ∈ sw_U := sw_in 809 (by decide +kernel) (by decide +kernel)
theorem mx_X9_rivalsByTruth : Cond.selects RX9 yX9_rivalsByTruth yX9_rivalsByTruth ∈ sw_U := sw_in 23 (by decide +kernel) (by decide +kernel)
theorem mm_X9_rivalsByTruth : sw_mv μX9_rivalsByTruth := ⟨⟨mc_X9_rivalsByTruth, by decide +kernel, by decide +kernel, ui_X9, by decide +kernel⟩, mi_X9_rivalsByTruth, mx_X9_rivalsByTruth⟩
def μX9_turnOf : sw_Mt := (yX9_turnOf, cX9_turnOf, 4, none, 8, 0, 0)
theorem mc_X9_turnOf : Cond.code yX9_turnOf cX9_turnOf 4 none ∈ sw_U := sw_in 765 (by decide +kernel) (by decide +kernel)
theorem mi_X9_turnOf : Cond.instanceMethod yX9_turnOf ∈ sw_U := sw_in 764 (by decide +kernel) (by decide +kernel)
theorem mx_X9_turnOf : Cond.selects RX9 yX9_turnOf yX9_turnOf ∈ sw_U := sw_in 20 (by decide +kernel) (by decide +kernel)
theorem mm_X9_turnOf : sw_mv μX9_turnOf := ⟨⟨mc_X9_turnOf, by decide +kernel, by decide +kernel, ui_X9, by decide +kernel⟩, mi_X9_turnOf, mx_X9_turnOf⟩
def μX9_laidFor : sw_Mt := (yX9_laidFor, cX9_laidFor, 3, (some .boolean), 3, 0, 0)
theorem mc_X9_laidFor : Cond.code yX9_laidFor cX9_laidFor 3 (some .boolean) ∈ sw_U := sw_in 835 (by decide +kernel) (by decide +kernel)
theorem mi_X9_laidFor : Cond.instanceMethod yX9_laidFor ∈ sw_U := sw_in 834 (by decide +kernel) (by decide +kernel)
theorem mx_X9_laidFor : Cond.selects RX9 yX9_laidFor yX9_laidFor ∈ sw_U := sw_in 24 (by decide +kernel) (by decide +kernel)
theorem mm_X9_laidFor : sw_mv μX9_laidFor := ⟨⟨mc_X9_laidFor, by decide +kernel, by decide +kernel, ui_X9, by decide +kernel⟩, mi_X9_laidFor, mx_X9_laidFor⟩
def μX10_in : sw_Mt := (yX10_in, cX10_in, 3, (some .boolean), 2, 0, 0)
theorem mc_X10_in : Cond.code yX10_in cX10_in 3 (some .boolean) ∈ sw_U := sw_in 1217 (by decide +kernel) (by decide +kernel)
theorem mt_X10_in : Cond.static yX10_in ∈ sw_U := sw_in 1216 (by decide +kernel) (by decide +kernel)
theorem mm_X10_in : sw_ms μX10_in := ⟨⟨mc_X10_in, by decide +kernel, by decide +kernel, ui_X10, by decide +kernel⟩, mt_X10_in⟩
def μX10_thrown : sw_Mt := (yX10_thrown, cX10_thrown, 1, (some .int), 2, 0, 0)
theorem mc_X10_thrown : Cond.code yX10_thrown cX10_thrown 1 (some .int) ∈ sw_U := sw_in 1176 (by decide +kernel) (by decide +kernel)
theorem mi_X10_thrown : Cond.instanceMethod yX10_thrown ∈ sw_U := sw_in 1174 (by decide +kernel) (by decide +kernel)
theorem mx_X10_thrown : Cond.selects RX10 yX10_thrown yX10_thrown ∈ sw_U := sw_in 1175 (by decide +kernel) (by decide +kernel)
theorem mm_X10_thrown : sw_mv μX10_thrown := ⟨⟨mc_X10_thrown, by decide +kernel, by decide +kernel, ui_X10, by decide +kernel⟩, mi_X10_thrown, mx_X10_thrown⟩
def μX10_byteOf : sw_Mt := (yX10_byteOf, cX10_byteOf, 7, (some .int), 2, 0, 0)
theorem mc_X10_byteOf : Cond.code yX10_byteOf cX10_byteOf 7 (some .int) ∈ sw_U := sw_in 1183 (by decide +kernel) (by decide +kernel)
theorem mt_X10_byteOf : Cond.static yX10_byteOf ∈ sw_U := sw_in 1182 (by decide +kernel) (by decide +kernel)
theorem mm_X10_byteOf : sw_ms μX10_byteOf := ⟨⟨mc_X10_byteOf, by decide +kernel, by decide +kernel, ui_X10, by decide +kernel⟩, mt_X10_byteOf⟩
def μX10_feed : sw_Mt := (yX10_feed, cX10_feed, 9, (some .int), 3, 0, 0)
theorem mc_X10_feed : Cond.code yX10_feed cX10_feed 9 (some .int) ∈ sw_U := sw_in 1180 (by decide +kernel) (by decide +kernel)
theorem mi_X10_feed : Cond.instanceMethod yX10_feed ∈ sw_U := sw_in 1178 (by decide +kernel) (by decide +kernel)
theorem mx_X10_feed : Cond.selects RX10 yX10_feed yX10_feed ∈ sw_U := sw_in 1179 (by decide +kernel) (by decide +kernel)
theorem mm_X10_feed : sw_mv μX10_feed := ⟨⟨mc_X10_feed, by decide +kernel, by decide +kernel, ui_X10, by decide +kernel⟩, mi_X10_feed, mx_X10_feed⟩
def μX10_end : sw_Mt := (yX10_end, cX10_end, 2, (some .boolean), 2, 0, 0)
theorem mc_X10_end : Cond.code yX10_end cX10_end 2 (some .boolean) ∈ sw_U := sw_in 1187 (by decide +kernel) (by decide +kernel)
theorem mi_X10_end : Cond.instanceMethod yX10_end ∈ sw_U := sw_in 1185 (by decide +kernel) (by decide +kernel)
theorem mx_X10_end : Cond.selects RX10 yX10_end yX10_end ∈ sw_U := sw_in 1186 (by decide +kernel) (by decide +kernel)
theorem mm_X10_end : sw_mv μX10_end := ⟨⟨mc_X10_end, by decide +kernel, by decide +kernel, ui_X10, by decide +kernel⟩, mi_X10_end, mx_X10_end⟩
def μX10_here : sw_Mt := (yX10_here, cX10_here, 1, (some .int), 2, 0, 0)
theorem mc_X10_here : Cond.code yX10_here cX10_here 1 (some .int) ∈ sw_U := sw_in 1203 (by decide +kernel) (by decide +kernel)
theorem mi_X10_here : Cond.instanceMethod yX10_here ∈ sw_U := sw_in 1202 (by decide +kernel) (by decide +kernel)
theorem mx_X10_here : Cond.selects RX10 yX10_here yX10_here ∈ sw_U := sw_in 39 (by decide +kernel) (by decide +kernel)
theorem mm_X10_here : sw_mv μX10_here := ⟨⟨mc_X10_here, by decide +kernel, by decide +kernel, ui_X10, by decide +kernel⟩, mi_X10_here, mx_X10_here⟩
def μX10_look : sw_Mt := (yX10_look, cX10_look, 1, (some .int), 3, 0, 0)
theorem mc_X10_look : Cond.code yX10_look cX10_look 1 (some .int) ∈ sw_U := sw_in 1199 (by decide +kernel) (by decide +kernel)
theorem mi_X10_look : Cond.instanceMethod yX10_look ∈ sw_U := sw_in 1198 (by decide +kernel) (by decide +kernel)
theorem mx_X10_look : Cond.selects RX10 yX10_look yX10_look ∈ sw_U := sw_in 38 (by decide +kernel) (by decide +kernel)
theorem mm_X10_look : sw_mv μX10_look := ⟨⟨mc_X10_look, by decide +kernel, by decide +kernel, ui_X10, by decide +kernel⟩, mi_X10_look, mx_X10_look⟩
def μX10_bad : sw_Mt := (yX10_bad, cX10_bad, 1, none, 2, 0, 0)
theorem mc_X10_bad : Cond.code yX10_bad cX10_bad 1 none ∈ sw_U := sw_in 1207 (by decide +kernel) (by decide +kernel)
theorem mi_X10_bad : Cond.instanceMethod yX10_bad ∈ sw_U := sw_in 1206 (by decide +kernel) (by decide +kernel)
theorem mx_X10_bad : Cond.selects RX10 yX10_bad yX10_bad ∈ sw_U := sw_in 40 (by decide +kernel) (by decide +kernel)
theorem mm_X10_bad : sw_mv μX10_bad := ⟨⟨mc_X10_bad, by decide +kernel, by decide +kernel, ui_X10, by decide +kernel⟩, mi_X10_bad, mx_X10_bad⟩
def μX10_isDigit : sw_Mt := (yX10_isDigit, cX10_isDigit, 1, (some .boolean), 2, 0, 0)
theorem mc_X10_isDigit : Cond.code yX10_isDigit cX10_isDigit 1 (some .boolean) ∈ sw_U := sw_in 1214 (by decide +kernel) (by decide +kernel)
theorem mt_X10_isDigit : Cond.static yX10_isDigit ∈ sw_U := sw_in 1213 (by decide +kernel) (by decide +kernel)
theorem mm_X10_isDigit : sw_ms μX10_isDigit := ⟨⟨mc_X10_isDigit, by decide +kernel, by decide +kernel, ui_X10, by decide +kernel⟩, mt_X10_isDigit⟩
def μX10_number : sw_Mt := (yX10_number, cX10_number, 4, (some .int), 4, 0, 0)
theorem mc_X10_number : Cond.code yX10_number cX10_number 4 (some .int) ∈ sw_U := sw_in 1211 (by decide +kernel) (by decide +kernel)
theorem mi_X10_number : Cond.instanceMethod yX10_number ∈ sw_U := sw_in 1210 (by decide +kernel) (by decide +kernel)
theorem mx_X10_number : Cond.selects RX10 yX10_number yX10_number ∈ sw_U := sw_in 41 (by decide +kernel) (by decide +kernel)
theorem mm_X10_number : sw_mv μX10_number := ⟨⟨mc_X10_number, by decide +kernel, by decide +kernel, ui_X10, by decide +kernel⟩, mi_X10_number, mx_X10_number⟩
def μX10_readSale : sw_Mt := (yX10_readSale, cX10_readSale, 2, (some .int), 7, 0, 0)
theorem mc_X10_readSale : Cond.code yX10_readSale cX10_readSale 2 (some .int) ∈ sw_U := sw_in 1195 (by decide +kernel) (by decide +kernel)
theorem mi_X10_readSale : Cond.instanceMethod yX10_readSale ∈ sw_U := sw_in 1194 (by decide +kernel) (by decide +kernel)
theorem mx_X10_readSale : Cond.selects RX10 yX10_readSale yX10_readSale ∈ sw_U := sw_in 37 (by decide +kernel) (by decide +kernel)
theorem mm_X10_readSale : sw_mv μX10_readSale := ⟨⟨mc_X10_readSale, by decide +kernel, by decide +kernel, ui_X10, by decide +kernel⟩, mi_X10_readSale, mx_X10_readSale⟩
def μX10_statement : sw_Mt := (yX10_statement, cX10_statement, 3, none, 6, 0, 0)
theorem mc_X10_statement : Cond.code yX10_statement cX10_statement 3 none ∈ sw_U := sw_in 1221 (by decide +kernel) (by decide +kernel)
theorem mi_X10_statement : Cond.instanceMethod yX10_statement ∈ sw_U := sw_in 1220 (by decide +kernel) (by decide +kernel)
theorem mx_X10_statement : Cond.selects RX10 yX10_statement yX10_statement ∈ sw_U := sw_in 42 (by decide +kernel) (by decide +kernel)
theorem mm_X10_statement : sw_mv μX10_statement := ⟨⟨mc_X10_statement, by decide +kernel, by decide +kernel, ui_X10, by decide +kernel⟩, mi_X10_statement, mx_X10_statement⟩
def μX10_readTruth : sw_Mt := (yX10_readTruth, cX10_readTruth, 6, none, 5, 0, 0)
theorem mc_X10_readTruth : Cond.code yX10_readTruth cX10_readTruth 6 none ∈ sw_U := sw_in 1225 (by decide +kernel) (by decide +kernel)
theorem mi_X10_readTruth : Cond.instanceMethod yX10_readTruth ∈ sw_U := sw_in 1224 (by decide +kernel) (by decide +kernel)
theorem mx_X10_readTruth : Cond.selects RX10 yX10_readTruth yX10_readTruth ∈ sw_U := sw_in 43 (by decide +kernel) (by decide +kernel)
theorem mm_X10_readTruth : sw_mv μX10_readTruth := ⟨⟨mc_X10_readTruth, by decide +kernel, by decide +kernel, ui_X10, by decide +kernel⟩, mi_X10_readTruth, mx_X10_readTruth⟩
def μX10_fault : sw_Mt := (yX10_fault, cX10_fault, 1, (some .int), 8, 0, 0)
theorem mc_X10_fault : Cond.code yX10_fault cX10_fault 1 (some .int) ∈ sw_U := sw_in 1191 (by decide +kernel) (by decide +kernel)
theorem mi_X10_fault : Cond.instanceMethod yX10_fault ∈ sw_U := sw_in 1189 (by decide +kernel) (by decide +kernel)
theorem mx_X10_fault : Cond.selects RX10 yX10_fault yX10_fault ∈ sw_U := sw_in 1190 (by decide +kernel) (by decide +kernel)
theorem mm_X10_fault : sw_mv μX10_fault := ⟨⟨mc_X10_fault, by decide +kernel, by decide +kernel, ui_X10, by decide +kernel⟩, mi_X10_fault, mx_X10_fault⟩
def μX10_sale : sw_Mt := (yX10_sale, cX10_sale, 1, (some .int), 8, 0, 0)
theorem mc_X10_sale : Cond.code yX10_sale cX10_sale 1 (some .int) ∈ sw_U := sw_in 1229 (by decide +kernel) (by decide +kernel)
theorem mi_X10_sale : Cond.instanceMethod yX10_sale ∈ sw_U := sw_in 1227 (by decide +kernel) (by decide +kernel)
theorem mx_X10_sale : Cond.selects RX10 yX10_sale yX10_sale ∈ sw_U := sw_in 1228 (by decide +kernel) (by decide +kernel)
theorem mm_X10_sale : sw_mv μX10_sale := ⟨⟨mc_X10_sale, by decide +kernel, by decide +kernel, ui_X10, by decide +kernel⟩, mi_X10_sale, mx_X10_sale⟩
def μX10_isSale : sw_Mt := (yX10_isSale, cX10_isSale, 2, (some .boolean), 3, 0, 0)
theorem mc_X10_isSale : Cond.code yX10_isSale cX10_isSale 2 (some .boolean) ∈ sw_U := sw_in 1237 (by decide +kernel) (by decide +kernel)
theorem mi_X10_isSale : Cond.instanceMethod yX10_isSale ∈ sw_U := sw_in 1236 (by decide +kernel) (by decide +kernel)
theorem mx_X10_isSale : Cond.selects RX10 yX10_isSale yX10_isSale ∈ sw_U := sw_in 44 (by decide +kernel) (by decide +kernel)
theorem mm_X10_isSale : sw_mv μX10_isSale := ⟨⟨mc_X10_isSale, by decide +kernel, by decide +kernel, ui_X10, by decide +kernel⟩, mi_X10_isSale, mx_X10_isSale⟩
def μX10_allWeights : sw_Mt := (yX10_allWeights, cX10_allWeights, 4, (some .int), 2, 0, 0)
theorem mc_X10_allWeights : Cond.code yX10_allWeights cX10_allWeights 4 (some .int) ∈ sw_U := sw_in 1241 (by decide +kernel) (by decide +kernel)
theorem mi_X10_allWeights : Cond.instanceMethod yX10_allWeights ∈ sw_U := sw_in 1240 (by decide +kernel) (by decide +kernel)
theorem mx_X10_allWeights : Cond.selects RX10 yX10_allWeights yX10_allWeights ∈ sw_U := sw_in 45 (by decide +kernel) (by decide +kernel)
theorem mm_X10_allWeights : sw_mv μX10_allWeights := ⟨⟨mc_X10_allWeights, by decide +kernel, by decide +kernel, ui_X10, by decide +kernel⟩, mi_X10_allWeights, mx_X10_allWeights⟩
def μX10_told : sw_Mt := (yX10_told, cX10_told, 3, (some .int), 4, 0, 0)
theorem mc_X10_told : Cond.code yX10_told cX10_told 3 (some .int) ∈ sw_U := sw_in 1233 (by decide +kernel) (by decide +kernel)
theorem mi_X10_told : Cond.instanceMethod yX10_told ∈ sw_U := sw_in 1231 (by decide +kernel) (by decide +kernel)
theorem mx_X10_told : Cond.selects RX10 yX10_told yX10_told ∈ sw_U := sw_in 1232 (by decide +kernel) (by decide +kernel)
theorem mm_X10_told : sw_mv μX10_told := ⟨⟨mc_X10_told, by decide +kernel, by decide +kernel, ui_X10, by decide +kernel⟩, mi_X10_told, mx_X10_told⟩
def μX10_truth : sw_Mt := (yX10_truth, cX10_truth, 5, (some .int), 4, 0, 0)
theorem mc_X10_truth : Cond.code yX10_truth cX10_truth 5 (some .int) ∈ sw_U := sw_in 1245 (by decide +kernel) (by decide +kernel)
theorem mi_X10_truth : Cond.instanceMethod yX10_truth ∈ sw_U := sw_in 1243 (by decide +kernel) (by decide +kernel)
theorem mx_X10_truth : Cond.selects RX10 yX10_truth yX10_truth ∈ sw_U := sw_in 1244 (by decide +kernel) (by decide +kernel)
theorem mm_X10_truth : sw_mv μX10_truth := ⟨⟨mc_X10_truth, by decide +kernel, by decide +kernel, ui_X10, by decide +kernel⟩, mi_X10_truth, mx_X10_truth⟩
def μX10_change : sw_Mt := (yX10_change, cX10_change, 4, (some .boolean), 4, 0, 0)
theorem mc_X10_change : Cond.code yX10_change cX10_change 4 (some .boolean) ∈ sw_U := sw_in 1249 (by decide +kernel) (by decide +kernel)
theorem mi_X10_change : Cond.instanceMethod yX10_change ∈ sw_U := sw_in 1247 (by decide +kernel) (by decide +kernel)
theorem mx_X10_change : Cond.selects RX10 yX10_change yX10_change ∈ sw_U := sw_in 1248 (by decide +kernel) (by decide +kernel)
theorem mm_X10_change : sw_mv μX10_change := ⟨⟨mc_X10_change, by decide +kernel, by decide +kernel, ui_X10, by decide +kernel⟩, mi_X10_change, mx_X10_change⟩
def μX10_see : sw_Mt := (yX10_see, cX10_see, 6, none, 2, 0, 0)
theorem mc_X10_see : Cond.code yX10_see cX10_see 6 none ∈ sw_U := sw_in 1265 (by decide +kernel) (by decide +kernel)
theorem mi_X10_see : Cond.instanceMethod yX10_see ∈ sw_U := sw_in 1264 (by decide +kernel) (by decide +kernel)
theorem mx_X10_see : Cond.selects RX10 yX10_see yX10_see ∈ sw_U := sw_in 48 (by decide +kernel) (by decide +kernel)
theorem mm_X10_see : sw_mv μX10_see := ⟨⟨mc_X10_see, by decide +kernel, by decide +kernel, ui_X10, by decide +kernel⟩, mi_X10_see, mx_X10_see⟩
def μX10_weigh : sw_Mt := (yX10_weigh, cX10_weigh, 7, none, 2, 0, 0)
theorem mc_X10_weigh : Cond.code yX10_weigh cX10_weigh 7 none ∈ sw_U := sw_in 1269 (by decide +kernel) (by decide +kernel)
theorem mi_X10_weigh : Cond.instanceMethod yX10_weigh ∈ sw_U := sw_in 1268 (by decide +kernel) (by decide +kernel)
theorem mx_X10_weigh : Cond.selects RX10 yX10_weigh yX10_weigh ∈ sw_U := sw_in 49 (by decide +kernel) (by decide +kernel)
theorem mm_X10_weigh : sw_mv μX10_weigh := ⟨⟨mc_X10_weigh, by decide +kernel, by decide +kernel, ui_X10, by decide +kernel⟩, mi_X10_weigh, mx_X10_weigh⟩
def μX10_heldNow : sw_Mt := (yX10_heldNow, cX10_heldNow, 2, (some .int), 3, 0, 0)
theorem mc_X10_heldNow : Cond.code yX10_heldNow cX10_heldNow 2 (some .int) ∈ sw_U := sw_in 1318 (by decide +kernel) (by decide +kernel)
theorem mi_X10_heldNow : Cond.instanceMethod yX10_heldNow ∈ sw_U := sw_in 1317 (by decide +kernel) (by decide +kernel)
theorem mx_X10_heldNow : Cond.selects RX10 yX10_heldNow yX10_heldNow ∈ sw_U := sw_in 55 (by decide +kernel) (by decide +kernel)
theorem mm_X10_heldNow : sw_mv μX10_heldNow := ⟨⟨mc_X10_heldNow, by decide +kernel, by decide +kernel, ui_X10, by decide +kernel⟩, mi_X10_heldNow, mx_X10_heldNow⟩
def μX10_held : sw_Mt := (yX10_held, cX10_held, 5, (some .int), 4, 0, 0)
theorem mc_X10_held : Cond.code yX10_held cX10_held 5 (some .int) ∈ sw_U := sw_in 1314 (by decide +kernel) (by decide +kernel)
theorem mi_X10_held : Cond.instanceMethod yX10_held ∈ sw_U := sw_in 1313 (by decide +kernel) (by decide +kernel)
theorem mx_X10_held : Cond.selects RX10 yX10_held yX10_held ∈ sw_U := sw_in 54 (by decide +kernel) (by decide +kernel)
theorem mm_X10_held : sw_mv μX10_held := ⟨⟨mc_X10_held, by decide +kernel, by decide +kernel, ui_X10, by decide +kernel⟩, mi_X10_held, mx_X10_held⟩
def μX10_divisor : sw_Mt := (yX10_divisor, cX10_divisor, 4, (some .long), 110, 0, 0)
theorem mc_X10_divisor : Cond.code yX10_divisor cX10_divisor 4 (some .long) ∈ sw_U := sw_in 1278 (by decide +kernel) (by decide +kernel)
theorem mt_X10_divisor : Cond.static yX10_divisor ∈ sw_U := sw_in 1277 (by decide +kernel) (by decide +kernel)
theorem mm_X10_divisor : sw_ms μX10_divisor := ⟨⟨mc_X10_divisor, by decide +kernel, by decide +kernel, ui_X10, by decide +kernel⟩, mt_X10_divisor⟩
def μX10_part : sw_Mt := (yX10_part, cX10_part, 7, (some .long), 111, 0, 0)
theorem mc_X10_part : Cond.code yX10_part cX10_part 7 (some .long) ∈ sw_U := sw_in 1272 (by decide +kernel) (by decide +kernel)
theorem mt_X10_part : Cond.static yX10_part ∈ sw_U := sw_in 1271 (by decide +kernel) (by decide +kernel)
theorem mm_X10_part : sw_ms μX10_part := ⟨⟨mc_X10_part, by decide +kernel, by decide +kernel, ui_X10, by decide +kernel⟩, mt_X10_part⟩
def μX10_isSign : sw_Mt := (yX10_isSign, cX10_isSign, 3, (some .boolean), 3, 0, 0)
theorem mc_X10_isSign : Cond.code yX10_isSign cX10_isSign 3 (some .boolean) ∈ sw_U := sw_in 1257 (by decide +kernel) (by decide +kernel)
theorem mi_X10_isSign : Cond.instanceMethod yX10_isSign ∈ sw_U := sw_in 1256 (by decide +kernel) (by decide +kernel)
theorem mx_X10_isSign : Cond.selects RX10 yX10_isSign yX10_isSign ∈ sw_U := sw_in 46 (by decide +kernel) (by decide +kernel)
theorem mm_X10_isSign : sw_mv μX10_isSign := ⟨⟨mc_X10_isSign, by decide +kernel, by decide +kernel, ui_X10, by decide +kernel⟩, mi_X10_isSign, mx_X10_isSign⟩
def μX10_isSignOrNone : sw_Mt := (yX10_isSignOrNone, cX10_isSignOrNone, 3, (some .boolean), 4, 0, 0)
theorem mc_X10_isSignOrNone : Cond.code yX10_isSignOrNone cX10_isSignOrNone 3 (some .boolean) ∈ sw_U := sw_in 1261 (by decide +kernel) (by decide +kernel)
theorem mi_X10_isSignOrNone : Cond.instanceMethod yX10_isSignOrNone ∈ sw_U := sw_in 1260 (by decide +kernel) (by decide +kernel)
theorem mx_X10_isSignOrNone : Cond.selects RX10 yX10_isSignOrNone yX10_isSignOrNone ∈ sw_U := sw_in 47 (by decide +kernel) (by decide +kernel)
theorem mm_X10_isSignOrNone : sw_mv μX10_isSignOrNone := ⟨⟨mc_X10_isSignOrNone, by decide +kernel, by decide +kernel, ui_X10, by decide +kernel⟩, mi_X10_isSignOrNone, mx_X10_isSignOrNone⟩
def μX10_worth : sw_Mt := (yX10_worth, cX10_worth, 7, (some .int), 112, 0, 0)
theorem mc_X10_worth : Cond.code yX10_worth cX10_worth 7 (some .int) ∈ sw_U := sw_in 1253 (by decide +kernel) (by decide +kernel)
theorem mi_X10_worth : Cond.instanceMethod yX10_worth ∈ sw_U := sw_in 1251 (by decide +kernel) (by decide +kernel)
theorem mx_X10_worth : Cond.selects RX10 yX10_worth yX10_worth ∈ sw_U := sw_in 1252 (by decide +kernel) (by decide +kernel)
theorem mm_X10_worth : sw_mv μX10_worth := ⟨⟨mc_X10_worth, by decide +kernel, by decide +kernel, ui_X10, by decide +kernel⟩, mi_X10_worth, mx_X10_worth⟩
def μX10_table : sw_Mt := (yX10_table, cX10_table, 1, (some .int), 2, 0, 0)
theorem mc_X10_table : Cond.code yX10_table cX10_table 1 (some .int) ∈ sw_U := sw_in 1282 (by decide +kernel) (by decide +kernel)
theorem mi_X10_table : Cond.instanceMethod yX10_table ∈ sw_U := sw_in 1280 (by decide +kernel) (by decide +kernel)
theorem mx_X10_table : Cond.selects RX10 yX10_table yX10_table ∈ sw_U := sw_in 1281 (by decide +kernel) (by decide +kernel)
theorem mm_X10_table : sw_mv μX10_table := ⟨⟨mc_X10_table, by decide +kernel, by decide +kernel, ui_X10, by decide +kernel⟩, mi_X10_table, mx_X10_table⟩
def μX10_bid : sw_Mt := (yX10_bid, cX10_bid, 4, (some .boolean), 3, 0, 0)
theorem mc_X10_bid : Cond.code yX10_bid cX10_bid 4 (some .boolean) ∈ sw_U := sw_in 1286 (by decide +kernel) (by decide +kernel)
theorem mi_X10_bid : Cond.instanceMethod yX10_bid ∈ sw_U := sw_in 1284 (by decide +kernel) (by decide +kernel)
theorem mx_X10_bid : Cond.selects RX10 yX10_bid yX10_bid ∈ sw_U := sw_in 1285 (by decide +kernel) (by decide +kernel)
theorem mm_X10_bid : sw_mv μX10_bid := ⟨⟨mc_X10_bid, by decide +kernel, by decide +kernel, ui_X10, by decide +kernel⟩, mi_X10_bid, mx_X10_bid⟩
def μX10_seat : sw_Mt := (yX10_seat, cX10_seat, 4, (some .boolean), 4, 0, 0)
theorem mc_X10_seat : Cond.code yX10_seat cX10_seat 4 (some .boolean) ∈ sw_U := sw_in 1290 (by decide +kernel) (by decide +kernel)
theorem mi_X10_seat : Cond.instanceMethod yX10_seat ∈ sw_U := sw_in 1288 (by decide +kernel) (by decide +kernel)
theorem mx_X10_seat : Cond.selects RX10 yX10_seat yX10_seat ∈ sw_U := sw_in 1289 (by decide +kernel) (by decide +kernel)
theorem mm_X10_seat : sw_mv μX10_seat := ⟨⟨mc_X10_seat, by decide +kernel, by decide +kernel, ui_X10, by decide +kernel⟩, mi_X10_seat, mx_X10_seat⟩
def μX10_bidBy : sw_Mt := (yX10_bidBy, cX10_bidBy, 5, (some .int), 5, 0, 0)
theorem mc_X10_bidBy : Cond.code yX10_bidBy cX10_bidBy 5 (some .int) ∈ sw_U := sw_in 1310 (by decide +kernel) (by decide +kernel)
theorem mi_X10_bidBy : Cond.instanceMethod yX10_bidBy ∈ sw_U := sw_in 1309 (by decide +kernel) (by decide +kernel)
theorem mx_X10_bidBy : Cond.selects RX10 yX10_bidBy yX10_bidBy ∈ sw_U := sw_in 53 (by decide +kernel) (by decide +kernel)
theorem mm_X10_bidBy : sw_mv μX10_bidBy := ⟨⟨mc_X10_bidBy, by decide +kernel, by decide +kernel, ui_X10, by decide +kernel⟩, mi_X10_bidBy, mx_X10_bidBy⟩
def μX10_begin : sw_Mt := (yX10_begin, cX10_begin, 2, none, 7, 0, 0)
theorem mc_X10_begin : Cond.code yX10_begin cX10_begin 2 none ∈ sw_U := sw_in 1302 (by decide +kernel) (by decide +kernel)
theorem mi_X10_begin : Cond.instanceMethod yX10_begin ∈ sw_U := sw_in 1301 (by decide +kernel) (by decide +kernel)
theorem mx_X10_begin : Cond.selects RX10 yX10_begin yX10_begin ∈ sw_U := sw_in 51 (by decide +kernel) (by decide +kernel)
theorem mm_X10_begin : sw_mv μX10_begin := ⟨⟨mc_X10_begin, by decide +kernel, by decide +kernel, ui_X10, by decide +kernel⟩, mi_X10_begin, mx_X10_begin⟩
def μX10_fill : sw_Mt := (yX10_fill, cX10_fill, 5, none, 6, 0, 0)
theorem mc_X10_fill : Cond.code yX10_fill cX10_fill 5 none ∈ sw_U := sw_in 1306 (by decide +kernel) (by decide +kernel)
theorem mi_X10_fill : Cond.instanceMethod yX10_fill ∈ sw_U := sw_in 1305 (by decide +kernel) (by decide +kernel)
theorem mx_X10_fill : Cond.selects RX10 yX10_fill yX10_fill ∈ sw_U := sw_in 52 (by decide +kernel) (by decide +kernel)
theorem mm_X10_fill : sw_mv μX10_fill := ⟨⟨mc_X10_fill, by decide +kernel, by decide +kernel, ui_X10, by decide +kernel⟩, mi_X10_fill, mx_X10_fill⟩
def μX10_fillAll : sw_Mt := (yX10_fillAll, cX10_fillAll, 5, none, 6, 0, 0)
theorem mc_X10_fillAll : Cond.code yX10_fillAll cX10_fillAll 5 none ∈ sw_U := sw_in 1398 (by decide +kernel) (by decide +kernel)
theorem mi_X10_fillAll : Cond.instanceMethod yX10_fillAll ∈ sw_U := sw_in 1397 (by decide +kernel) (by decide +kernel)
theorem mx_X10_fillAll : Cond.selects RX10 yX10_fillAll yX10_fillAll ∈ sw_U := sw_in 67 (by decide +kernel) (by decide +kernel)
theorem mm_X10_fillAll : sw_mv μX10_fillAll := ⟨⟨mc_X10_fillAll, by decide +kernel, by decide +kernel, ui_X10, by decide +kernel⟩, mi_X10_fillAll, mx_X10_fillAll⟩
def μX10_isSeat : sw_Mt := (yX10_isSeat, cX10_isSeat, 3, (some .boolean), 4, 0, 0)
theorem mc_X10_isSeat : Cond.code yX10_isSeat cX10_isSeat 3 (some .boolean) ∈ sw_U := sw_in 1298 (by decide +kernel) (by decide +kernel)
theorem mi_X10_isSeat : Cond.instanceMethod yX10_isSeat ∈ sw_U := sw_in 1297 (by decide +kernel) (by decide +kernel)
theorem mx_X10_isSeat : Cond.selects RX10 yX10_isSeat yX10_isSeat ∈ sw_U := sw_in 50 (by decide +kernel) (by decide +kernel)
theorem mm_X10_isSeat : sw_mv μX10_isSeat := ⟨⟨mc_X10_isSeat, by decide +kernel, by decide +kernel, ui_X10, by decide +kernel⟩, mi_X10_isSeat, mx_X10_isSeat⟩
def μX10_bids : sw_Mt := (yX10_bids, cX10_bids, 4, (some .int), 8, 0, 0)
theorem mc_X10_bids : Cond.code yX10_bids cX10_bids 4 (some .int) ∈ sw_U := sw_in 1294 (by decide +kernel) (by decide +kernel)
theorem mi_X10_bids : Cond.instanceMethod yX10_bids ∈ sw_U := sw_in 1292 (by decide +kernel) (by decide +kernel)
theorem mx_X10_bids : Cond.selects RX10 yX10_bids yX10_bids ∈ sw_U := sw_in 1293 (by decide +kernel) (by decide +kernel)
theorem mm_X10_bids : sw_mv μX10_bids := ⟨⟨mc_X10_bids, by decide +kernel, by decide +kernel, ui_X10, by decide +kernel⟩, mi_X10_bids, mx_X10_bids⟩
def μX10_settle : sw_Mt := (yX10_settle, cX10_settle, 2, none, 3, 0, 0)
theorem mc_X10_settle : Cond.code yX10_settle cX10_settle 2 none ∈ sw_U := sw_in 1339 (by decide +kernel) (by decide +kernel)
theorem mi_X10_settle : Cond.instanceMethod yX10_settle ∈ sw_U := sw_in 1338 (by decide +kernel) (by decide +kernel)
theorem mx_X10_settle : Cond.selects RX10 yX10_settle yX10_settle ∈ sw_U := sw_in 59 (by decide +kernel) (by decide +kernel)
theorem mm_X10_settle : sw_mv μX10_settle := ⟨⟨mc_X10_settle, by decide +kernel, by decide +kernel, ui_X10, by decide +kernel⟩, mi_X10_settle, mx_X10_settle⟩
def μX10_pays : sw_Mt := (yX10_pays, cX10_pays, 3, (some .int), 3, 0, 0)
theorem mc_X10_pays : Cond.code yX10_pays cX10_pays 3 (some .int) ∈ sw_U := sw_in 1353 (by decide +kernel) (by decide +kernel)
theorem mi_X10_pays : Cond.instanceMethod yX10_pays ∈ sw_U := sw_in 1352 (by decide +kernel) (by decide +kernel)
theorem mx_X10_pays : Cond.selects RX10 yX10_pays yX10_pays ∈ sw_U := sw_in 62 (by decide +kernel) (by decide +kernel)
theorem mm_X10_pays : sw_mv μX10_pays := ⟨⟨mc_X10_pays, by decide +kernel, by decide +kernel, ui_X10, by decide +kernel⟩, mi_X10_pays, mx_X10_pays⟩
def μX10_gains : sw_Mt := (yX10_gains, cX10_gains, 5, (some .long), 4, 0, 0)
theorem mc_X10_gains : Cond.code yX10_gains cX10_gains 5 (some .long) ∈ sw_U := sw_in 1357 (by decide +kernel) (by decide +kernel)
theorem mi_X10_gains : Cond.instanceMethod yX10_gains ∈ sw_U := sw_in 1356 (by decide +kernel) (by decide +kernel)
theorem mx_X10_gains : Cond.selects RX10 yX10_gains yX10_gains ∈ sw_U := sw_in 63 (by decide +kernel) (by decide +kernel)
theorem mm_X10_gains : sw_mv μX10_gains := ⟨⟨mc_X10_gains, by decide +kernel, by decide +kernel, ui_X10, by decide +kernel⟩, mi_X10_gains, mx_X10_gains⟩
def μX10_taken : sw_Mt := (yX10_taken, cX10_taken, 4, (some .long), 4, 0, 0)
theorem mc_X10_taken : Cond.code yX10_taken cX10_taken 4 (some .long) ∈ sw_U := sw_in 1349 (by decide +kernel) (by decide +kernel)
theorem mi_X10_taken : Cond.instanceMethod yX10_taken ∈ sw_U := sw_in 1348 (by decide +kernel) (by decide +kernel)
theorem mx_X10_taken : Cond.selects RX10 yX10_taken yX10_taken ∈ sw_U := sw_in 61 (by decide +kernel) (by decide +kernel)
theorem mm_X10_taken : sw_mv μX10_taken := ⟨⟨mc_X10_taken, by decide +kernel, by decide +kernel, ui_X10, by decide +kernel⟩, mi_X10_taken, mx_X10_taken⟩
def μX10_ask : sw_Mt := (yX10_ask, cX10_ask, 4, none, 2, 0, 0)
theorem mc_X10_ask : Cond.code yX10_ask cX10_ask 4 none ∈ sw_U := sw_in 1327 (by decide +kernel) (by decide +kernel)
theorem mi_X10_ask : Cond.instanceMethod yX10_ask ∈ sw_U := sw_in 1326 (by decide +kernel) (by decide +kernel)
theorem mx_X10_ask : Cond.selects RX10 yX10_ask yX10_ask ∈ sw_U := sw_in 56 (by decide +kernel) (by decide +kernel)
theorem mm_X10_ask : sw_mv μX10_ask := ⟨⟨mc_X10_ask, by decide +kernel, by decide +kernel, ui_X10, by decide +kernel⟩, mi_X10_ask, mx_X10_ask⟩
def μX10_goThrough : sw_Mt := (yX10_goThrough, cX10_goThrough, 7, none, 6, 0, 0)
theorem mc_X10_goThrough : Cond.code yX10_goThrough cX10_goThrough 7 none ∈ sw_U := sw_in 1331 (by decide +kernel) (by decide +kernel)
theorem mi_X10_goThrough : Cond.instanceMethod yX10_goThrough ∈ sw_U := sw_in 1330 (by decide +kernel) (by decide +kernel)
theorem mx_X10_goThrough : Cond.selects RX10 yX10_goThrough yX10_goThrough ∈ sw_U := sw_in 57 (by decide +kernel) (by decide +kernel)
theorem mm_X10_goThrough : sw_mv μX10_goThrough := ⟨⟨mc_X10_goThrough, by decide +kernel, by decide +kernel, ui_X10, by decide +kernel⟩, mi_X10_goThrough, mx_X10_goThrough⟩
def μX10_lay : sw_Mt := (yX10_lay, cX10_lay, 3, none, 5, 0, 0)
theorem mc_X10_lay : Cond.code yX10_lay cX10_lay 3 none ∈ sw_U := sw_in 1335 (by decide +kernel) (by decide +kernel)
theorem mi_X10_lay : Cond.instanceMethod yX10_lay ∈ sw_U := sw_in 1334 (by decide +kernel) (by decide +kernel)
theorem mx_X10_lay : Cond.selects RX10 yX10_lay yX10_lay ∈ sw_U := sw_in 58 (by decide +kernel) (by decide +kernel)
theorem mm_X10_lay : sw_mv μX10_lay := ⟨⟨mc_X10_lay, by decide +kernel, by decide +kernel, ui_X10, by decide +kernel⟩, mi_X10_lay, mx_X10_lay⟩
def μX10_count : sw_Mt := (yX10_count, cX10_count, 9, none, 5, 0, 0)
theorem mc_X10_count : Cond.code yX10_count cX10_count 9 none ∈ sw_U := sw_in 1344 (by decide +kernel) (by decide +kernel)
theorem mi_X10_count : Cond.instanceMethod yX10_count ∈ sw_U := sw_in 1343 (by decide +kernel) (by decide +kernel)
theorem mx_X10_count : Cond.selects RX10 yX10_count yX10_count ∈ sw_U := sw_in 60 (by decide +kernel) (by decide +kernel)
theorem mm_X10_count : sw_mv μX10_count := ⟨⟨mc_X10_count, by decide +kernel, by decide +kernel, ui_X10, by decide +kernel⟩, mi_X10_count, mx_X10_count⟩
def μX10_cases : sw_Mt := (yX10_cases, cX10_cases, 3, (some .long), 8, 0, 0)
theorem mc_X10_cases : Cond.code yX10_cases cX10_cases 3 (some .long) ∈ sw_U := sw_in 1322 (by decide +kernel) (by decide +kernel)
theorem mi_X10_cases : Cond.instanceMethod yX10_cases ∈ sw_U := sw_in 1320 (by decide +kernel) (by decide +kernel)
theorem mx_X10_cases : Cond.selects RX10 yX10_cases yX10_cases ∈ sw_U := sw_in 1321 (by decide +kernel) (by decide +kernel)
theorem mm_X10_cases : sw_mv μX10_cases := ⟨⟨mc_X10_cases, by decide +kernel, by decide +kernel, ui_X10, by decide +kernel⟩, mi_X10_cases, mx_X10_cases⟩
def μX10_gain : sw_Mt := (yX10_gain, cX10_gain, 3, (some .long), 8, 0, 0)
theorem mc_X10_gain : Cond.code yX10_gain cX10_gain 3 (some .long) ∈ sw_U := sw_in 1361 (by decide +kernel) (by decide +kernel)
theorem mi_X10_gain : Cond.instanceMethod yX10_gain ∈ sw_U := sw_in 1359 (by decide +kernel) (by decide +kernel)
theorem mx_X10_gain : Cond.selects RX10 yX10_gain yX10_gain ∈ sw_U := sw_in 1360 (by decide +kernel) (by decide +kernel)
theorem mm_X10_gain : sw_mv μX10_gain := ⟨⟨mc_X10_gain, by decide +kernel, by decide +kernel, ui_X10, by decide +kernel⟩, mi_X10_gain, mx_X10_gain⟩
def μX10_findWon : sw_Mt := (yX10_findWon, cX10_findWon, 4, (some .boolean), 8, 0, 0)
theorem mc_X10_findWon : Cond.code yX10_findWon cX10_findWon 4 (some .boolean) ∈ sw_U := sw_in 1370 (by decide +kernel) (by decide +kernel)
theorem mi_X10_findWon : Cond.instanceMethod yX10_findWon ∈ sw_U := sw_in 1369 (by decide +kernel) (by decide +kernel)
theorem mx_X10_findWon : Cond.selects RX10 yX10_findWon yX10_findWon ∈ sw_U := sw_in 64 (by decide +kernel) (by decide +kernel)
theorem mm_X10_findWon : sw_mv μX10_findWon := ⟨⟨mc_X10_findWon, by decide +kernel, by decide +kernel, ui_X10, by decide +kernel⟩, mi_X10_findWon, mx_X10_findWon⟩
def μX10_won : sw_Mt := (yX10_won, cX10_won, 5, (some .long), 112, 0, 0)
theorem mc_X10_won : Cond.code yX10_won cX10_won 5 (some .long) ∈ sw_U := sw_in 1366 (by decide +kernel) (by decide +kernel)
theorem mi_X10_won : Cond.instanceMethod yX10_won ∈ sw_U := sw_in 1364 (by decide +kernel) (by decide +kernel)
theorem mx_X10_won : Cond.selects RX10 yX10_won yX10_won ∈ sw_U := sw_in 1365 (by decide +kernel) (by decide +kernel)
theorem mm_X10_won : sw_mv μX10_won := ⟨⟨mc_X10_won, by decide +kernel, by decide +kernel, ui_X10, by decide +kernel⟩, mi_X10_won, mx_X10_won⟩
def μX10_less : sw_Mt := (yX10_less, cX10_less, 9, (some .long), 112, 0, 0)
theorem mc_X10_less : Cond.code yX10_less cX10_less 9 (some .long) ∈ sw_U := sw_in 1374 (by decide +kernel) (by decide +kernel)
theorem mi_X10_less : Cond.instanceMethod yX10_less ∈ sw_U := sw_in 1372 (by decide +kernel) (by decide +kernel)
theorem mx_X10_less : Cond.selects RX10 yX10_less yX10_less ∈ sw_U := sw_in 1373 (by decide +kernel) (by decide +kernel)
theorem mm_X10_less : sw_mv μX10_less := ⟨⟨mc_X10_less, by decide +kernel, by decide +kernel, ui_X10, by decide +kernel⟩, mi_X10_less, mx_X10_less⟩
def μX10_gainBy : sw_Mt := (yX10_gainBy, cX10_gainBy, 5, (some .long), 7, 0, 0)
theorem mc_X10_gainBy : Cond.code yX10_gainBy cX10_gainBy 5 (some .long) ∈ sw_U := sw_in 1386 (by decide +kernel) (by decide +kernel)
theorem mi_X10_gainBy : Cond.instanceMethod yX10_gainBy ∈ sw_U := sw_in 1385 (by decide +kernel) (by decide +kernel)
theorem mx_X10_gainBy : Cond.selects RX10 yX10_gainBy yX10_gainBy ∈ sw_U := sw_in 66 (by decide +kernel) (by decide +kernel)
theorem mm_X10_gainBy : sw_mv μX10_gainBy := ⟨⟨mc_X10_gainBy, by decide +kernel, by decide +kernel, ui_X10, by decide +kernel⟩, mi_X10_gainBy, mx_X10_gainBy⟩
def μX10_bestOf : sw_Mt := (yX10_bestOf, cX10_bestOf, 10, (some .int), 8, 0, 0)
theorem mc_X10_bestOf : Cond.code yX10_bestOf cX10_bestOf 10 (some .int) ∈ sw_U := sw_in 1382 (by decide +kernel) (by decide +kernel)
theorem mi_X10_bestOf : Cond.instanceMethod yX10_bestOf ∈ sw_U := sw_in 1381 (by decide +kernel) (by decide +kernel)
theorem mx_X10_bestOf : Cond.selects RX10 yX10_bestOf yX10_bestOf ∈ sw_U := sw_in 65 (by decide +kernel) (by decide +kernel)
theorem mm_X10_bestOf : sw_mv μX10_bestOf := ⟨⟨mc_X10_bestOf, by decide +kernel, by decide +kernel, ui_X10, by decide +kernel⟩, mi_X10_bestOf, mx_X10_bestOf⟩
def μX10_best : sw_Mt := (yX10_best, cX10_best, 4, (some .int), 9, 0, 0)
theorem mc_X10_best : Cond.code yX10_best cX10_best 4 (some .int) ∈ sw_U := sw_in 1378 (by decide +kernel) (by decide +kernel)
theorem mi_X10_best : Cond.instanceMethod yX10_best ∈ sw_U := sw_in 1376 (by decide +kernel) (by decide +kernel)
theorem mx_X10_best : Cond.selects RX10 yX10_best yX10_best ∈ sw_U := sw_in 1377 (by decide +kernel) (by decide +kernel)
theorem mm_X10_best : sw_mv μX10_best := ⟨⟨mc_X10_best, by decide +kernel, by decide +kernel, ui_X10, by decide +kernel⟩, mi_X10_best, mx_X10_best⟩
def μX10_judge : sw_Mt := (yX10_judge, cX10_judge, 6, (some .int), 9, 0, 0)
theorem mc_X10_judge : Cond.code yX10_judge cX10_judge 6 (some .int) ∈ sw_U := sw_in 1390 (by decide +kernel) (by decide +kernel)
theorem mi_X10_judge : Cond.instanceMethod yX10_judge ∈ sw_U := sw_in 1388 (by decide +kernel) (by decide +kernel)
theorem mx_X10_judge : Cond.selects RX10 yX10_judge yX10_judge ∈ sw_U := sw_in 1389 (by decide +kernel) (by decide +kernel)
theorem mm_X10_judge : sw_mv μX10_judge := ⟨⟨mc_X10_judge, by decide +kernel, by decide +kernel, ui_X10, by decide +kernel⟩, mi_X10_judge, mx_X10_judge⟩
def μX10_keep : sw_Mt := (yX10_keep, cX10_keep, 4, none, 2, 0, 0)
theorem mc_X10_keep : Cond.code yX10_keep cX10_keep 4 none ∈ sw_U := sw_in 1402 (by decide +kernel) (by decide +kernel)
theorem mi_X10_keep : Cond.instanceMethod yX10_keep ∈ sw_U := sw_in 1401 (by decide +kernel) (by decide +kernel)
theorem mx_X10_keep : Cond.selects RX10 yX10_keep yX10_keep ∈ sw_U := sw_in 68 (by decide +kernel) (by decide +kernel)
theorem mm_X10_keep : sw_mv μX10_keep := ⟨⟨mc_X10_keep, by decide +kernel, by decide +kernel, ui_X10, by decide +kernel⟩, mi_X10_keep, mx_X10_keep⟩
def μX10_isKept : sw_Mt := (yX10_isKept, cX10_isKept, 4, (some .boolean), 2, 0, 0)
theorem mc_X10_isKept : Cond.code yX10_isKept cX10_isKept 4 (some .boolean) ∈ sw_U := sw_in 1410 (by decide +kernel) (by decide +kernel)
theorem mi_X10_isKept : Cond.instanceMethod yX10_isKept ∈ sw_U := sw_in 1409 (by decide +kernel) (by decide +kernel)
theorem mx_X10_isKept : Cond.selects RX10 yX10_isKept yX10_isKept ∈ sw_U := sw_in 70 (by decide +kernel) (by decide +kernel)
theorem mm_X10_isKept : sw_mv μX10_isKept := ⟨⟨mc_X10_isKept, by decide +kernel, by decide +kernel, ui_X10, by decide +kernel⟩, mi_X10_isKept, mx_X10_isKept⟩
def μX10_turns : sw_Mt := (yX10_turns, cX10_turns, 5, (some .int), 9, 0, 0)
theorem mc_X10_turns : Cond.code yX10_turns cX10_turns 5 (some .int) ∈ sw_U := sw_in 1406 (by decide +kernel) (by decide +kernel)
theorem mi_X10_turns : Cond.instanceMethod yX10_turns ∈ sw_U := sw_in 1405 (by decide +kernel) (by decide +kernel)
theorem mx_X10_turns : Cond.selects RX10 yX10_turns yX10_turns ∈ sw_U := sw_in 69 (by decide +kernel) (by decide +kernel)
theorem mm_X10_turns : sw_mv μX10_turns := ⟨⟨mc_X10_turns, by decide +kernel, by decide +kernel, ui_X10, by decide +kernel⟩, mi_X10_turns, mx_X10_turns⟩
def μX10_find : sw_Mt := (yX10_find, cX10_find, 5, (some .int), 10, 0, 0)
theorem mc_X10_find : Cond.code yX10_find cX10_find 5 (some .int) ∈ sw_U := sw_in 1394 (by decide +kernel) (by decide +kernel)
theorem mi_X10_find : Cond.instanceMethod yX10_find ∈ sw_U := sw_in 1392 (by decide +kernel) (by decide +kernel)
theorem mx_X10_find : Cond.selects RX10 yX10_find yX10_find ∈ sw_U := sw_in 1393 (by decide +kernel) (by decide +kernel)
theorem mm_X10_find : sw_mv μX10_find := ⟨⟨mc_X10_find, by decide +kernel, by decide +kernel, ui_X10, by decide +kernel⟩, mi_X10_find, mx_X10_find⟩
def μX10_sell : sw_Mt := (yX10_sell, cX10_sell, 5, none, 8, 0, 0)
theorem mc_X10_sell : Cond.code yX10_sell cX10_sell 5 none ∈ sw_U := sw_in 1418 (by decide +kernel) (by decide +kernel)
theorem mi_X10_sell : Cond.instanceMethod yX10_sell ∈ sw_U := sw_in 1417 (by decide +kernel) (by decide +kernel)
theorem mx_X10_sell : Cond.selects RX10 yX10_sell yX10_sell ∈ sw_U := sw_in 71 (by decide +kernel) (by decide +kernel)
theorem mm_X10_sell : sw_mv μX10_sell := ⟨⟨mc_X10_sell, by decide +kernel, by decide +kernel, ui_X10, by decide +kernel⟩, mi_X10_sell, mx_X10_sell⟩
def μX10_by : sw_Mt := (yX10_by, cX10_by, 5, (some .long), 112, 0, 0)
theorem mc_X10_by : Cond.code yX10_by cX10_by 5 (some .long) ∈ sw_U := sw_in 1414 (by decide +kernel) (by decide +kernel)
theorem mi_X10_by : Cond.instanceMethod yX10_by ∈ sw_U := sw_in 1412 (by decide +kernel) (by decide +kernel)
theorem mx_X10_by : Cond.selects RX10 yX10_by yX10_by ∈ sw_U := sw_in 1413 (by decide +kernel) (by decide +kernel)
theorem mm_X10_by : sw_mv μX10_by := ⟨⟨mc_X10_by, by decide +kernel, by decide +kernel, ui_X10, by decide +kernel⟩, mi_X10_by, mx_X10_by⟩
def μX10_bar : sw_Mt := (yX10_bar, cX10_bar, 7, (some .int), 9, 0, 0)
theorem mc_X10_bar : Cond.code yX10_bar cX10_bar 7 (some .int) ∈ sw_U := sw_in 1422 (by decide +kernel) (by decide +kernel)
theorem mi_X10_bar : Cond.instanceMethod yX10_bar ∈ sw_U := sw_in 1420 (by decide +kernel) (by decide +kernel)
theorem mx_X10_bar : Cond.selects RX10 yX10_bar yX10_bar ∈ sw_U := sw_in 1421 (by decide +kernel) (by decide +kernel)
theorem mm_X10_bar : sw_mv μX10_bar := ⟨⟨mc_X10_bar, by decide +kernel, by decide +kernel, ui_X10, by decide +kernel⟩, mi_X10_bar, mx_X10_bar⟩
def μX10_telling : sw_Mt := (yX10_telling, cX10_telling, 5, (some .long), 8, 0, 0)
theorem mc_X10_telling : Cond.code yX10_telling cX10_telling 5 (some .long) ∈ sw_U := sw_in 1426 (by decide +kernel) (by decide +kernel)
theorem mi_X10_telling : Cond.instanceMethod yX10_telling ∈ sw_U := sw_in 1424 (by decide +kernel) (by decide +kernel)
theorem mx_X10_telling : Cond.selects RX10 yX10_telling yX10_telling ∈ sw_U := sw_in 1425 (by decide +kernel) (by decide +kernel)
theorem mm_X10_telling : sw_mv μX10_telling := ⟨⟨mc_X10_telling, by decide +kernel, by decide +kernel, ui_X10, by decide +kernel⟩, mi_X10_telling, mx_X10_telling⟩
def μX10_nearBy : sw_Mt := (yX10_nearBy, cX10_nearBy, 4, (some .long), 7, 0, 0)
theorem mc_X10_nearBy : Cond.code yX10_nearBy cX10_nearBy 4 (some .long) ∈ sw_U := sw_in 1438 (by decide +kernel) (by decide +kernel)
theorem mi_X10_nearBy : Cond.instanceMethod yX10_nearBy ∈ sw_U := sw_in 1437 (by decide +kernel) (by decide +kernel)
theorem mx_X10_nearBy : Cond.selects RX10 yX10_nearBy yX10_nearBy ∈ sw_U := sw_in 73 (by decide +kernel) (by decide +kernel)
theorem mm_X10_nearBy : sw_mv μX10_nearBy := ⟨⟨mc_X10_nearBy, by decide +kernel, by decide +kernel, ui_X10, by decide +kernel⟩, mi_X10_nearBy, mx_X10_nearBy⟩
def μX10_nearBest : sw_Mt := (yX10_nearBest, cX10_nearBest, 5, (some .int), 8, 0, 0)
theorem mc_X10_nearBest : Cond.code yX10_nearBest cX10_nearBest 5 (some .int) ∈ sw_U := sw_in 1434 (by decide +kernel) (by decide +kernel)
theorem mi_X10_nearBest : Cond.instanceMethod yX10_nearBest ∈ sw_U := sw_in 1433 (by decide +kernel) (by decide +kernel)
theorem mx_X10_nearBest : Cond.selects RX10 yX10_nearBest yX10_nearBest ∈ sw_U := sw_in 72 (by decide +kernel) (by decide +kernel)
theorem mm_X10_nearBest : sw_mv μX10_nearBest := ⟨⟨mc_X10_nearBest, by decide +kernel, by decide +kernel, ui_X10, by decide +kernel⟩, mi_X10_nearBest, mx_X10_nearBest⟩
def μX10_near : sw_Mt := (yX10_near, cX10_near, 3, (some .int), 9, 0, 0)
theorem mc_X10_near : Cond.code yX10_near cX10_near 3 (some .int) ∈ sw_U := sw_in 1430 (by decide +kernel) (by decide +kernel)
theorem mi_X10_near : Cond.instanceMethod yX10_near ∈ sw_U := sw_in 1428 (by decide +kernel) (by decide +kernel)
theorem mx_X10_near : Cond.selects RX10 yX10_near yX10_near ∈ sw_U := sw_in 1429 (by decide +kernel) (by decide +kernel)
theorem mm_X10_near : sw_mv μX10_near := ⟨⟨mc_X10_near, by decide +kernel, by decide +kernel, ui_X10, by decide +kernel⟩, mi_X10_near, mx_X10_near⟩
def μX10_nearGain : sw_Mt := (yX10_nearGain, cX10_nearGain, 5, (some .long), 9, 0, 0)
theorem mc_X10_nearGain : Cond.code yX10_nearGain cX10_nearGain 5 (some .long) ∈ sw_U := sw_in 1442 (by decide +kernel) (by decide +kernel)
theorem mi_X10_nearGain : Cond.instanceMethod yX10_nearGain ∈ sw_U := sw_in 1440 (by decide +kernel) (by decide +kernel)
theorem mx_X10_nearGain : Cond.selects RX10 yX10_nearGain yX10_nearGain ∈ sw_U := sw_in 1441 (by decide +kernel) (by decide +kernel)
theorem mm_X10_nearGain : sw_mv μX10_nearGain := ⟨⟨mc_X10_nearGain, by decide +kernel, by decide +kernel, ui_X10, by decide +kernel⟩, mi_X10_nearGain, mx_X10_nearGain⟩
def μX10_asOne : sw_Mt := (yX10_asOne, cX10_asOne, 2, (some .long), 8, 0, 0)
theorem mc_X10_asOne : Cond.code yX10_asOne cX10_asOne 2 (some .long) ∈ sw_U := sw_in 1446 (by decide +kernel) (by decide +kernel)
theorem mi_X10_asOne : Cond.instanceMethod yX10_asOne ∈ sw_U := sw_in 1444 (by decide +kernel) (by decide +kernel)
theorem mx_X10_asOne : Cond.selects RX10 yX10_asOne yX10_asOne ∈ sw_U := sw_in 1445 (by decide +kernel) (by decide +kernel)
theorem mm_X10_asOne : sw_mv μX10_asOne := ⟨⟨mc_X10_asOne, by decide +kernel, by decide +kernel, ui_X10, by decide +kernel⟩, mi_X10_asOne, mx_X10_asOne⟩
def μX10_lay_ : sw_Mt := (yX10_lay_, cX10_lay_, 3, (some .boolean), 3, 0, 0)
theorem mc_X10_lay_ : Cond.code yX10_lay_ cX10_lay_ 3 (some .boolean) ∈ sw_U := sw_in 1450 (by decide +kernel) (by decide +kernel)
theorem mi_X10_lay_ : Cond.instanceMethod yX10_lay_ ∈ sw_U := sw_in 1448 (by decide +kernel) (by decide +kernel)
theorem mx_X10_lay_ : Cond.selects RX10 yX10_lay_ yX10_lay_ ∈ sw_U := sw_in 1449 (by decide +kernel) (by decide +kernel)
theorem mm_X10_lay_ : sw_mv μX10_lay_ := ⟨⟨mc_X10_lay_, by decide +kernel, by decide +kernel, ui_X10, by decide +kernel⟩, mi_X10_lay_, mx_X10_lay_⟩
def μX10_rise : sw_Mt := (yX10_rise, cX10_rise, 7, (some .boolean), 5, 0, 0)
theorem mc_X10_rise : Cond.code yX10_rise cX10_rise 7 (some .boolean) ∈ sw_U := sw_in 1458 (by decide +kernel) (by decide +kernel)
theorem mi_X10_rise : Cond.instanceMethod yX10_rise ∈ sw_U := sw_in 1457 (by decide +kernel) (by decide +kernel)
theorem mx_X10_rise : Cond.selects RX10 yX10_rise yX10_rise ∈ sw_U := sw_in 74 (by decide +kernel) (by decide +kernel)
theorem mm_X10_rise : sw_mv μX10_rise := ⟨⟨mc_X10_rise, by decide +kernel, by decide +kernel, ui_X10, by decide +kernel⟩, mi_X10_rise, mx_X10_rise⟩
def μX10_heldOf : sw_Mt := (yX10_heldOf, cX10_heldOf, 5, (some .int), 4, 0, 0)
theorem mc_X10_heldOf : Cond.code yX10_heldOf cX10_heldOf 5 (some .int) ∈ sw_U := sw_in 1468 (by decide +kernel) (by decide +kernel)
theorem mi_X10_heldOf : Cond.instanceMethod yX10_heldOf ∈ sw_U := sw_in 1467 (by decide +kernel) (by decide +kernel)
theorem mx_X10_heldOf : Cond.selects RX10 yX10_heldOf yX10_heldOf ∈ sw_U := sw_in 75 (by decide +kernel) (by decide +kernel)
theorem mm_X10_heldOf : sw_mv μX10_heldOf := ⟨⟨mc_X10_heldOf, by decide +kernel, by decide +kernel, ui_X10, by decide +kernel⟩, mi_X10_heldOf, mx_X10_heldOf⟩
def μX10_open : sw_Mt := (yX10_open, cX10_open, 3, (some .int), 6, 0, 0)
theorem mc_X10_open : Cond.code yX10_open cX10_open 3 (some .int) ∈ sw_U := sw_in 1454 (by decide +kernel) (by decide +kernel)
theorem mi_X10_open : Cond.instanceMethod yX10_open ∈ sw_U := sw_in 1452 (by decide +kernel) (by decide +kernel)
theorem mx_X10_open : Cond.selects RX10 yX10_open yX10_open ∈ sw_U := sw_in 1453 (by decide +kernel) (by decide +kernel)
theorem mm_X10_open : sw_mv μX10_open := ⟨⟨mc_X10_open, by decide +kernel, by decide +kernel, ui_X10, by decide +kernel⟩, mi_X10_open, mx_X10_open⟩
def μX10_leaves : sw_Mt := (yX10_leaves, cX10_leaves, 4, (some .int), 6, 0, 0)
theorem mc_X10_leaves : Cond.code yX10_leaves cX10_leaves 4 (some .int) ∈ sw_U := sw_in 1476 (by decide +kernel) (by decide +kernel)
theorem mi_X10_leaves : Cond.instanceMethod yX10_leaves ∈ sw_U := sw_in 1474 (by decide +kernel) (by decide +kernel)
theorem mx_X10_leaves : Cond.selects RX10 yX10_leaves yX10_leaves ∈ sw_U := sw_in 1475 (by decide +kernel) (by decide +kernel)
theorem mm_X10_leaves : sw_mv μX10_leaves := ⟨⟨mc_X10_leaves, by decide +kernel, by decide +kernel, ui_X10, by decide +kernel⟩, mi_X10_leaves, mx_X10_leaves⟩
def μX10_draw : sw_Mt := (yX10_draw, cX10_draw, 2, (some .int), 2, 0, 0)
theorem mc_X10_draw : Cond.code yX10_draw cX10_draw 2 (some .int) ∈ sw_U := sw_in 1492 (by decide +kernel) (by decide +kernel)
theorem mi_X10_draw : Cond.instanceMethod yX10_draw ∈ sw_U := sw_in 1491 (by decide +kernel) (by decide +kernel)
theorem mx_X10_draw : Cond.selects RX10 yX10_draw yX10_draw ∈ sw_U := sw_in 78 (by decide +kernel) (by decide +kernel)
theorem mm_X10_draw : sw_mv μX10_draw := ⟨⟨mc_X10_draw, by decide +kernel, by decide +kernel, ui_X10, by decide +kernel⟩, mi_X10_draw, mx_X10_draw⟩
def μX10_drawTruth : sw_Mt := (yX10_drawTruth, cX10_drawTruth, 4, (some .int), 3, 0, 0)
theorem mc_X10_drawTruth : Cond.code yX10_drawTruth cX10_drawTruth 4 (some .int) ∈ sw_U := sw_in 1488 (by decide +kernel) (by decide +kernel)
theorem mi_X10_drawTruth : Cond.instanceMethod yX10_drawTruth ∈ sw_U := sw_in 1487 (by decide +kernel) (by decide +kernel)
theorem mx_X10_drawTruth : Cond.selects RX10 yX10_drawTruth yX10_drawTruth ∈ sw_U := sw_in 77 (by decide +kernel) (by decide +kernel)
theorem mm_X10_drawTruth : sw_mv μX10_drawTruth := ⟨⟨mc_X10_drawTruth, by decide +kernel, by decide +kernel, ui_X10, by decide +kernel⟩, mi_X10_drawTruth, mx_X10_drawTruth⟩
def μX10_drawSign : sw_Mt := (yX10_drawSign, cX10_drawSign, 5, (some .int), 3, 0, 0)
theorem mc_X10_drawSign : Cond.code yX10_drawSign cX10_drawSign 5 (some .int) ∈ sw_U := sw_in 1498 (by decide +kernel) (by decide +kernel)
theorem mi_X10_drawSign : Cond.instanceMethod yX10_drawSign ∈ sw_U := sw_in 1497 (by decide +kernel) (by decide +kernel)
theorem mx_X10_drawSign : Cond.selects RX10 yX10_drawSign yX10_drawSign ∈ sw_U := sw_in 79 (by decide +kernel) (by decide +kernel)
theorem mm_X10_drawSign : sw_mv μX10_drawSign := ⟨⟨mc_X10_drawSign, by decide +kernel, by decide +kernel, ui_X10, by decide +kernel⟩, mi_X10_drawSign, mx_X10_drawSign⟩
def μX10_learn : sw_Mt := (yX10_learn, cX10_learn, 7, (some .int), 8, 0, 0)
theorem mc_X10_learn : Cond.code yX10_learn cX10_learn 7 (some .int) ∈ sw_U := sw_in 1480 (by decide +kernel) (by decide +kernel)
theorem mi_X10_learn : Cond.instanceMethod yX10_learn ∈ sw_U := sw_in 1478 (by decide +kernel) (by decide +kernel)
theorem mx_X10_learn : Cond.selects RX10 yX10_learn yX10_learn ∈ sw_U := sw_in 1479 (by decide +kernel) (by decide +kernel)
theorem mm_X10_learn : sw_mv μX10_learn := ⟨⟨mc_X10_learn, by decide +kernel, by decide +kernel, ui_X10, by decide +kernel⟩, mi_X10_learn, mx_X10_learn⟩
def μX10_round : sw_Mt := (yX10_round, cX10_round, 9, (some .boolean), 4, 0, 0)
theorem mc_X10_round : Cond.code yX10_round cX10_round 9 (some .boolean) ∈ sw_U := sw_in 1484 (by decide +kernel) (by decide +kernel)
theorem mi_X10_round : Cond.instanceMethod yX10_round ∈ sw_U := sw_in 1483 (by decide +kernel) (by decide +kernel)
theorem mx_X10_round : Cond.selects RX10 yX10_round yX10_round ∈ sw_U := sw_in 76 (by decide +kernel) (by decide +kernel)
theorem mm_X10_round : sw_mv μX10_round := ⟨⟨mc_X10_round, by decide +kernel, by decide +kernel, ui_X10, by decide +kernel⟩, mi_X10_round, mx_X10_round⟩
def μX10_change_ : sw_Mt := (yX10_change_, cX10_change_, 4, none, 3, 0, 0)
theorem mc_X10_change_ : Cond.code yX10_change_ cX10_change_ 4 none ∈ sw_U := sw_in 1502 (by decide +kernel) (by decide +kernel)
theorem mi_X10_change_ : Cond.instanceMethod yX10_change_ ∈ sw_U := sw_in 1501 (by decide +kernel) (by decide +kernel)
theorem mx_X10_change_ : Cond.selects RX10 yX10_change_ yX10_change_ ∈ sw_U := sw_in 80 (by decide +kernel) (by decide +kernel)
theorem mm_X10_change_ : sw_mv μX10_change_ := ⟨⟨mc_X10_change_, by decide +kernel, by decide +kernel, ui_X10, by decide +kernel⟩, mi_X10_change_, mx_X10_change_⟩
def μX10_learned : sw_Mt := (yX10_learned, cX10_learned, 3, (some .int), 3, 0, 0)
theorem mc_X10_learned : Cond.code yX10_learned cX10_learned 3 (some .int) ∈ sw_U := sw_in 1507 (by decide +kernel) (by decide +kernel)
theorem mi_X10_learned : Cond.instanceMethod yX10_learned ∈ sw_U := sw_in 1505 (by decide +kernel) (by decide +kernel)
theorem mx_X10_learned : Cond.selects RX10 yX10_learned yX10_learned ∈ sw_U := sw_in 1506 (by decide +kernel) (by decide +kernel)
theorem mm_X10_learned : sw_mv μX10_learned := ⟨⟨mc_X10_learned, by decide +kernel, by decide +kernel, ui_X10, by decide +kernel⟩, mi_X10_learned, mx_X10_learned⟩
def μX10_got : sw_Mt := (yX10_got, cX10_got, 1, (some .int), 2, 0, 0)
theorem mc_X10_got : Cond.code yX10_got cX10_got 1 (some .int) ∈ sw_U := sw_in 1511 (by decide +kernel) (by decide +kernel)
theorem mi_X10_got : Cond.instanceMethod yX10_got ∈ sw_U := sw_in 1509 (by decide +kernel) (by decide +kernel)
theorem mx_X10_got : Cond.selects RX10 yX10_got yX10_got ∈ sw_U := sw_in 1510 (by decide +kernel) (by decide +kernel)
theorem mm_X10_got : sw_mv μX10_got := ⟨⟨mc_X10_got, by decide +kernel, by decide +kernel, ui_X10, by decide +kernel⟩, mi_X10_got, mx_X10_got⟩
def μX10_count_ : sw_Mt := (yX10_count_, cX10_count_, 2, (some .int), 2, 0, 0)
theorem mc_X10_count_ : Cond.code yX10_count_ cX10_count_ 2 (some .int) ∈ sw_U := sw_in 1515 (by decide +kernel) (by decide +kernel)
theorem mi_X10_count_ : Cond.instanceMethod yX10_count_ ∈ sw_U := sw_in 1513 (by decide +kernel) (by decide +kernel)
theorem mx_X10_count_ : Cond.selects RX10 yX10_count_ yX10_count_ ∈ sw_U := sw_in 1514 (by decide +kernel) (by decide +kernel)
theorem mm_X10_count_ : sw_mv μX10_count_ := ⟨⟨mc_X10_count_, by decide +kernel, by decide +kernel, ui_X10, by decide +kernel⟩, mi_X10_count_, mx_X10_count_⟩
def μJ6_numberOfTrailingZeros_0f7a4 : sw_Mt := (yJ6_numberOfTrailingZeros_0f7a4, cJ6_numberOfTrailingZeros_0f7a4, 2, (some .int), 2, 0, 0)
theorem mc_J6_numberOfTrailingZeros_0f7a4 : Cond.code yJ6_numberOfTrailingZeros_0f7a4 cJ6_numberOfTrailingZeros_0f7a4 2 (some .int) ∈ sw_U := sw_in 1471 (by decide +kernel) (by decide +kernel)
theorem mt_J6_numberOfTrailingZeros_0f7a4 : Cond.static yJ6_numberOfTrailingZeros_0f7a4 ∈ sw_U := sw_in 1470 (by decide +kernel) (by decide +kernel)
theorem mm_J6_numberOfTrailingZeros_0f7a4 : sw_ms μJ6_numberOfTrailingZeros_0f7a4 := ⟨⟨mc_J6_numberOfTrailingZeros_0f7a4, by decide +kernel, by decide +kernel, ui_J6, by decide +kernel⟩, mt_J6_numberOfTrailingZeros_0f7a4⟩
def μJ6_bitCount_0f7a4 : sw_Mt := (yJ6_bitCount_0f7a4, cJ6_bitCount_0f7a4, 1, (some .int), 2, 0, 0)
theorem mc_J6_bitCount_0f7a4 : Cond.code yJ6_bitCount_0f7a4 cJ6_bitCount_0f7a4 1 (some .int) ∈ sw_U := sw_in 1461 (by decide +kernel) (by decide +kernel)
theorem mt_J6_bitCount_0f7a4 : Cond.static yJ6_bitCount_0f7a4 ∈ sw_U := sw_in 1460 (by decide +kernel) (by decide +kernel)
theorem mm_J6_bitCount_0f7a4 : sw_ms μJ6_bitCount_0f7a4 := ⟨⟨mc_J6_bitCount_0f7a4, by decide +kernel, by decide +kernel, ui_J6, by decide +kernel⟩, mt_J6_bitCount_0f7a4⟩
end
section
/-! THE V LAYER: kit rows over a memory that is a function of tags; machine ints are Ints -/
abbrev sw_Ob : Type := (Nat × vp_A) ⊕ (Nat × List Value)
abbrev sw_M : Type := Nat → Option sw_Ob
abbrev sw_Ce : Type := Nat × sw_Ob
abbrev sw_G : Type := (Nat → ClassId) × (Nat → Nat → Nat) × (Nat → ClassId) × (Nat → Nat)
/-- where a tag lies -/
abbrev sw_al (G : sw_G) (t : Nat) : Nat := G.2.2.2 t
def sw_Gw (G : sw_G) (al : Nat → Nat) : sw_G := (G.1, G.2.1, G.2.2.1, al)
theorem sw_Gw_self (G : sw_G) : sw_Gw G G.2.2.2 = G := rfl
abbrev sw_ty : Nat → FieldType := fun k => match k with
  | 0 => .int
  | 1 => .long
  | 2 => .boolean
  | _ => .object "SorryToWin$Sale"
abbrev sw_tys (G : sw_G) : List (ClassId × FieldType) := [(G.2.2.1 0, sw_ty 0), (G.2.2.1 1, sw_ty 1), (G.2.2.1 2, sw_ty 2), (G.2.2.1 3, sw_ty 3)]
abbrev sw_D (G : sw_G) : va_G := (G.1, G.2.1)
def sw_cv (G : sw_G) (q : Nat × sw_Ob) : Nat × va_E := match q.2 with
  | .inl a => (q.1, .inl (G.2.2.1 a.1, a.2))
  | .inr r => (q.1, .inr r)
theorem sw_cv1 (G : sw_G) (q : Nat × sw_Ob) : (sw_cv G q).1 = q.1 := by
  obtain ⟨a, ob⟩ := q
  cases ob <;> rfl
/-- the world holds the memory; tags apart have addresses apart -/
def sw_Rep (G : sw_G) (M : sw_M) (ws : va_W) : Prop :=
  (∀ (t : Nat) (ob : sw_Ob), M t = some ob → ∃ k : Nat, ws[k]? = some (sw_cv G (sw_al G t, ob))) ∧
  ∀ (t t' : Nat), M t ≠ none → M t' ≠ none → sw_al G t = sw_al G t' → t = t'
def sw_up (M : sw_M) (t : Nat) (x : sw_Ob) : sw_M := fun u => if u = t then some x else M u
theorem sw_Rep.set {G : sw_G} {M : sw_M} {ws : va_W} {A : Nat → Prop} (h : sw_Rep G M ws) (hD : va_D A ws) {t k : Nat} {ob ob' : sw_Ob} (ht : M t = some ob) (hk : ws[k]? = some (sw_cv G (sw_al G t, ob))) : sw_Rep G (sw_up M t ob') (ws.set k (sw_cv G (sw_al G t, ob'))) := by
  have hlt : k < ws.length := (List.getElem?_eq_some_iff.mp hk).1
  have hne : ∀ u, sw_up M t ob' u ≠ none → M u ≠ none := by
    intro u hu
    unfold sw_up at hu
    by_cases e : u = t
    · rw [e, ht]; exact fun q => by cases q
    · rw [if_neg e] at hu; exact hu
  refine ⟨fun u x hu => ?_, fun u u' hu hu' => h.2 u u' (hne u hu) (hne u' hu')⟩
  unfold sw_up at hu
  by_cases e : u = t
  · rw [if_pos e] at hu
    cases hu
    subst e
    exact ⟨k, by rw [List.getElem?_set]; simp [hlt]⟩
  · rw [if_neg e] at hu
    obtain ⟨j, hj⟩ := h.1 u x hu
    refine ⟨j, ?_⟩
    have hjk : k ≠ j := by
      intro q
      subst q
      have e1 := (sw_cv1 G (sw_al G t, ob)).symm.trans ((congrArg Prod.fst (Option.some.inj (hk.symm.trans hj))).trans (sw_cv1 G (sw_al G u, x)))
      have e2 : sw_al G t = sw_al G u := e1
      exact e (h.2 u t (by rw [hu]; exact fun q => by cases q) (by rw [ht]; exact fun q => by cases q) e2.symm)
    rw [List.getElem?_set_ne hjk]
    exact hj
def sw_ua (al : Nat → Nat) (t a : Nat) : Nat → Nat := fun u => if u = t then a else al u
theorem sw_Rep.push {G : sw_G} {M : sw_M} {ws : va_W} {A : Nat → Prop} (h : sw_Rep G M ws) {t a : Nat} {ob : sw_Ob} (ht : M t = none) (hD : va_D A (ws ++ [sw_cv G (a, ob)])) : sw_Rep (sw_Gw G (sw_ua G.2.2.2 t a)) (sw_up M t ob) (ws ++ [sw_cv G (a, ob)]) := by
  have fresh : ∀ u, M u ≠ none → sw_al G u ≠ a := by
    intro u hu q
    cases hx : M u with
    | none => exact hu hx
    | some x =>
      obtain ⟨j, hj⟩ := h.1 u x hx
      have hjl : j < ws.length := (List.getElem?_eq_some_iff.mp hj).1
      have h1 : (ws ++ [sw_cv G (a, ob)])[j]? = some (sw_cv G (sw_al G u, x)) := by rw [List.getElem?_append_left hjl]; exact hj
      have h2 : (ws ++ [sw_cv G (a, ob)])[ws.length]? = some (sw_cv G (a, ob)) := by simp
      have h3 := hD.1 j ws.length _ _ h1 h2 (by rw [sw_cv1, sw_cv1]; exact q)
      omega
  refine ⟨fun u x hu => ?_, fun u u' hu hu' hal => ?_⟩
  · unfold sw_up at hu
    by_cases e : u = t
    · rw [if_pos e] at hu
      cases hu
      subst e
      refine ⟨ws.length, ?_⟩
      have e3 : sw_al (sw_Gw G (sw_ua G.2.2.2 u a)) u = a := if_pos rfl
      rw [e3]
      simp [sw_cv, sw_Gw]
    · rw [if_neg e] at hu
      obtain ⟨j, hj⟩ := h.1 u x hu
      have hjl : j < ws.length := (List.getElem?_eq_some_iff.mp hj).1
      have e3 : sw_al (sw_Gw G (sw_ua G.2.2.2 t a)) u = sw_al G u := if_neg e
      rw [e3]
      exact ⟨j, by rw [List.getElem?_append_left hjl]; exact hj⟩
  · have al1 : ∀ v, v ≠ t → sw_al (sw_Gw G (sw_ua G.2.2.2 t a)) v = sw_al G v := fun v e => if_neg e
    have al0 : sw_al (sw_Gw G (sw_ua G.2.2.2 t a)) t = a := if_pos rfl
    have up1 : ∀ v, v ≠ t → sw_up M t ob v = M v := fun v e => if_neg e
    by_cases e : u = t
    · by_cases e' : u' = t
      · rw [e, e']
      · rw [e, al0, al1 u' e'] at hal
        rw [up1 u' e'] at hu'
        exact absurd hal.symm (fresh u' hu')
    · by_cases e' : u' = t
      · rw [e', al0, al1 u e] at hal
        rw [up1 u e] at hu
        exact absurd hal (fresh u hu)
      · rw [al1 u e, al1 u' e'] at hal
        rw [up1 u e] at hu
        rw [up1 u' e'] at hu'
        exact h.2 u u' hu hu' hal
/-! cells laid over a memory -/
def sw_ov (M : sw_M) : List sw_Ce → sw_M
  | [] => M
  | c :: cs => fun u => if u = c.1 then some c.2 else sw_ov M cs u
def sw_nd : List Nat → Prop
  | [] => True
  | a :: l => (∀ b ∈ l, a ≠ b) ∧ sw_nd l
theorem sw_ov_at {M : sw_M} : ∀ {cs : List sw_Ce} {q t : Nat} {x : sw_Ob}, sw_nd (cs.map Prod.fst) → cs[q]? = some (t, x) → sw_ov M cs t = some x
  | [], q, t, x, _, h => by simp at h
  | c :: cs, 0, t, x, _, h => by
    have h1 : c = (t, x) := by simpa using h
    subst h1
    simp [sw_ov]
  | c :: cs, q + 1, t, x, hn, h => by
    have h1 : cs[q]? = some (t, x) := by simpa using h
    have hne : t ≠ c.1 := by
      have := hn.1 t (List.mem_map.mpr ⟨(t, x), List.mem_of_getElem? h1, rfl⟩)
      exact fun e => this e.symm
    show (if t = c.1 then some c.2 else sw_ov M cs t) = some x
    rw [if_neg hne]
    exact sw_ov_at hn.2 h1
theorem sw_ov_set {M : sw_M} : ∀ {cs : List sw_Ce} {q t : Nat} {x y : sw_Ob}, sw_nd (cs.map Prod.fst) → cs[q]? = some (t, x) → sw_up (sw_ov M cs) t y = sw_ov M (cs.set q (t, y))
  | [], q, t, x, y, _, h => by simp at h
  | c :: cs, 0, t, x, y, _, h => by
    have h1 : c = (t, x) := by simpa using h
    subst h1
    funext u
    show (if u = t then some y else if u = t then some x else sw_ov M cs u) = (if u = t then some y else sw_ov M cs u)
    by_cases e : u = t
    · rw [if_pos e, if_pos e]
    · rw [if_neg e, if_neg e, if_neg e]
  | c :: cs, q + 1, t, x, y, hn, h => by
    have h1 : cs[q]? = some (t, x) := by simpa using h
    have hne : t ≠ c.1 := by
      have := hn.1 t (List.mem_map.mpr ⟨(t, x), List.mem_of_getElem? h1, rfl⟩)
      exact fun e => this e.symm
    have ih := sw_ov_set (M := M) (y := y) hn.2 h1
    funext u
    show (if u = t then some y else if u = c.1 then some c.2 else sw_ov M cs u) = (if u = c.1 then some c.2 else sw_ov M (cs.set q (t, y)) u)
    rw [← ih]
    unfold sw_up
    by_cases e : u = t
    · subst e
      rw [if_pos rfl, if_neg hne, if_pos rfl]
    · rw [if_neg e, if_neg e]
theorem sw_ov_in {M : sw_M} {x : sw_Ce} : ∀ {cs : List sw_Ce} {u : Nat}, sw_ov M cs u = some x.2 → u = x.1 → x ∈ cs ∨ M u = some x.2
  | [], u, h, _ => Or.inr h
  | c :: cs, u, h, e => by
    by_cases q : u = c.1
    · have h' : some c.2 = some x.2 := by rw [← h]; exact (if_pos q).symm
      refine Or.inl (List.mem_cons.mpr (Or.inl ?_))
      exact Prod.ext (e.symm.trans q) (Option.some.inj h').symm
    · have h' : sw_ov M cs u = some x.2 := by rw [← h]; exact (if_neg q).symm
      rcases sw_ov_in h' e with h1 | h1
      · exact Or.inl (List.mem_cons_of_mem _ h1)
      · exact Or.inr h1
/-- what is laid over is what is there already -/
theorem sw_ov_self {M : sw_M} : ∀ {cs : List sw_Ce}, (∀ c ∈ cs, M c.1 = some c.2) → sw_ov M cs = M
  | [], _ => rfl
  | c :: cs, h => by
    funext u
    show (if u = c.1 then some c.2 else sw_ov M cs u) = M u
    rw [sw_ov_self (fun x hx => h x (List.mem_cons_of_mem _ hx))]
    by_cases e : u = c.1
    · rw [if_pos e, e, h c List.mem_cons_self]
    · rw [if_neg e]
theorem sw_ov_out {M : sw_M} : ∀ {cs : List sw_Ce} {u : Nat}, u ∉ cs.map Prod.fst → sw_ov M cs u = M u
  | [], _, _ => rfl
  | c :: cs, u, h => by
    have h1 : ¬ (u = c.1 ∨ u ∈ cs.map Prod.fst) := by simpa using h
    show (if u = c.1 then some c.2 else sw_ov M cs u) = M u
    rw [if_neg (fun e => h1 (Or.inl e))]
    exact sw_ov_out (fun e => h1 (Or.inr e))
/-- cells at places put anew -/
def sw_put (cs : List sw_Ce) : List Nat → List sw_Ce → List sw_Ce
  | i :: is, w :: ws => sw_put (cs.set i w) is ws
  | _, _ => cs
theorem sw_set_same : ∀ {l : List Nat} {i a : Nat}, l[i]? = some a → l.set i a = l
  | [], _, _, h => by simp at h
  | x :: l, 0, a, h => by
    have h1 : x = a := by simpa using h
    rw [h1]; rfl
  | x :: l, i + 1, a, h => by
    have h1 : l[i]? = some a := by simpa using h
    show x :: l.set i a = x :: l
    rw [sw_set_same h1]
theorem sw_tags_set {cs : List sw_Ce} {i : Nat} {w c : sw_Ce} (h : cs[i]? = some c) (hc : w.1 = c.1) : (cs.set i w).map Prod.fst = cs.map Prod.fst := by
  rw [List.map_set, hc]
  exact sw_set_same (by rw [List.getElem?_map, h]; rfl)
theorem sw_ov_put {M : sw_M} : ∀ {is : List Nat} {wc w1 : List sw_Ce} {cs : List sw_Ce}, sw_nd (cs.map Prod.fst) → sw_nd (wc.map Prod.fst) → is.map (fun i => cs[i]?) = wc.map some → w1.map Prod.fst = wc.map Prod.fst →
    sw_ov (sw_ov M cs) w1 = sw_ov M (sw_put cs is w1)
  | [], wc, w1, cs, _, _, h, e => by
    cases wc with
    | nil =>
      cases w1 with
      | nil => rfl
      | cons a l => simp at e
    | cons a l => simp at h
  | i :: is, [], w1, cs, _, _, h, _ => by simp at h
  | i :: is, c :: wc, [], cs, _, _, _, e => by simp at e
  | i :: is, c :: wc, w :: w1, cs, hn, hc, h, e => by
    have h1 : cs[i]? = some c := by
      have := congrArg List.head? h
      simpa using this
    have h2 : is.map (fun i => cs[i]?) = wc.map some := by
      have := congrArg List.tail h
      simpa using this
    have e1 : w.1 = c.1 := by
      have := congrArg List.head? e
      simpa using this
    have e2 : w1.map Prod.fst = wc.map Prod.fst := by
      have := congrArg List.tail e
      simpa using this
    have ht := sw_tags_set (w := w) h1 e1
    have hit : sw_nd ((cs.set i w).map Prod.fst) := by rw [ht]; exact hn
    have hdis : ∀ b ∈ wc.map Prod.fst, c.1 ≠ b := hc.1
    have h3 : is.map (fun j => (cs.set i w)[j]?) = wc.map some := by
      rw [← h2]
      refine List.map_congr_left fun j hj => ?_
      have hji : i ≠ j := by
        intro q
        subst q
        have hm : cs[i]? ∈ is.map (fun i => cs[i]?) := List.mem_map.mpr ⟨i, hj, rfl⟩
        rw [h2, h1] at hm
        obtain ⟨x, hx, hx2⟩ := List.mem_map.mp hm
        have hx3 : x = c := Option.some.inj hx2
        subst hx3
        exact hdis x.1 (List.mem_map.mpr ⟨x, hx, rfl⟩) rfl
      exact List.getElem?_set_ne hji
    have ih := sw_ov_put (M := M) hit hc.2 h3 e2
    show sw_ov (sw_ov M cs) (w :: w1) = sw_ov M (sw_put (cs.set i w) is w1)
    rw [← ih]
    have hset := sw_ov_set (M := M) (x := c.2) (y := w.2) hn (show cs[i]? = some (c.1, c.2) from h1)
    have hw : (c.1, w.2) = w := Prod.ext e1.symm rfl
    rw [hw] at hset
    rw [← hset]
    have hout : ∀ (l : List sw_Ce), l.map Prod.fst = wc.map Prod.fst → ∀ u, sw_ov (sw_up (sw_ov M cs) c.1 w.2) l u = if u = c.1 then some w.2 else sw_ov (sw_ov M cs) l u := by
      intro l hl u
      by_cases q : u = c.1
      · rw [if_pos q, sw_ov_out (by rw [hl, q]; exact fun hm => hdis _ hm rfl)]
        exact if_pos q
      · rw [if_neg q]
        clear hl
        induction l with
        | nil => exact if_neg q
        | cons a l ihl =>
          show (if u = a.1 then some a.2 else sw_ov (sw_up (sw_ov M cs) c.1 w.2) l u) = (if u = a.1 then some a.2 else sw_ov (sw_ov M cs) l u)
          rw [ihl]
    funext u
    rw [hout w1 e2 u]
    show (if u = w.1 then some w.2 else sw_ov (sw_ov M cs) w1 u) = _
    rw [e1]
/-! machine ints -/
def iN (z : Int) : Int32 := Int32.ofInt z
def jN (z : Int) : Int64 := Int64.ofInt z
abbrev sw_rg (z : Int) : Prop := -2147483648 ≤ z ∧ z < 2147483648
abbrev sw_rl (z : Int) : Prop := -9223372036854775808 ≤ z ∧ z < 9223372036854775808
theorem iN_add (a b : Int) : iN a + iN b = iN (a + b) := (Int32.ofInt_add a b).symm
theorem iN_sub (a b : Int) : iN a - iN b = iN (a - b) := (Int32.ofInt_sub a b).symm
theorem iN_mul (a b : Int) : iN a * iN b = iN (a * b) := (Int32.ofInt_mul a b).symm
theorem iN_neg (a : Int) : -iN a = iN (-a) := (Int32.ofInt_neg a).symm
theorem jN_add (a b : Int) : jN a + jN b = jN (a + b) := (Int64.ofInt_add a b).symm
theorem jN_sub (a b : Int) : jN a - jN b = jN (a - b) := (Int64.ofInt_sub a b).symm
theorem jN_mul (a b : Int) : jN a * jN b = jN (a * b) := (Int64.ofInt_mul a b).symm
theorem jN_neg (a : Int) : -jN a = jN (-a) := (Int64.ofInt_neg a).symm
theorem iN_t {z : Int} (h : sw_rg z) : (iN z).toInt = z := Int32.toInt_ofInt_of_le h.1 h.2
theorem jN_t {z : Int} (h : sw_rl z) : (jN z).toInt = z := Int64.toInt_ofInt_of_le h.1 h.2
theorem iN_of (x : Int32) : ∃ z : Int, sw_rg z ∧ x = iN z := ⟨x.toInt, ⟨x.le_toInt, x.toInt_lt⟩, (Int32.ofInt_toInt x).symm⟩
theorem jN_of (x : Int64) : ∃ z : Int, sw_rl z ∧ x = jN z := ⟨x.toInt, ⟨x.le_toInt, x.toInt_lt⟩, (Int64.ofInt_toInt x).symm⟩
theorem iN_lt {a b : Int} (ha : sw_rg a) (hb : sw_rg b) : iN a < iN b ↔ a < b := by rw [Int32.lt_iff_toInt_lt, iN_t ha, iN_t hb]
theorem iN_le {a b : Int} (ha : sw_rg a) (hb : sw_rg b) : iN a ≤ iN b ↔ a ≤ b := by rw [Int32.le_iff_toInt_le, iN_t ha, iN_t hb]
theorem iN_eq {a b : Int} (ha : sw_rg a) (hb : sw_rg b) : iN a = iN b ↔ a = b := by rw [← Int32.toInt_inj, iN_t ha, iN_t hb]
theorem jN_lt {a b : Int} (ha : sw_rl a) (hb : sw_rl b) : jN a < jN b ↔ a < b := by rw [Int64.lt_iff_toInt_lt, jN_t ha, jN_t hb]
theorem jN_le {a b : Int} (ha : sw_rl a) (hb : sw_rl b) : jN a ≤ jN b ↔ a ≤ b := by rw [Int64.le_iff_toInt_le, jN_t ha, jN_t hb]
theorem jN_eq {a b : Int} (ha : sw_rl a) (hb : sw_rl b) : jN a = jN b ↔ a = b := by rw [← Int64.toInt_inj, jN_t ha, jN_t hb]
theorem iN_0 : (0 : Int32) = iN 0 := rfl
theorem jN_l {z : Int} (h : sw_rg z) : (iN z).toInt64 = jN z := Int32.toInt64_ofInt (by have := h.1; show (-2147483648 : Int) ≤ z; omega) (by have := h.2; show z ≤ (2147483647 : Int); omega)
theorem jN_i (z : Int) : (jN z).toInt32 = iN z := Int64.toInt32_ofInt
theorem iN_cl {z : Int} (h0 : 0 ≤ z) (h : z < 2147483648) : (iN z).toNatClampNeg = z.toNat := Int32.toNatClampNeg_ofInt_of_le (by omega) (by omega)
theorem iN_in {z : Int} {n : Nat} (h0 : 0 ≤ z) (h1 : z < n) (hn : n < 2147483648) : vp_in (iN z) n := by
  refine vp_in_iff.mpr ?_
  rw [iN_t ⟨by omega, by omega⟩]
  exact ⟨h0, h1⟩
theorem iN_dv {a b : Int} (ha : sw_rg a) (h0 : 0 ≤ a) (hb : sw_rg b) (h1 : 0 < b) : iN a / iN b = iN (a / b) := by
  have h := (Int32.ofInt_tdiv (a := a) (b := b) (by have := ha.1; show (-2147483648 : Int) ≤ a; omega) (by have := ha.2; show a ≤ (2147483647 : Int); omega) (by have := hb.1; show (-2147483648 : Int) ≤ b; omega) (by have := hb.2; show b ≤ (2147483647 : Int); omega)).symm
  rw [Int.tdiv_eq_ediv_of_nonneg h0] at h
  exact h
theorem iN_rm {a b : Int} (ha : sw_rg a) (h0 : 0 ≤ a) (hb : sw_rg b) (h1 : 0 < b) : iN a - iN a / iN b * iN b = iN (a % b) := by
  rw [iN_dv ha h0 hb h1, iN_mul, iN_sub, Int.emod_def, Int.mul_comm]
theorem jN_dv {a b : Int} (ha : sw_rl a) (hb : sw_rl b) : jN a / jN b = jN (a.tdiv b) :=
  (Int64.ofInt_tdiv (a := a) (b := b) (by have := ha.1; show (-9223372036854775808 : Int) ≤ a; omega) (by have := ha.2; show a ≤ (9223372036854775807 : Int); omega) (by have := hb.1; show (-9223372036854775808 : Int) ≤ b; omega) (by have := hb.2; show b ≤ (9223372036854775807 : Int); omega)).symm
theorem jN_rm {a b : Int} (ha : sw_rl a) (hb : sw_rl b) : jN a - jN a / jN b * jN b = jN (a.tmod b) := by
  rw [jN_dv ha hb, jN_mul, jN_sub]
  congr 1
  have := Int.mul_tdiv_add_tmod a b
  rw [Int.mul_comm] at this
  omega
/-! objects -/
abbrev sw_ia (n : Nat) (f : Int → Int) : sw_Ob := .inl (0, n, .inl (fun j : Nat => iN (f j)))
abbrev sw_la (n : Nat) (f : Int → Int) : sw_Ob := .inl (1, n, .inr (.inl (fun j : Nat => jN (f j))))
abbrev sw_za (n : Nat) (f : Int → Int) : sw_Ob := .inl (2, n, .inl (fun j : Nat => iN (f j)))
abbrev sw_ra (n : Nat) (f : Int → Option Nat) : sw_Ob := .inl (3, n, .inr (.inr (.inr (.inr (fun j : Nat => f j)))))
abbrev sw_o (k : Nat) (fs : List Value) : sw_Ob := .inr (k, fs)
abbrev sw_i (z : Int) : Value := .int (iN z)
abbrev sw_j (z : Int) : Value := .long (jN z)
def up (f : Int → Int) (k x : Int) : Int → Int := fun j => if j = k then x else f j
def upR (f : Int → Option Nat) (k : Int) (x : Option Nat) : Int → Option Nat := fun j => if j = k then x else f j
theorem up_ia {f : Int → Int} {k x : Int} (h : 0 ≤ k) : upd (fun j : Nat => iN (f j)) k.toNat (iN x) = fun j : Nat => iN (up f k x j) := by
  funext j
  unfold upd up
  by_cases e : j = k.toNat
  · rw [if_pos e, if_pos (by omega)]
  · rw [if_neg e, if_neg (by omega)]
theorem up_la {f : Int → Int} {k x : Int} (h : 0 ≤ k) : vp_updL (fun j : Nat => jN (f j)) k.toNat (jN x) = fun j : Nat => jN (up f k x j) := by
  funext j
  unfold vp_updL up
  by_cases e : j = k.toNat
  · rw [if_pos e, if_pos (by omega)]
  · rw [if_neg e, if_neg (by omega)]
theorem up_ra {f : Int → Option Nat} {k : Int} {x : Option Nat} (h : 0 ≤ k) : va_up (fun j : Nat => f j) k.toNat x = fun j : Nat => upR f k x j := by
  funext j
  unfold va_up upR
  by_cases e : j = k.toNat
  · rw [if_pos e, if_pos (by omega)]
  · rw [if_neg e, if_neg (by omega)]
/-! locals -/
def sw_lk : List (Nat × Value) → Nat → Option Value
  | [], _ => none
  | q :: l, i => if q.1 = i then some q.2 else sw_lk l i
theorem sw_lk_in : ∀ {l : List (Nat × Value)} {i : Nat} {v : Value}, sw_lk l i = some v → (i, v) ∈ l
  | [], i, v, h => by simp [sw_lk] at h
  | q :: l, i, v, h => by
    unfold sw_lk at h
    by_cases e : q.1 = i
    · rw [if_pos e] at h
      exact List.mem_cons.mpr (Or.inl (Prod.ext e.symm (Option.some.inj h).symm))
    · rw [if_neg e] at h
      exact List.mem_cons_of_mem _ (sw_lk_in h)
def sw_s1 (l : List (Nat × Value)) (i : Nat) (v : Value) : List (Nat × Value) := (i, v) :: l.filter (fun q => !(q.1 == i) && !(q.1 + 1 == i && q.2.category == 2))
def sw_s2 (l : List (Nat × Value)) (i : Nat) (v : Value) : List (Nat × Value) := (i, v) :: l.filter (fun q => !(q.1 == i) && (!(q.1 == i + 1) && !(q.1 + 1 == i && q.2.category == 2)))
theorem sw_lsub {ls : Array Slot} {n : Nat} {l l' : List (Nat × Value)} (h : lv_has ls n l) (hs : ∀ q ∈ l', sw_lk l q.1 = some q.2) : lv_has ls n l' :=
  ⟨h.1, h.2.1, fun q hq => h.2.2 q (sw_lk_in (hs q hq))⟩
theorem sw_at {ls : Array Slot} {n : Nat} {l : List (Nat × Value)} (h : lv_has ls n l) {i : Nat} {v : Value} (hk : sw_lk l i = some v) : ls[i]? = some (.val v) := h.2.2 (i, v) (sw_lk_in hk)
/-! the judgement -/
def sw_NL : List Cond := [Cond.methodLinkNest "SorryToWin" 9 ⟨"SorryToWin$Tape", "<init>", "()V"⟩ "SorryToWin", Cond.methodLinkNest "SorryToWin$Tape" 21 ⟨"SorryToWin$Sale", "<init>", "()V"⟩ "SorryToWin", Cond.methodLinkNest "SorryToWin" 38 ⟨"SorryToWin$Crowd", "<init>", "()V"⟩ "SorryToWin", Cond.methodLinkNest "SorryToWin$Crowd" 24 ⟨"SorryToWin$Sale", "<init>", "()V"⟩ "SorryToWin", Cond.methodLinkNest "SorryToWin" 45 ⟨"SorryToWin$Tally", "<init>", "()V"⟩ "SorryToWin", Cond.methodLinkNest "SorryToWin" 52 ⟨"SorryToWin$Rivals", "<init>", "()V"⟩ "SorryToWin", Cond.methodLinkNest "SorryToWin" 59 ⟨"SorryToWin$Bars", "<init>", "()V"⟩ "SorryToWin", Cond.methodLinkNest "SorryToWin" 66 ⟨"SorryToWin$Turns", "<init>", "()V"⟩ "SorryToWin", Cond.methodLinkNest "SorryToWin" 73 ⟨"SorryToWin$Rising", "<init>", "()V"⟩ "SorryToWin", Cond.methodLinkNest "SorryToWin" 80 ⟨"SorryToWin$Learner", "<init>", "()V"⟩ "SorryToWin", Cond.methodLinkNest "SorryToWin$Learner" 23 ⟨"SorryToWin$Sale", "<init>", "()V"⟩ "SorryToWin"]
theorem sw_NLok : ∀ w ∈ sw_NL, ∃ a i x h, w = Cond.methodLinkNest a i x h := by
  intro w hw
  simp only [sw_NL, List.mem_cons, List.not_mem_nil, or_false] at hw
  rcases hw with rfl | rfl | rfl | rfl | rfl | rfl | rfl | rfl | rfl | rfl | rfl <;> exact ⟨_, _, _, _, rfl⟩
/-- the classes' numbers, the arrays' classes, the links of nest mates -/
def sw_K (G : sw_G) (U : State) : Prop := va_K (sw_D G) vwCl (sw_tys G) U ∧ (∀ w ∈ sw_NL, va_Nw w U) ∧ va_AO "SorryToWin$Sale" U
theorem sw_K.moved {G : sw_G} {u U : State} (hW : u.WarmedH U.vm) (h : sw_K G u) : sw_K G U :=
  ⟨va_K.moved hW.alike h.1, fun w hw => by
    obtain ⟨a, i, x, g, rfl⟩ := sw_NLok w hw
    exact va_Nw.warmM hW (h.2.1 _ hw), va_AO.moved hW.alike h.2.2⟩
theorem sw_K.same {G : sw_G} {u U : State} (hv : u.vm = U.vm) (h : sw_K G u) : sw_K G U :=
  ⟨va_K.moved (by rw [hv]; exact Vm.Alike.refl U.vm) h.1, fun w hw => by
    obtain ⟨a, i, x, g, rfl⟩ := sw_NLok w hw
    exact va_Nw.same rfl hv (h.2.1 _ hw), va_AO.moved (by rw [hv]; exact Vm.Alike.refl U.vm) h.2.2⟩
def sw_Cx (l : Launch) (G : sw_G) (μ : sw_Mt) (E : State → (Nat → Prop) → Prop) (p : Program) (R : Room) (s : State) (m : MethodId) (args : Array Value) (meth : Method) (c : Code) (A : Nat → Prop) : Prop :=
  p.tables.exec = Jvm.exec ∧ c.code = mC μ ∧ c.maxLocals = mL μ ∧ s.vm.findClass (mY μ).cls = some m.cls ∧ (∀ w ∈ mT μ, w.before args s = true) ∧ sw_K G s ∧ (∀ q, s.heap.size ≤ q → A q) ∧ mF μ ≤ R.frames ∧ 64 * mF μ ≤ R.locals ∧ mK μ ≤ R.cells ∧ mS μ ≤ R.slots ∧ meth.sig.returnType = mR μ ∧ meth.locks = false ∧ meth.name = (mY μ).name ∧ E s A
abbrev sw_Z : Type := List Frame → Array Value → State → (Nat → Prop) → State → Prop
def V (l : Launch) (G : sw_G) (μ : sw_Mt) (E : State → (Nat → Prop) → Prop) (Z : sw_Z) (pc : Nat) (lv : List (Nat × Value)) (st : List Value) (M : sw_M) (uc us : Nat) : Prop :=
  ∀ (p : Program) (e : Env) (R : Room) (s : State) (m : MethodId) (args : Array Value) (below : List Frame) (meth : Method) (c : Code) (A : Nat → Prop) (H : Heap) (locs : List Loc) (ws : va_W) (ls : Array Slot),
    sw_Cx l G μ E p R s m args meth c A → va_P (sw_D G) vwCl ws H → va_D A ws → va_S A s.heap H locs → sw_Rep G M ws → lv_has ls (mL μ) lv →
    W p l e R s m args below meth c H locs uc us (Z below args s A) (F0 m pc ls st)
def sw_QQ (G : sw_G) (Q : (Nat → Nat) → Option Value → sw_M → Prop) (A : Nat → Prop) : Array Value → State → Outcome → State → Prop := fun _ st oc t =>
  (∃ (al : Nat → Nat) (r : Option Value) (M' : sw_M) (ws' : va_W), oc = .returned r ∧ Q al r M' ∧ sw_Rep (sw_Gw G al) M' ws' ∧ va_P (sw_D G) vwCl ws' t.heap ∧ sw_K G t ∧ va_D A ws') ∧ va_F A st t
def sw_Zq (G : sw_G) (μ : sw_Mt) (Q : (Nat → Nat) → Option Value → sw_M → Prop) : sw_Z := fun below args s A => MQ below (sw_QQ G Q A) args s (mK μ) (mS μ) A
def sw_E0 : State → (Nat → Prop) → Prop := fun _ _ => True
def sw_Pc (G : sw_G) (av : List Value) (ws : va_W) (sz : Nat) : Array Value → State → Prop := va_Pc av (fun U => U.heap.size = sz ∧ va_P (sw_D G) vwCl ws U.heap ∧ sw_K G U ∧ va_D (fun _ => True) ws)
abbrev sw_rm (μ : sw_Mt) : Room := { frames := mF μ, cells := mK μ, slots := mS μ, locals := 64 * mF μ }
/-- a method's contract over a memory: it returns, with Q of where tags lie then, its answer and the memory behind it -/
def KtA (l : Launch) (G : sw_G) (μ : sw_Mt) (av : List Value) (M : sw_M) (Q : (Nat → Nat) → Option Value → sw_M → Prop) : Prop :=
  ∀ (ws : va_W) (sz : Nat), sw_Rep G M ws → Met l (mY μ) (mT μ) (sw_rm μ) (sw_Pc G av ws sz) (sw_QQ G Q (va_A ws sz)) (mK μ) (mS μ) (va_A ws sz)
/-- .. of a method that makes nothing -/
def sw_q0 (G : sw_G) (Q : Option Value → sw_M → Prop) : (Nat → Nat) → Option Value → sw_M → Prop := fun al r M' => al = G.2.2.2 ∧ Q r M'
abbrev Kt (l : Launch) (G : sw_G) (μ : sw_Mt) (av : List Value) (M : sw_M) (Q : Option Value → sw_M → Prop) : Prop := KtA l G μ av M (sw_q0 G Q)
theorem KtA.of {l : Launch} {G : sw_G} {μ : sw_Mt} {av : List Value} {M : sw_M} {Q : (Nat → Nat) → Option Value → sw_M → Prop} (hpl : plainName (mY μ).cls = true) (hlen : (lg_sl av).length ≤ mL μ)
    (h : V l G μ sw_E0 (sw_Zq G μ Q) 0 (lv_args 0 av) [] M 0 0) : KtA l G μ av M Q := by
  intro ws sz hR
  refine Met.ofW (cc := mC μ) (maxL := mL μ) (ret := mR μ) hpl rfl ?_
  intro p e s m args below meth c s₁ B hml hv
  obtain ⟨rfl, hsz, hP, hK, hD0⟩ := hv
  subst hsz
  have hD := hD0.self (sz := s.heap.size)
  have hl := lv_entry av (n := mL μ) hlen
  rw [lg_entry_eq]
  exact h p e _ s m _ below meth c (va_A ws s.heap.size) s.heap [] ws _ ⟨B.exec, B.bytes, hml, findClass_of_methodNamed B.named, atoms_spec (ws := mT μ) B.pre, hK, fun q h => Or.inr h, Nat.le_refl _, Nat.le_refl _, Nat.le_refl _, Nat.le_refl _, B.returns, B.notSynchronized, (name_of_methodNamed B.named B.method).1, trivial⟩ hP hD va_S.rf hR hl
/-- the arguments' words in the locals -/
def sw_al0 : Nat → List Value → List (Nat × Value)
  | _, [] => []
  | i, v :: l => (i, v) :: sw_al0 (i + v.category) l

section SWV
variable {l : Launch} {G : sw_G} {μ : sw_Mt} {E : State → (Nat → Prop) → Prop} {Z : sw_Z} {pc : Nat} {lv : List (Nat × Value)} {st : List Value} {M : sw_M} {uc us : Nat}
theorem v_iconst {n : Int} (hd : decode (mC μ) pc = .ok (.iconst n, 1)) (k : V l G μ E Z (pc + 1) lv (sw_i n :: st) M uc us) : V l G μ E Z pc lv (st) M uc us := by
  intro p e R s m args below meth c A H locs ws ls C hP hD hS hR hl
  exact lv_iconst C.1 C.2.1 hd rfl (k p e R s m args below meth c A H locs ws ls C hP hD hS hR hl)
theorem v_bipush {n : Int} (hd : decode (mC μ) pc = .ok (.bipush n, 2)) (hv : (Int8.ofInt n).toInt32 = iN n) (k : V l G μ E Z (pc + 2) lv (sw_i n :: st) M uc us) : V l G μ E Z pc lv (st) M uc us := by
  intro p e R s m args below meth c A H locs ws ls C hP hD hS hR hl
  exact lv_bipush C.1 C.2.1 hd hv (k p e R s m args below meth c A H locs ws ls C hP hD hS hR hl)
theorem v_sipush {n : Int} (hd : decode (mC μ) pc = .ok (.sipush n, 3)) (hv : (Int16.ofInt n).toInt32 = iN n) (k : V l G μ E Z (pc + 3) lv (sw_i n :: st) M uc us) : V l G μ E Z pc lv (st) M uc us := by
  intro p e R s m args below meth c A H locs ws ls C hP hD hS hR hl
  exact lv_sipush C.1 C.2.1 hd hv (k p e R s m args below meth c A H locs ws ls C hP hD hS hR hl)
theorem v_lconst {n : Fin 2} {z : Int} (hd : decode (mC μ) pc = .ok (.lconst n, 1)) (hv : Int64.ofNat (n : Nat) = jN z) (k : V l G μ E Z (pc + 1) lv (sw_j z :: st) M uc us) : V l G μ E Z pc lv (st) M uc us := by
  intro p e R s m args below meth c A H locs ws ls C hP hD hS hR hl
  exact lv_lconst C.1 C.2.1 hd hv (k p e R s m args below meth c A H locs ws ls C hP hD hS hR hl)
theorem v_null (hd : decode (mC μ) pc = .ok (.aconst_null, 1)) (k : V l G μ E Z (pc + 1) lv (.null :: st) M uc us) : V l G μ E Z pc lv (st) M uc us := by
  intro p e R s m args below meth c A H locs ws ls C hP hD hS hR hl
  exact lv_null C.1 C.2.1 hd (k p e R s m args below meth c A H locs ws ls C hP hD hS hR hl)
theorem v_ldc {ix : Nat} {z : Int} {x : Int32} (hc : Cond.constant (mY μ).cls ix x ∈ sw_U) (hz : x = iN z) (hd : decode (mC μ) pc = .ok (.ldc ix, 2)) (k : V l G μ E Z (pc + 2) lv (sw_i z :: st) M uc us) : V l G μ E Z pc lv (st) M uc us := by
  intro p e R s m args below meth c A H locs ws ls C hP hD hS hR hl
  subst hz; exact lv_ldc C.1 C.2.1 C.2.2.2.1 (C.2.2.2.2.1 _ (List.mem_cons_of_mem _ hc)) hd (k p e R s m args below meth c A H locs ws ls C hP hD hS hR hl)
theorem v_ldcw {ix : Nat} {z : Int} {x : Int32} (hc : Cond.constant (mY μ).cls ix x ∈ sw_U) (hz : x = iN z) (hd : decode (mC μ) pc = .ok (.ldc_w ix, 3)) (k : V l G μ E Z (pc + 3) lv (sw_i z :: st) M uc us) : V l G μ E Z pc lv (st) M uc us := by
  intro p e R s m args below meth c A H locs ws ls C hP hD hS hR hl
  subst hz; exact lv_ldcw C.1 C.2.1 C.2.2.2.1 (C.2.2.2.2.1 _ (List.mem_cons_of_mem _ hc)) hd (k p e R s m args below meth c A H locs ws ls C hP hD hS hR hl)
theorem v_ldc2 {ix : Nat} {z : Int} {x : Int64} (hc : Cond.constantLong (mY μ).cls ix x ∈ sw_U) (hz : x = jN z) (hd : decode (mC μ) pc = .ok (.ldc2_w ix, 3)) (k : V l G μ E Z (pc + 3) lv (sw_j z :: st) M uc us) : V l G μ E Z pc lv (st) M uc us := by
  intro p e R s m args below meth c A H locs ws ls C hP hD hS hR hl
  subst hz; exact lv_ldc2 C.1 C.2.1 C.2.2.2.1 (C.2.2.2.2.1 _ (List.mem_cons_of_mem _ hc)) hd (k p e R s m args below meth c A H locs ws ls C hP hD hS hR hl)
theorem v_iload_n {k4 : Fin 4} {x : Int32} (hd : decode (mC μ) pc = .ok (.iload_n k4, 1)) (hk : sw_lk lv (k4 : Nat) = some (.int x)) (k : V l G μ E Z (pc + 1) lv (.int x :: st) M uc us) : V l G μ E Z pc lv (st) M uc us := by
  intro p e R s m args below meth c A H locs ws ls C hP hD hS hR hl
  exact lv_iload_n C.1 C.2.1 hd rfl (sw_at hl hk) (k p e R s m args below meth c A H locs ws ls C hP hD hS hR hl)
theorem v_iload {i : Nat} {x : Int32} (hd : decode (mC μ) pc = .ok (.iload i, 2)) (hk : sw_lk lv i = some (.int x)) (k : V l G μ E Z (pc + 2) lv (.int x :: st) M uc us) : V l G μ E Z pc lv (st) M uc us := by
  intro p e R s m args below meth c A H locs ws ls C hP hD hS hR hl
  exact lv_iload C.1 C.2.1 hd (sw_at hl hk) (k p e R s m args below meth c A H locs ws ls C hP hD hS hR hl)
theorem v_lload_n {k4 : Fin 4} {x : Int64} (hd : decode (mC μ) pc = .ok (.lload_n k4, 1)) (hk : sw_lk lv (k4 : Nat) = some (.long x)) (k : V l G μ E Z (pc + 1) lv (.long x :: st) M uc us) : V l G μ E Z pc lv (st) M uc us := by
  intro p e R s m args below meth c A H locs ws ls C hP hD hS hR hl
  exact lv_lload_n C.1 C.2.1 hd rfl (sw_at hl hk) (k p e R s m args below meth c A H locs ws ls C hP hD hS hR hl)
theorem v_lload {i : Nat} {x : Int64} (hd : decode (mC μ) pc = .ok (.lload i, 2)) (hk : sw_lk lv i = some (.long x)) (k : V l G μ E Z (pc + 2) lv (.long x :: st) M uc us) : V l G μ E Z pc lv (st) M uc us := by
  intro p e R s m args below meth c A H locs ws ls C hP hD hS hR hl
  exact lv_lload C.1 C.2.1 hd (sw_at hl hk) (k p e R s m args below meth c A H locs ws ls C hP hD hS hR hl)
theorem v_aload_n {k4 : Fin 4} {x : Nat} (hd : decode (mC μ) pc = .ok (.aload_n k4, 1)) (hk : sw_lk lv (k4 : Nat) = some (.ref x)) (k : V l G μ E Z (pc + 1) lv (.ref x :: st) M uc us) : V l G μ E Z pc lv (st) M uc us := by
  intro p e R s m args below meth c A H locs ws ls C hP hD hS hR hl
  exact lv_aload_n C.1 C.2.1 hd rfl (sw_at hl hk) (k p e R s m args below meth c A H locs ws ls C hP hD hS hR hl)
theorem v_aload {i : Nat} {x : Nat} (hd : decode (mC μ) pc = .ok (.aload i, 2)) (hk : sw_lk lv i = some (.ref x)) (k : V l G μ E Z (pc + 2) lv (.ref x :: st) M uc us) : V l G μ E Z pc lv (st) M uc us := by
  intro p e R s m args below meth c A H locs ws ls C hP hD hS hR hl
  exact lv_aload C.1 C.2.1 hd (sw_at hl hk) (k p e R s m args below meth c A H locs ws ls C hP hD hS hR hl)
theorem v_aload_nN {k4 : Fin 4} (hd : decode (mC μ) pc = .ok (.aload_n k4, 1)) (hk : sw_lk lv (k4 : Nat) = some .null) (k : V l G μ E Z (pc + 1) lv (.null :: st) M uc us) : V l G μ E Z pc lv (st) M uc us := by
  intro p e R s m args below meth c A H locs ws ls C hP hD hS hR hl
  exact lv_aload_nN C.1 C.2.1 hd rfl (sw_at hl hk) (k p e R s m args below meth c A H locs ws ls C hP hD hS hR hl)
theorem v_aloadN {i : Nat} (hd : decode (mC μ) pc = .ok (.aload i, 2)) (hk : sw_lk lv i = some .null) (k : V l G μ E Z (pc + 2) lv (.null :: st) M uc us) : V l G μ E Z pc lv (st) M uc us := by
  intro p e R s m args below meth c A H locs ws ls C hP hD hS hR hl
  exact lv_aloadN C.1 C.2.1 hd (sw_at hl hk) (k p e R s m args below meth c A H locs ws ls C hP hD hS hR hl)
theorem v_istore_n {k4 : Fin 4} {x : Int32} (hd : decode (mC μ) pc = .ok (.istore_n k4, 1)) (hn : (k4 : Nat) < mL μ) (k : V l G μ E Z (pc + 1) (sw_s1 lv (k4 : Nat) (.int x)) (st) M uc us) : V l G μ E Z pc lv (.int x :: st) M uc us := by
  intro p e R s m args below meth c A H locs ws ls C hP hD hS hR hl
  exact lv_istore_n C.1 C.2.1 hd rfl hl hn rfl (fun ls' hl' => k p e R s m args below meth c A H locs ws ls' C hP hD hS hR hl')
theorem v_istore {i : Nat} {x : Int32} (hd : decode (mC μ) pc = .ok (.istore i, 2)) (hn : i < mL μ) (k : V l G μ E Z (pc + 2) (sw_s1 lv i (.int x)) (st) M uc us) : V l G μ E Z pc lv (.int x :: st) M uc us := by
  intro p e R s m args below meth c A H locs ws ls C hP hD hS hR hl
  exact lv_istore C.1 C.2.1 hd hl hn rfl (fun ls' hl' => k p e R s m args below meth c A H locs ws ls' C hP hD hS hR hl')
theorem v_astore_n {k4 : Fin 4} {x : Nat} (hd : decode (mC μ) pc = .ok (.astore_n k4, 1)) (hn : (k4 : Nat) < mL μ) (k : V l G μ E Z (pc + 1) (sw_s1 lv (k4 : Nat) (.ref x)) (st) M uc us) : V l G μ E Z pc lv (.ref x :: st) M uc us := by
  intro p e R s m args below meth c A H locs ws ls C hP hD hS hR hl
  exact lv_astore_n C.1 C.2.1 hd rfl hl hn rfl (fun ls' hl' => k p e R s m args below meth c A H locs ws ls' C hP hD hS hR hl')
theorem v_astore {i : Nat} {x : Nat} (hd : decode (mC μ) pc = .ok (.astore i, 2)) (hn : i < mL μ) (k : V l G μ E Z (pc + 2) (sw_s1 lv i (.ref x)) (st) M uc us) : V l G μ E Z pc lv (.ref x :: st) M uc us := by
  intro p e R s m args below meth c A H locs ws ls C hP hD hS hR hl
  exact lv_astore C.1 C.2.1 hd hl hn rfl (fun ls' hl' => k p e R s m args below meth c A H locs ws ls' C hP hD hS hR hl')
theorem v_lstore_n {k4 : Fin 4} {x : Int64} (hd : decode (mC μ) pc = .ok (.lstore_n k4, 1)) (hn : (k4 : Nat) + 1 < mL μ) (k : V l G μ E Z (pc + 1) (sw_s2 lv (k4 : Nat) (.long x)) (st) M uc us) : V l G μ E Z pc lv (.long x :: st) M uc us := by
  intro p e R s m args below meth c A H locs ws ls C hP hD hS hR hl
  exact lv_lstore_n C.1 C.2.1 hd rfl hl hn rfl (fun ls' hl' => k p e R s m args below meth c A H locs ws ls' C hP hD hS hR hl')
theorem v_lstore {i : Nat} {x : Int64} (hd : decode (mC μ) pc = .ok (.lstore i, 2)) (hn : i + 1 < mL μ) (k : V l G μ E Z (pc + 2) (sw_s2 lv i (.long x)) (st) M uc us) : V l G μ E Z pc lv (.long x :: st) M uc us := by
  intro p e R s m args below meth c A H locs ws ls C hP hD hS hR hl
  exact lv_lstore C.1 C.2.1 hd hl hn rfl (fun ls' hl' => k p e R s m args below meth c A H locs ws ls' C hP hD hS hR hl')
theorem v_astore_nN {k4 : Fin 4} (hd : decode (mC μ) pc = .ok (.astore_n k4, 1)) (hn : (k4 : Nat) < mL μ) (k : V l G μ E Z (pc + 1) (sw_s1 lv (k4 : Nat) .null) (st) M uc us) : V l G μ E Z pc lv (.null :: st) M uc us := by
  intro p e R s m args below meth c A H locs ws ls C hP hD hS hR hl
  exact lv_astore_nN C.1 C.2.1 hd rfl hl hn rfl (fun ls' hl' => k p e R s m args below meth c A H locs ws ls' C hP hD hS hR hl')
theorem v_astoreN {i : Nat} (hd : decode (mC μ) pc = .ok (.astore i, 2)) (hn : i < mL μ) (k : V l G μ E Z (pc + 2) (sw_s1 lv i .null) (st) M uc us) : V l G μ E Z pc lv (.null :: st) M uc us := by
  intro p e R s m args below meth c A H locs ws ls C hP hD hS hR hl
  exact lv_astoreN C.1 C.2.1 hd hl hn rfl (fun ls' hl' => k p e R s m args below meth c A H locs ws ls' C hP hD hS hR hl')
theorem v_iinc {i : Nat} {n z : Int} (hd : decode (mC μ) pc = .ok (.iinc i n, 3)) (hk : sw_lk lv i = some (sw_i z)) (hn : i < mL μ) (k : V l G μ E Z (pc + 3) (sw_s1 lv i (sw_i (z + n))) st M uc us) : V l G μ E Z pc lv (st) M uc us := by
  intro p e R s m args below meth c A H locs ws ls C hP hD hS hR hl
  obtain ⟨q, hq⟩ := List.getElem?_of_mem (sw_lk_in hk)
  exact lv_iinc C.1 C.2.1 hd hl hq (iN_add z n) hn rfl (fun ls' hl' => k p e R s m args below meth c A H locs ws ls' C hP hD hS hR hl')
theorem v_dup {v : Value} (hd : decode (mC μ) pc = .ok (.dup, 1)) (hc : v.category = 1) (k : V l G μ E Z (pc + 1) lv (v :: v :: st) M uc us) : V l G μ E Z pc lv (v :: st) M uc us := by
  intro p e R s m args below meth c A H locs ws ls C hP hD hS hR hl
  exact lv_dup C.1 C.2.1 hd hc (k p e R s m args below meth c A H locs ws ls C hP hD hS hR hl)
theorem v_dup2 {v w : Value} (hd : decode (mC μ) pc = .ok (.dup2, 1)) (hc : v.category = 1) (hc2 : w.category = 1) (k : V l G μ E Z (pc + 1) lv (v :: w :: v :: w :: st) M uc us) : V l G μ E Z pc lv (v :: w :: st) M uc us := by
  intro p e R s m args below meth c A H locs ws ls C hP hD hS hR hl
  exact lv_dup2_11 C.1 C.2.1 hd hc hc2 (k p e R s m args below meth c A H locs ws ls C hP hD hS hR hl)
theorem v_pop {v : Value} (hd : decode (mC μ) pc = .ok (.pop, 1)) (hc : v.category = 1) (k : V l G μ E Z (pc + 1) lv (st) M uc us) : V l G μ E Z pc lv (v :: st) M uc us := by
  intro p e R s m args below meth c A H locs ws ls C hP hD hS hR hl
  exact lv_pop C.1 C.2.1 hd hc (k p e R s m args below meth c A H locs ws ls C hP hD hS hR hl)
theorem v_iadd {a b : Int} (hd : decode (mC μ) pc = .ok (.iadd, 1)) (k : V l G μ E Z (pc + 1) lv (sw_i (a + b) :: st) M uc us) : V l G μ E Z pc lv (sw_i b :: sw_i a :: st) M uc us := by
  intro p e R s m args below meth c A H locs ws ls C hP hD hS hR hl
  refine lv_iadd C.1 C.2.1 hd ?_
  rw [iN_add]
  exact k p e R s m args below meth c A H locs ws ls C hP hD hS hR hl
theorem v_isub {a b : Int} (hd : decode (mC μ) pc = .ok (.isub, 1)) (k : V l G μ E Z (pc + 1) lv (sw_i (a - b) :: st) M uc us) : V l G μ E Z pc lv (sw_i b :: sw_i a :: st) M uc us := by
  intro p e R s m args below meth c A H locs ws ls C hP hD hS hR hl
  refine lv_isub C.1 C.2.1 hd ?_
  rw [iN_sub]
  exact k p e R s m args below meth c A H locs ws ls C hP hD hS hR hl
theorem v_imul {a b : Int} (hd : decode (mC μ) pc = .ok (.imul, 1)) (k : V l G μ E Z (pc + 1) lv (sw_i (a * b) :: st) M uc us) : V l G μ E Z pc lv (sw_i b :: sw_i a :: st) M uc us := by
  intro p e R s m args below meth c A H locs ws ls C hP hD hS hR hl
  refine lv_imul C.1 C.2.1 hd ?_
  rw [iN_mul]
  exact k p e R s m args below meth c A H locs ws ls C hP hD hS hR hl
theorem v_ladd {a b : Int} (hd : decode (mC μ) pc = .ok (.ladd, 1)) (k : V l G μ E Z (pc + 1) lv (sw_j (a + b) :: st) M uc us) : V l G μ E Z pc lv (sw_j b :: sw_j a :: st) M uc us := by
  intro p e R s m args below meth c A H locs ws ls C hP hD hS hR hl
  refine lv_ladd C.1 C.2.1 hd ?_
  rw [jN_add]
  exact k p e R s m args below meth c A H locs ws ls C hP hD hS hR hl
theorem v_lsub {a b : Int} (hd : decode (mC μ) pc = .ok (.lsub, 1)) (k : V l G μ E Z (pc + 1) lv (sw_j (a - b) :: st) M uc us) : V l G μ E Z pc lv (sw_j b :: sw_j a :: st) M uc us := by
  intro p e R s m args below meth c A H locs ws ls C hP hD hS hR hl
  refine lv_lsub C.1 C.2.1 hd ?_
  rw [jN_sub]
  exact k p e R s m args below meth c A H locs ws ls C hP hD hS hR hl
theorem v_lmul {a b : Int} (hd : decode (mC μ) pc = .ok (.lmul, 1)) (k : V l G μ E Z (pc + 1) lv (sw_j (a * b) :: st) M uc us) : V l G μ E Z pc lv (sw_j b :: sw_j a :: st) M uc us := by
  intro p e R s m args below meth c A H locs ws ls C hP hD hS hR hl
  refine lv_lmul C.1 C.2.1 hd ?_
  rw [jN_mul]
  exact k p e R s m args below meth c A H locs ws ls C hP hD hS hR hl
theorem v_lneg {a : Int} (hd : decode (mC μ) pc = .ok (.lneg, 1)) (k : V l G μ E Z (pc + 1) lv (sw_j (-a) :: st) M uc us) : V l G μ E Z pc lv (sw_j a :: st) M uc us := by
  intro p e R s m args below meth c A H locs ws ls C hP hD hS hR hl
  refine lv_lneg C.1 C.2.1 hd ?_
  rw [jN_neg]
  exact k p e R s m args below meth c A H locs ws ls C hP hD hS hR hl
theorem v_idiv {a b : Int} (hd : decode (mC μ) pc = .ok (.idiv, 1)) (ha : sw_rg a) (h0 : 0 ≤ a) (hb : sw_rg b) (h1 : 0 < b) (k : V l G μ E Z (pc + 1) lv (sw_i (a / b) :: st) M uc us) : V l G μ E Z pc lv (sw_i b :: sw_i a :: st) M uc us := by
  intro p e R s m args below meth c A H locs ws ls C hP hD hS hR hl
  refine lv_idiv C.1 C.2.1 hd (fun h => ?_) ?_
  · rw [iN_0, iN_eq hb ⟨by omega, by omega⟩] at h
    omega
  · rw [iN_dv ha h0 hb h1]
    exact k p e R s m args below meth c A H locs ws ls C hP hD hS hR hl
theorem v_irem {a b : Int} (hd : decode (mC μ) pc = .ok (.irem, 1)) (ha : sw_rg a) (h0 : 0 ≤ a) (hb : sw_rg b) (h1 : 0 < b) (k : V l G μ E Z (pc + 1) lv (sw_i (a % b) :: st) M uc us) : V l G μ E Z pc lv (sw_i b :: sw_i a :: st) M uc us := by
  intro p e R s m args below meth c A H locs ws ls C hP hD hS hR hl
  refine lv_irem C.1 C.2.1 hd (fun h => ?_) ?_
  · rw [iN_0, iN_eq hb ⟨by omega, by omega⟩] at h
    omega
  · rw [iN_rm ha h0 hb h1]
    exact k p e R s m args below meth c A H locs ws ls C hP hD hS hR hl
theorem v_ldiv {a b : Int} (hd : decode (mC μ) pc = .ok (.ldiv, 1)) (ha : sw_rl a) (hb : sw_rl b) (h1 : b ≠ 0) (k : V l G μ E Z (pc + 1) lv (sw_j (a.tdiv b) :: st) M uc us) : V l G μ E Z pc lv (sw_j b :: sw_j a :: st) M uc us := by
  intro p e R s m args below meth c A H locs ws ls C hP hD hS hR hl
  refine lv_ldiv C.1 C.2.1 hd (fun h => ?_) ?_
  · rw [show (0 : Int64) = jN 0 from rfl, jN_eq hb ⟨by omega, by omega⟩] at h
    exact h1 h
  · rw [jN_dv ha hb]
    exact k p e R s m args below meth c A H locs ws ls C hP hD hS hR hl
theorem v_lrem {a b : Int} (hd : decode (mC μ) pc = .ok (.lrem, 1)) (ha : sw_rl a) (hb : sw_rl b) (h1 : b ≠ 0) (k : V l G μ E Z (pc + 1) lv (sw_j (a.tmod b) :: st) M uc us) : V l G μ E Z pc lv (sw_j b :: sw_j a :: st) M uc us := by
  intro p e R s m args below meth c A H locs ws ls C hP hD hS hR hl
  refine lv_lrem C.1 C.2.1 hd (fun h => ?_) ?_
  · rw [show (0 : Int64) = jN 0 from rfl, jN_eq hb ⟨by omega, by omega⟩] at h
    exact h1 h
  · rw [jN_rm ha hb]
    exact k p e R s m args below meth c A H locs ws ls C hP hD hS hR hl
theorem v_i2l {a : Int} (hd : decode (mC μ) pc = .ok (.i2l, 1)) (ha : sw_rg a) (k : V l G μ E Z (pc + 1) lv (sw_j a :: st) M uc us) : V l G μ E Z pc lv (sw_i a :: st) M uc us := by
  intro p e R s m args below meth c A H locs ws ls C hP hD hS hR hl
  exact lv_i2l C.1 C.2.1 hd (jN_l ha) (k p e R s m args below meth c A H locs ws ls C hP hD hS hR hl)
theorem v_l2i {a : Int} (hd : decode (mC μ) pc = .ok (.l2i, 1)) (k : V l G μ E Z (pc + 1) lv (sw_i a :: st) M uc us) : V l G μ E Z pc lv (sw_j a :: st) M uc us := by
  intro p e R s m args below meth c A H locs ws ls C hP hD hS hR hl
  exact lv_l2i C.1 C.2.1 hd (jN_i a) (k p e R s m args below meth c A H locs ws ls C hP hD hS hR hl)
theorem v_iand {x y : Int32} {z : Int} (hd : decode (mC μ) pc = .ok (.iand, 1)) (hz : x &&& y = iN z) (k : V l G μ E Z (pc + 1) lv (sw_i z :: st) M uc us) : V l G μ E Z pc lv (.int y :: .int x :: st) M uc us := by
  intro p e R s m args below meth c A H locs ws ls C hP hD hS hR hl
  refine lv_iand C.1 C.2.1 hd ?_
  rw [hz]
  exact k p e R s m args below meth c A H locs ws ls C hP hD hS hR hl
theorem v_ixor {x y : Int32} {z : Int} (hd : decode (mC μ) pc = .ok (.ixor, 1)) (hz : x ^^^ y = iN z) (k : V l G μ E Z (pc + 1) lv (sw_i z :: st) M uc us) : V l G μ E Z pc lv (.int y :: .int x :: st) M uc us := by
  intro p e R s m args below meth c A H locs ws ls C hP hD hS hR hl
  refine lv_ixor C.1 C.2.1 hd ?_
  rw [hz]
  exact k p e R s m args below meth c A H locs ws ls C hP hD hS hR hl
theorem v_ishl {x y : Int32} {z : Int} (hd : decode (mC μ) pc = .ok (.ishl, 1)) (hz : x <<< (y &&& 31) = iN z) (k : V l G μ E Z (pc + 1) lv (sw_i z :: st) M uc us) : V l G μ E Z pc lv (.int y :: .int x :: st) M uc us := by
  intro p e R s m args below meth c A H locs ws ls C hP hD hS hR hl
  refine lv_ishl C.1 C.2.1 hd ?_
  rw [hz]
  exact k p e R s m args below meth c A H locs ws ls C hP hD hS hR hl
theorem v_ishr {x y : Int32} {z : Int} (hd : decode (mC μ) pc = .ok (.ishr, 1)) (hz : x >>> (y &&& 31) = iN z) (k : V l G μ E Z (pc + 1) lv (sw_i z :: st) M uc us) : V l G μ E Z pc lv (.int y :: .int x :: st) M uc us := by
  intro p e R s m args below meth c A H locs ws ls C hP hD hS hR hl
  refine lv_ishr C.1 C.2.1 hd ?_
  rw [hz]
  exact k p e R s m args below meth c A H locs ws ls C hP hD hS hR hl
theorem v_iushr {x y : Int32} {z : Int} (hd : decode (mC μ) pc = .ok (.iushr, 1)) (hz : (x.toUInt32 >>> (y.toUInt32 &&& Int32.toUInt32 31)).toInt32 = iN z) (k : V l G μ E Z (pc + 1) lv (sw_i z :: st) M uc us) : V l G μ E Z pc lv (.int y :: .int x :: st) M uc us := by
  intro p e R s m args below meth c A H locs ws ls C hP hD hS hR hl
  exact lv_iushr C.1 C.2.1 hd hz (k p e R s m args below meth c A H locs ws ls C hP hD hS hR hl)
theorem v_lushr {x : Int64} {y : Int32} {z : Int} (hd : decode (mC μ) pc = .ok (.lushr, 1)) (hz : (x.toUInt64 >>> (y.toInt64.toUInt64 &&& Int64.toUInt64 63)).toInt64 = jN z) (k : V l G μ E Z (pc + 1) lv (sw_j z :: st) M uc us) : V l G μ E Z pc lv (.int y :: .long x :: st) M uc us := by
  intro p e R s m args below meth c A H locs ws ls C hP hD hS hR hl
  exact lv_lushr C.1 C.2.1 hd hz (k p e R s m args below meth c A H locs ws ls C hP hD hS hR hl)
theorem v_lshl {x : Int64} {y : Int32} {z : Int} (hd : decode (mC μ) pc = .ok (.lshl, 1)) (hz : x <<< (y.toInt64 &&& 63) = jN z) (k : V l G μ E Z (pc + 1) lv (sw_j z :: st) M uc us) : V l G μ E Z pc lv (.int y :: .long x :: st) M uc us := by
  intro p e R s m args below meth c A H locs ws ls C hP hD hS hR hl
  exact lv_lshl C.1 C.2.1 hd hz (k p e R s m args below meth c A H locs ws ls C hP hD hS hR hl)
theorem v_land {x y : Int64} {z : Int} (hd : decode (mC μ) pc = .ok (.land, 1)) (hz : x &&& y = jN z) (k : V l G μ E Z (pc + 1) lv (sw_j z :: st) M uc us) : V l G μ E Z pc lv (.long y :: .long x :: st) M uc us := by
  intro p e R s m args below meth c A H locs ws ls C hP hD hS hR hl
  refine lv_land C.1 C.2.1 hd ?_
  rw [hz]
  exact k p e R s m args below meth c A H locs ws ls C hP hD hS hR hl
theorem v_lor {x y : Int64} {z : Int} (hd : decode (mC μ) pc = .ok (.lor, 1)) (hz : x ||| y = jN z) (k : V l G μ E Z (pc + 1) lv (sw_j z :: st) M uc us) : V l G μ E Z pc lv (.long y :: .long x :: st) M uc us := by
  intro p e R s m args below meth c A H locs ws ls C hP hD hS hR hl
  refine lv_lor C.1 C.2.1 hd ?_
  rw [hz]
  exact k p e R s m args below meth c A H locs ws ls C hP hD hS hR hl
theorem v_icmp_lt {a b off : Int} {tgt : Nat} (hd : decode (mC μ) pc = .ok (.if_icmp .lt off, 3)) (ht : (pc : Int) + off = (tgt : Int)) (ha : sw_rg a) (hb : sw_rg b) (kt : a < b → V l G μ E Z (tgt) lv (st) M uc us) (kf : ¬ a < b → V l G μ E Z (pc + 3) lv (st) M uc us) : V l G μ E Z pc lv (sw_i b :: sw_i a :: st) M uc us := by
  intro p e R s m args below meth c A H locs ws ls C hP hD hS hR hl
  exact lv_icmp_lt C.1 C.2.1 hd ht (fun h => kt ((iN_lt ha hb).mp h) p e R s m args below meth c A H locs ws ls C hP hD hS hR hl) (fun h => kf (mt ((iN_lt ha hb).mpr) h) p e R s m args below meth c A H locs ws ls C hP hD hS hR hl)
theorem v_icmp_ge {a b off : Int} {tgt : Nat} (hd : decode (mC μ) pc = .ok (.if_icmp .ge off, 3)) (ht : (pc : Int) + off = (tgt : Int)) (ha : sw_rg a) (hb : sw_rg b) (kt : b ≤ a → V l G μ E Z (tgt) lv (st) M uc us) (kf : ¬ b ≤ a → V l G μ E Z (pc + 3) lv (st) M uc us) : V l G μ E Z pc lv (sw_i b :: sw_i a :: st) M uc us := by
  intro p e R s m args below meth c A H locs ws ls C hP hD hS hR hl
  exact lv_icmp_ge C.1 C.2.1 hd ht (fun h => kt ((iN_le hb ha).mp h) p e R s m args below meth c A H locs ws ls C hP hD hS hR hl) (fun h => kf (mt ((iN_le hb ha).mpr) h) p e R s m args below meth c A H locs ws ls C hP hD hS hR hl)
theorem v_icmp_gt {a b off : Int} {tgt : Nat} (hd : decode (mC μ) pc = .ok (.if_icmp .gt off, 3)) (ht : (pc : Int) + off = (tgt : Int)) (ha : sw_rg a) (hb : sw_rg b) (kt : b < a → V l G μ E Z (tgt) lv (st) M uc us) (kf : ¬ b < a → V l G μ E Z (pc + 3) lv (st) M uc us) : V l G μ E Z pc lv (sw_i b :: sw_i a :: st) M uc us := by
  intro p e R s m args below meth c A H locs ws ls C hP hD hS hR hl
  exact lv_icmp_gt C.1 C.2.1 hd ht (fun h => kt ((iN_lt hb ha).mp h) p e R s m args below meth c A H locs ws ls C hP hD hS hR hl) (fun h => kf (mt ((iN_lt hb ha).mpr) h) p e R s m args below meth c A H locs ws ls C hP hD hS hR hl)
theorem v_icmp_le {a b off : Int} {tgt : Nat} (hd : decode (mC μ) pc = .ok (.if_icmp .le off, 3)) (ht : (pc : Int) + off = (tgt : Int)) (ha : sw_rg a) (hb : sw_rg b) (kt : a ≤ b → V l G μ E Z (tgt) lv (st) M uc us) (kf : ¬ a ≤ b → V l G μ E Z (pc + 3) lv (st) M uc us) : V l G μ E Z pc lv (sw_i b :: sw_i a :: st) M uc us := by
  intro p e R s m args below meth c A H locs ws ls C hP hD hS hR hl
  exact lv_icmp_le C.1 C.2.1 hd ht (fun h => kt ((iN_le ha hb).mp h) p e R s m args below meth c A H locs ws ls C hP hD hS hR hl) (fun h => kf (mt ((iN_le ha hb).mpr) h) p e R s m args below meth c A H locs ws ls C hP hD hS hR hl)
theorem v_icmp_eq {a b off : Int} {tgt : Nat} (hd : decode (mC μ) pc = .ok (.if_icmp .eq off, 3)) (ht : (pc : Int) + off = (tgt : Int)) (ha : sw_rg a) (hb : sw_rg b) (kt : a = b → V l G μ E Z (tgt) lv (st) M uc us) (kf : ¬ a = b → V l G μ E Z (pc + 3) lv (st) M uc us) : V l G μ E Z pc lv (sw_i b :: sw_i a :: st) M uc us := by
  intro p e R s m args below meth c A H locs ws ls C hP hD hS hR hl
  exact lv_icmp_eq C.1 C.2.1 hd ht (fun h => kt ((iN_eq ha hb).mp h) p e R s m args below meth c A H locs ws ls C hP hD hS hR hl) (fun h => kf (mt ((iN_eq ha hb).mpr) h) p e R s m args below meth c A H locs ws ls C hP hD hS hR hl)
theorem v_icmp_ne {a b off : Int} {tgt : Nat} (hd : decode (mC μ) pc = .ok (.if_icmp .ne off, 3)) (ht : (pc : Int) + off = (tgt : Int)) (ha : sw_rg a) (hb : sw_rg b) (kt : ¬ a = b → V l G μ E Z (tgt) lv (st) M uc us) (kf : a = b → V l G μ E Z (pc + 3) lv (st) M uc us) : V l G μ E Z pc lv (sw_i b :: sw_i a :: st) M uc us := by
  intro p e R s m args below meth c A H locs ws ls C hP hD hS hR hl
  exact lv_icmp_ne C.1 C.2.1 hd ht (fun h => kt (mt ((iN_eq ha hb).mpr) h) p e R s m args below meth c A H locs ws ls C hP hD hS hR hl) (fun h => kf ((iN_eq ha hb).mp h) p e R s m args below meth c A H locs ws ls C hP hD hS hR hl)
theorem v_if_lt {a off : Int} {tgt : Nat} (hd : decode (mC μ) pc = .ok (.ifCond .lt off, 3)) (ht : (pc : Int) + off = (tgt : Int)) (ha : sw_rg a) (kt : a < 0 → V l G μ E Z (tgt) lv (st) M uc us) (kf : ¬ a < 0 → V l G μ E Z (pc + 3) lv (st) M uc us) : V l G μ E Z pc lv (sw_i a :: st) M uc us := by
  intro p e R s m args below meth c A H locs ws ls C hP hD hS hR hl
  have h0 : sw_rg 0 := ⟨by omega, by omega⟩
  exact lv_if_lt C.1 C.2.1 hd ht (fun h => kt ((iN_lt ha h0).mp h) p e R s m args below meth c A H locs ws ls C hP hD hS hR hl) (fun h => kf (mt ((iN_lt ha h0).mpr) h) p e R s m args below meth c A H locs ws ls C hP hD hS hR hl)
theorem v_if_ge {a off : Int} {tgt : Nat} (hd : decode (mC μ) pc = .ok (.ifCond .ge off, 3)) (ht : (pc : Int) + off = (tgt : Int)) (ha : sw_rg a) (kt : 0 ≤ a → V l G μ E Z (tgt) lv (st) M uc us) (kf : ¬ 0 ≤ a → V l G μ E Z (pc + 3) lv (st) M uc us) : V l G μ E Z pc lv (sw_i a :: st) M uc us := by
  intro p e R s m args below meth c A H locs ws ls C hP hD hS hR hl
  have h0 : sw_rg 0 := ⟨by omega, by omega⟩
  exact lv_if_ge C.1 C.2.1 hd ht (fun h => kt ((iN_le h0 ha).mp h) p e R s m args below meth c A H locs ws ls C hP hD hS hR hl) (fun h => kf (mt ((iN_le h0 ha).mpr) h) p e R s m args below meth c A H locs ws ls C hP hD hS hR hl)
theorem v_if_gt {a off : Int} {tgt : Nat} (hd : decode (mC μ) pc = .ok (.ifCond .gt off, 3)) (ht : (pc : Int) + off = (tgt : Int)) (ha : sw_rg a) (kt : 0 < a → V l G μ E Z (tgt) lv (st) M uc us) (kf : ¬ 0 < a → V l G μ E Z (pc + 3) lv (st) M uc us) : V l G μ E Z pc lv (sw_i a :: st) M uc us := by
  intro p e R s m args below meth c A H locs ws ls C hP hD hS hR hl
  have h0 : sw_rg 0 := ⟨by omega, by omega⟩
  exact lv_if_gt C.1 C.2.1 hd ht (fun h => kt ((iN_lt h0 ha).mp h) p e R s m args below meth c A H locs ws ls C hP hD hS hR hl) (fun h => kf (mt ((iN_lt h0 ha).mpr) h) p e R s m args below meth c A H locs ws ls C hP hD hS hR hl)
theorem v_if_le {a off : Int} {tgt : Nat} (hd : decode (mC μ) pc = .ok (.ifCond .le off, 3)) (ht : (pc : Int) + off = (tgt : Int)) (ha : sw_rg a) (kt : a ≤ 0 → V l G μ E Z (tgt) lv (st) M uc us) (kf : ¬ a ≤ 0 → V l G μ E Z (pc + 3) lv (st) M uc us) : V l G μ E Z pc lv (sw_i a :: st) M uc us := by
  intro p e R s m args below meth c A H locs ws ls C hP hD hS hR hl
  have h0 : sw_rg 0 := ⟨by omega, by omega⟩
  exact lv_if_le C.1 C.2.1 hd ht (fun h => kt ((iN_le ha h0).mp h) p e R s m args below meth c A H locs ws ls C hP hD hS hR hl) (fun h => kf (mt ((iN_le ha h0).mpr) h) p e R s m args below meth c A H locs ws ls C hP hD hS hR hl)
theorem v_if_eq {a off : Int} {tgt : Nat} (hd : decode (mC μ) pc = .ok (.ifCond .eq off, 3)) (ht : (pc : Int) + off = (tgt : Int)) (ha : sw_rg a) (kt : a = 0 → V l G μ E Z (tgt) lv (st) M uc us) (kf : ¬ a = 0 → V l G μ E Z (pc + 3) lv (st) M uc us) : V l G μ E Z pc lv (sw_i a :: st) M uc us := by
  intro p e R s m args below meth c A H locs ws ls C hP hD hS hR hl
  have h0 : sw_rg 0 := ⟨by omega, by omega⟩
  exact lv_if_eq C.1 C.2.1 hd ht (fun h => kt ((iN_eq ha h0).mp h) p e R s m args below meth c A H locs ws ls C hP hD hS hR hl) (fun h => kf (mt ((iN_eq ha h0).mpr) h) p e R s m args below meth c A H locs ws ls C hP hD hS hR hl)
theorem v_if_ne {a off : Int} {tgt : Nat} (hd : decode (mC μ) pc = .ok (.ifCond .ne off, 3)) (ht : (pc : Int) + off = (tgt : Int)) (ha : sw_rg a) (kt : ¬ a = 0 → V l G μ E Z (tgt) lv (st) M uc us) (kf : a = 0 → V l G μ E Z (pc + 3) lv (st) M uc us) : V l G μ E Z pc lv (sw_i a :: st) M uc us := by
  intro p e R s m args below meth c A H locs ws ls C hP hD hS hR hl
  have h0 : sw_rg 0 := ⟨by omega, by omega⟩
  exact lv_if_ne C.1 C.2.1 hd ht (fun h => kt (mt ((iN_eq ha h0).mpr) h) p e R s m args below meth c A H locs ws ls C hP hD hS hR hl) (fun h => kf ((iN_eq ha h0).mp h) p e R s m args below meth c A H locs ws ls C hP hD hS hR hl)
theorem v_lcmp_lt {a b off : Int} {tgt : Nat} (hd : decode (mC μ) pc = .ok (.lcmp, 1)) (hd2 : decode (mC μ) (pc + 1) = .ok (.ifCond .lt off, 3)) (ht : ((pc + 1 : Nat) : Int) + off = (tgt : Int)) (ha : sw_rl a) (hb : sw_rl b) (kt : a < b → V l G μ E Z (tgt) lv (st) M uc us) (kf : ¬ a < b → V l G μ E Z (pc + 4) lv (st) M uc us) : V l G μ E Z pc lv (sw_j b :: sw_j a :: st) M uc us := by
  intro p e R s m args below meth c A H locs ws ls C hP hD hS hR hl
  refine W.lcmp C.1 C.2.1 hd ?_
  exact lv_if_lt C.1 C.2.1 hd2 ht (fun h => kt (((lg_cmp_lt _ _).trans (jN_lt ha hb)).mp h) p e R s m args below meth c A H locs ws ls C hP hD hS hR hl) (fun h => kf (mt (((lg_cmp_lt _ _).trans (jN_lt ha hb)).mpr) h) p e R s m args below meth c A H locs ws ls C hP hD hS hR hl)
theorem v_lcmp_ge {a b off : Int} {tgt : Nat} (hd : decode (mC μ) pc = .ok (.lcmp, 1)) (hd2 : decode (mC μ) (pc + 1) = .ok (.ifCond .ge off, 3)) (ht : ((pc + 1 : Nat) : Int) + off = (tgt : Int)) (ha : sw_rl a) (hb : sw_rl b) (kt : b ≤ a → V l G μ E Z (tgt) lv (st) M uc us) (kf : ¬ b ≤ a → V l G μ E Z (pc + 4) lv (st) M uc us) : V l G μ E Z pc lv (sw_j b :: sw_j a :: st) M uc us := by
  intro p e R s m args below meth c A H locs ws ls C hP hD hS hR hl
  refine W.lcmp C.1 C.2.1 hd ?_
  exact lv_if_ge C.1 C.2.1 hd2 ht (fun h => kt (((lg_cmp_ge _ _).trans (jN_le hb ha)).mp h) p e R s m args below meth c A H locs ws ls C hP hD hS hR hl) (fun h => kf (mt (((lg_cmp_ge _ _).trans (jN_le hb ha)).mpr) h) p e R s m args below meth c A H locs ws ls C hP hD hS hR hl)
theorem v_lcmp_gt {a b off : Int} {tgt : Nat} (hd : decode (mC μ) pc = .ok (.lcmp, 1)) (hd2 : decode (mC μ) (pc + 1) = .ok (.ifCond .gt off, 3)) (ht : ((pc + 1 : Nat) : Int) + off = (tgt : Int)) (ha : sw_rl a) (hb : sw_rl b) (kt : b < a → V l G μ E Z (tgt) lv (st) M uc us) (kf : ¬ b < a → V l G μ E Z (pc + 4) lv (st) M uc us) : V l G μ E Z pc lv (sw_j b :: sw_j a :: st) M uc us := by
  intro p e R s m args below meth c A H locs ws ls C hP hD hS hR hl
  refine W.lcmp C.1 C.2.1 hd ?_
  exact lv_if_gt C.1 C.2.1 hd2 ht (fun h => kt (((lg_cmp_gt _ _).trans (jN_lt hb ha)).mp h) p e R s m args below meth c A H locs ws ls C hP hD hS hR hl) (fun h => kf (mt (((lg_cmp_gt _ _).trans (jN_lt hb ha)).mpr) h) p e R s m args below meth c A H locs ws ls C hP hD hS hR hl)
theorem v_lcmp_le {a b off : Int} {tgt : Nat} (hd : decode (mC μ) pc = .ok (.lcmp, 1)) (hd2 : decode (mC μ) (pc + 1) = .ok (.ifCond .le off, 3)) (ht : ((pc + 1 : Nat) : Int) + off = (tgt : Int)) (ha : sw_rl a) (hb : sw_rl b) (kt : a ≤ b → V l G μ E Z (tgt) lv (st) M uc us) (kf : ¬ a ≤ b → V l G μ E Z (pc + 4) lv (st) M uc us) : V l G μ E Z pc lv (sw_j b :: sw_j a :: st) M uc us := by
  intro p e R s m args below meth c A H locs ws ls C hP hD hS hR hl
  refine W.lcmp C.1 C.2.1 hd ?_
  exact lv_if_le C.1 C.2.1 hd2 ht (fun h => kt (((lg_cmp_le _ _).trans (jN_le ha hb)).mp h) p e R s m args below meth c A H locs ws ls C hP hD hS hR hl) (fun h => kf (mt (((lg_cmp_le _ _).trans (jN_le ha hb)).mpr) h) p e R s m args below meth c A H locs ws ls C hP hD hS hR hl)
theorem v_lcmp_eq {a b off : Int} {tgt : Nat} (hd : decode (mC μ) pc = .ok (.lcmp, 1)) (hd2 : decode (mC μ) (pc + 1) = .ok (.ifCond .eq off, 3)) (ht : ((pc + 1 : Nat) : Int) + off = (tgt : Int)) (ha : sw_rl a) (hb : sw_rl b) (kt : a = b → V l G μ E Z (tgt) lv (st) M uc us) (kf : ¬ a = b → V l G μ E Z (pc + 4) lv (st) M uc us) : V l G μ E Z pc lv (sw_j b :: sw_j a :: st) M uc us := by
  intro p e R s m args below meth c A H locs ws ls C hP hD hS hR hl
  refine W.lcmp C.1 C.2.1 hd ?_
  exact lv_if_eq C.1 C.2.1 hd2 ht (fun h => kt (((lg_cmp_eq _ _).trans (jN_eq ha hb)).mp h) p e R s m args below meth c A H locs ws ls C hP hD hS hR hl) (fun h => kf (mt (((lg_cmp_eq _ _).trans (jN_eq ha hb)).mpr) h) p e R s m args below meth c A H locs ws ls C hP hD hS hR hl)
theorem v_lcmp_ne {a b off : Int} {tgt : Nat} (hd : decode (mC μ) pc = .ok (.lcmp, 1)) (hd2 : decode (mC μ) (pc + 1) = .ok (.ifCond .ne off, 3)) (ht : ((pc + 1 : Nat) : Int) + off = (tgt : Int)) (ha : sw_rl a) (hb : sw_rl b) (kt : ¬ a = b → V l G μ E Z (tgt) lv (st) M uc us) (kf : a = b → V l G μ E Z (pc + 4) lv (st) M uc us) : V l G μ E Z pc lv (sw_j b :: sw_j a :: st) M uc us := by
  intro p e R s m args below meth c A H locs ws ls C hP hD hS hR hl
  refine W.lcmp C.1 C.2.1 hd ?_
  exact lv_if_ne C.1 C.2.1 hd2 ht (fun h => kt (mt (((lg_cmp_eq _ _).trans (jN_eq ha hb)).mpr) h) p e R s m args below meth c A H locs ws ls C hP hD hS hR hl) (fun h => kf (((lg_cmp_eq _ _).trans (jN_eq ha hb)).mp h) p e R s m args below meth c A H locs ws ls C hP hD hS hR hl)
theorem v_goto {off : Int} {tgt : Nat} (hd : decode (mC μ) pc = .ok (.goto off, 3)) (ht : (pc : Int) + off = (tgt : Int)) (k : V l G μ E Z (tgt) lv (st) M uc us) : V l G μ E Z pc lv (st) M uc us := by
  intro p e R s m args below meth c A H locs ws ls C hP hD hS hR hl
  exact lv_goto C.1 C.2.1 hd ht (k p e R s m args below meth c A H locs ws ls C hP hD hS hR hl)
theorem v_ifnull {x : Nat} {off : Int} (hd : decode (mC μ) pc = .ok (.ifnull off, 3)) (k : V l G μ E Z (pc + 3) lv (st) M uc us) : V l G μ E Z pc lv (.ref x :: st) M uc us := by
  intro p e R s m args below meth c A H locs ws ls C hP hD hS hR hl
  exact lv_ifnull C.1 C.2.1 hd (k p e R s m args below meth c A H locs ws ls C hP hD hS hR hl)
theorem v_ifnullN {off : Int} {tgt : Nat} (hd : decode (mC μ) pc = .ok (.ifnull off, 3)) (ht : (pc : Int) + off = (tgt : Int)) (k : V l G μ E Z (tgt) lv (st) M uc us) : V l G μ E Z pc lv (.null :: st) M uc us := by
  intro p e R s m args below meth c A H locs ws ls C hP hD hS hR hl
  exact lv_ifnullN C.1 C.2.1 hd ht (k p e R s m args below meth c A H locs ws ls C hP hD hS hR hl)
theorem v_ifnonnull {x : Nat} {off : Int} {tgt : Nat} (hd : decode (mC μ) pc = .ok (.ifnonnull off, 3)) (ht : (pc : Int) + off = (tgt : Int)) (k : V l G μ E Z (tgt) lv (st) M uc us) : V l G μ E Z pc lv (.ref x :: st) M uc us := by
  intro p e R s m args below meth c A H locs ws ls C hP hD hS hR hl
  exact lv_ifnonnull C.1 C.2.1 hd ht (k p e R s m args below meth c A H locs ws ls C hP hD hS hR hl)
theorem v_ifnonnullN {off : Int} (hd : decode (mC μ) pc = .ok (.ifnonnull off, 3)) (k : V l G μ E Z (pc + 3) lv (st) M uc us) : V l G μ E Z pc lv (.null :: st) M uc us := by
  intro p e R s m args below meth c A H locs ws ls C hP hD hS hR hl
  exact lv_ifnonnullN C.1 C.2.1 hd (k p e R s m args below meth c A H locs ws ls C hP hD hS hR hl)
/-- fewer locals, another memory that is the same -/
theorem v_sub {lv' : List (Nat × Value)} (hs : ∀ q ∈ lv', sw_lk lv q.1 = some q.2) (k : V l G μ E Z pc lv' st M uc us) : V l G μ E Z pc lv (st) M uc us := by
  intro p e R s m args below meth c A H locs ws ls C hP hD hS hR hl
  exact k p e R s m args below meth c A H locs ws ls C hP hD hS hR (sw_lsub hl hs)
theorem v_mem {M' : sw_M} (hM : M = M') (k : V l G μ E Z pc lv st M' uc us) : V l G μ E Z pc lv (st) M uc us := hM ▸ k
theorem v_room {uc' us' : Nat} (h1 : uc ≤ uc') (h2 : us ≤ us') (k : V l G μ E Z pc lv st M uc' us') : V l G μ E Z pc lv (st) M uc us := by
  intro p e R s m args below meth c A H locs ws ls C hP hD hS hR hl
  exact W.widen h1 h2 (k p e R s m args below meth c A H locs ws ls C hP hD hS hR hl)
end SWV
section SWR
variable {l : Launch} {G G0 : sw_G} {μ : sw_Mt} {E : State → (Nat → Prop) → Prop} {pc : Nat} {lv : List (Nat × Value)} {M : sw_M} {uc us : Nat} {QA : (Nat → Nat) → Option Value → sw_M → Prop} {Q : Option Value → sw_M → Prop}
theorem va_iretA (hG : G = sw_Gw G0 G.2.2.2) {x : Int32} (hd : decode (mC μ) pc = .ok (.ireturn, 1)) (hr : mR μ = some .int) (hu : uc ≤ mK μ) (hv : us ≤ mS μ) (hq : QA G.2.2.2 (some (.int x)) M) : V l G μ E (sw_Zq G0 μ QA) pc lv ([.int x]) M uc us := by
  intro p e R s m args below meth c A H locs ws ls C hP hD hS hR hl
  refine W.widen hu hv ?_
  have hKm : ∀ t : State, s.WarmedH t.vm → sw_K G0 t := fun t hW => by
    have h := sw_K.moved hW C.2.2.2.2.2.1
    rw [hG] at h
    exact h
  have hP0 : va_P (sw_D G0) vwCl ws H := by
    have h := hP
    rw [hG] at h
    exact h
  have hR0 : sw_Rep (sw_Gw G0 G.2.2.2) M ws := by rw [← hG]; exact hR
  exact W.iret (v := x) C.1 C.2.1 (C.2.2.2.2.2.2.2.2.2.2.2.1.trans hr) (fun t ht hW => ⟨⟨_, _, M, ws, rfl, hq, hR0, by rw [ht]; exact hP0, hKm t hW, hD⟩, hS.F ht⟩) hS.2.2 hd C.2.2.2.2.2.2.2.2.2.2.2.2.1
theorem v_iret {x : Int32} (hd : decode (mC μ) pc = .ok (.ireturn, 1)) (hr : mR μ = some .int) (hu : uc ≤ mK μ) (hv : us ≤ mS μ) (hq : Q (some (.int x)) M) : V l G μ E (sw_Zq G μ (sw_q0 G Q)) pc lv ([.int x]) M uc us :=
  va_iretA (G0 := G) rfl hd hr hu hv ⟨rfl, hq⟩
theorem va_zretA (hG : G = sw_Gw G0 G.2.2.2) {x : Int32} (hb : narrow .boolean (.int x) = .int x) (hd : decode (mC μ) pc = .ok (.ireturn, 1)) (hr : mR μ = some .boolean) (hu : uc ≤ mK μ) (hv : us ≤ mS μ) (hq : QA G.2.2.2 (some (.int x)) M) : V l G μ E (sw_Zq G0 μ QA) pc lv ([.int x]) M uc us := by
  intro p e R s m args below meth c A H locs ws ls C hP hD hS hR hl
  refine W.widen hu hv ?_
  have hKm : ∀ t : State, s.WarmedH t.vm → sw_K G0 t := fun t hW => by
    have h := sw_K.moved hW C.2.2.2.2.2.1
    rw [hG] at h
    exact h
  have hP0 : va_P (sw_D G0) vwCl ws H := by
    have h := hP
    rw [hG] at h
    exact h
  have hR0 : sw_Rep (sw_Gw G0 G.2.2.2) M ws := by rw [← hG]; exact hR
  exact W.zret (v := x) C.1 C.2.1 (C.2.2.2.2.2.2.2.2.2.2.2.1.trans hr) hb (fun t ht hW => ⟨⟨_, _, M, ws, rfl, hq, hR0, by rw [ht]; exact hP0, hKm t hW, hD⟩, hS.F ht⟩) hS.2.2 hd C.2.2.2.2.2.2.2.2.2.2.2.2.1
theorem v_zret {x : Int32} (hb : narrow .boolean (.int x) = .int x) (hd : decode (mC μ) pc = .ok (.ireturn, 1)) (hr : mR μ = some .boolean) (hu : uc ≤ mK μ) (hv : us ≤ mS μ) (hq : Q (some (.int x)) M) : V l G μ E (sw_Zq G μ (sw_q0 G Q)) pc lv ([.int x]) M uc us :=
  va_zretA (G0 := G) rfl hb hd hr hu hv ⟨rfl, hq⟩
theorem va_lretA (hG : G = sw_Gw G0 G.2.2.2) {x : Int64} (hd : decode (mC μ) pc = .ok (.lreturn, 1)) (hr : mR μ = some .long) (hu : uc ≤ mK μ) (hv : us ≤ mS μ) (hq : QA G.2.2.2 (some (.long x)) M) : V l G μ E (sw_Zq G0 μ QA) pc lv ([.long x]) M uc us := by
  intro p e R s m args below meth c A H locs ws ls C hP hD hS hR hl
  refine W.widen hu hv ?_
  have hKm : ∀ t : State, s.WarmedH t.vm → sw_K G0 t := fun t hW => by
    have h := sw_K.moved hW C.2.2.2.2.2.1
    rw [hG] at h
    exact h
  have hP0 : va_P (sw_D G0) vwCl ws H := by
    have h := hP
    rw [hG] at h
    exact h
  have hR0 : sw_Rep (sw_Gw G0 G.2.2.2) M ws := by rw [← hG]; exact hR
  exact W.lret (v := x) C.1 C.2.1 (C.2.2.2.2.2.2.2.2.2.2.2.1.trans hr) (fun t ht hW => ⟨⟨_, _, M, ws, rfl, hq, hR0, by rw [ht]; exact hP0, hKm t hW, hD⟩, hS.F ht⟩) hS.2.2 hd C.2.2.2.2.2.2.2.2.2.2.2.2.1
theorem v_lret {x : Int64} (hd : decode (mC μ) pc = .ok (.lreturn, 1)) (hr : mR μ = some .long) (hu : uc ≤ mK μ) (hv : us ≤ mS μ) (hq : Q (some (.long x)) M) : V l G μ E (sw_Zq G μ (sw_q0 G Q)) pc lv ([.long x]) M uc us :=
  va_lretA (G0 := G) rfl hd hr hu hv ⟨rfl, hq⟩
theorem va_vretA (hG : G = sw_Gw G0 G.2.2.2)  (hd : decode (mC μ) pc = .ok (.return_, 1)) (hr : mR μ = none) (hu : uc ≤ mK μ) (hv : us ≤ mS μ) (hq : QA G.2.2.2 (none) M) : V l G μ E (sw_Zq G0 μ QA) pc lv ([]) M uc us := by
  intro p e R s m args below meth c A H locs ws ls C hP hD hS hR hl
  refine W.widen hu hv ?_
  have hKm : ∀ t : State, s.WarmedH t.vm → sw_K G0 t := fun t hW => by
    have h := sw_K.moved hW C.2.2.2.2.2.1
    rw [hG] at h
    exact h
  have hP0 : va_P (sw_D G0) vwCl ws H := by
    have h := hP
    rw [hG] at h
    exact h
  have hR0 : sw_Rep (sw_Gw G0 G.2.2.2) M ws := by rw [← hG]; exact hR
  exact W.vret C.1 C.2.1 (C.2.2.2.2.2.2.2.2.2.2.2.1.trans hr) (fun t ht hW => ⟨⟨_, _, M, ws, rfl, hq, hR0, by rw [ht]; exact hP0, hKm t hW, hD⟩, hS.F ht⟩) hS.2.2 hd C.2.2.2.2.2.2.2.2.2.2.2.2.1
theorem v_vret  (hd : decode (mC μ) pc = .ok (.return_, 1)) (hr : mR μ = none) (hu : uc ≤ mK μ) (hv : us ≤ mS μ) (hq : Q (none) M) : V l G μ E (sw_Zq G μ (sw_q0 G Q)) pc lv ([]) M uc us :=
  va_vretA (G0 := G) rfl hd hr hu hv ⟨rfl, hq⟩
theorem va_aretA (hG : G = sw_Gw G0 G.2.2.2) {v : Value} {rt : FieldType} (hrt : (∃ n, rt = .object n) ∨ ∃ t, rt = .array t) (hv0 : v = .null ∨ ∃ a, v = .ref a) (hd : decode (mC μ) pc = .ok (.areturn, 1)) (hr : mR μ = some rt) (hu : uc ≤ mK μ) (hv : us ≤ mS μ) (hq : QA G.2.2.2 (some v) M) : V l G μ E (sw_Zq G0 μ QA) pc lv ([v]) M uc us := by
  intro p e R s m args below meth c A H locs ws ls C hP hD hS hR hl
  refine W.widen hu hv ?_
  have hKm : ∀ t : State, s.WarmedH t.vm → sw_K G0 t := fun t hW => by
    have h := sw_K.moved hW C.2.2.2.2.2.1
    rw [hG] at h
    exact h
  have hP0 : va_P (sw_D G0) vwCl ws H := by
    have h := hP
    rw [hG] at h
    exact h
  have hR0 : sw_Rep (sw_Gw G0 G.2.2.2) M ws := by rw [← hG]; exact hR
  exact W.aret (v := v) C.1 C.2.1 (C.2.2.2.2.2.2.2.2.2.2.2.1.trans hr) hrt hv0 (fun t ht hW => ⟨⟨_, _, M, ws, rfl, hq, hR0, by rw [ht]; exact hP0, hKm t hW, hD⟩, hS.F ht⟩) hS.2.2 hd C.2.2.2.2.2.2.2.2.2.2.2.2.1
theorem v_aret {v : Value} {rt : FieldType} (hrt : (∃ n, rt = .object n) ∨ ∃ t, rt = .array t) (hv0 : v = .null ∨ ∃ a, v = .ref a) (hd : decode (mC μ) pc = .ok (.areturn, 1)) (hr : mR μ = some rt) (hu : uc ≤ mK μ) (hv : us ≤ mS μ) (hq : Q (some v) M) : V l G μ E (sw_Zq G μ (sw_q0 G Q)) pc lv ([v]) M uc us :=
  va_aretA (G0 := G) rfl hrt hv0 hd hr hu hv ⟨rfl, hq⟩
end SWR
end
section
/-! THE V LAYER, second part: fields, arrays, what is made, calls -/
theorem sw_nd_get : ∀ {l : List Nat} {i j a b : Nat}, sw_nd l → l[i]? = some a → l[j]? = some b → i ≠ j → a ≠ b
  | [], i, j, a, b, _, h, _, _ => by simp at h
  | x :: l, 0, 0, a, b, _, _, _, n => absurd rfl n
  | x :: l, 0, j + 1, a, b, hn, h, h2, _ => by
    have e : x = a := by simpa using h
    have h3 : l[j]? = some b := by simpa using h2
    exact e ▸ hn.1 b (List.mem_of_getElem? h3)
  | x :: l, i + 1, 0, a, b, hn, h, h2, _ => by
    have e : x = b := by simpa using h2
    have h3 : l[i]? = some a := by simpa using h
    exact fun q => hn.1 a (List.mem_of_getElem? h3) (e.trans q.symm)
  | x :: l, i + 1, j + 1, a, b, hn, h, h2, n => by
    have h3 : l[i]? = some a := by simpa using h
    have h4 : l[j]? = some b := by simpa using h2
    exact sw_nd_get hn.2 h3 h4 (fun q => n (by rw [q]))
theorem sw_nd_pick {cs : List sw_Ce} (hn : sw_nd (cs.map Prod.fst)) : ∀ {is : List Nat} {wc : List sw_Ce}, va_nd is = true → is.map (fun i => cs[i]?) = wc.map some → sw_nd (wc.map Prod.fst)
  | [], [], _, _ => trivial
  | [], c :: wc, _, h => by simp at h
  | i :: is, [], _, h => by simp at h
  | i :: is, c :: wc, hi, h => by
    have h1 : cs[i]? = some c := by
      have := congrArg List.head? h
      simpa using this
    have h2 : is.map (fun i => cs[i]?) = wc.map some := by
      have := congrArg List.tail h
      simpa using this
    have hi2 : i ∉ is ∧ va_nd is = true := by
      unfold va_nd at hi
      simpa using hi
    refine ⟨fun b hb => ?_, sw_nd_pick hn hi2.2 h2⟩
    obtain ⟨x, hx, rfl⟩ := List.mem_map.mp hb
    obtain ⟨k, hk⟩ := List.getElem?_of_mem hx
    have h3 : (is.map (fun i => cs[i]?))[k]? = some (some x) := by rw [h2, List.getElem?_map, hk]; rfl
    rw [List.getElem?_map] at h3
    cases hik : is[k]? with
    | none => rw [hik] at h3; cases h3
    | some j =>
      rw [hik] at h3
      have h4 : cs[j]? = some x := Option.some.inj h3
      have hij : i ≠ j := fun q => hi2.1 (q ▸ List.mem_of_getElem? hik)
      exact sw_nd_get hn (i := i) (j := j) (by rw [List.getElem?_map, h1]; rfl) (by rw [List.getElem?_map, h4]; rfl) hij
theorem sw_ov_app {M : sw_M} {t : Nat} {x : sw_Ob} : ∀ {cs : List sw_Ce}, t ∉ cs.map Prod.fst → sw_up (sw_ov M cs) t x = sw_ov M (cs ++ [(t, x)])
  | [], _ => rfl
  | c :: cs, h => by
    have h1 : ¬ (t = c.1 ∨ t ∈ cs.map Prod.fst) := by simpa using h
    have ih := sw_ov_app (M := M) (x := x) (cs := cs) (fun e => h1 (Or.inr e))
    funext u
    show (if u = t then some x else if u = c.1 then some c.2 else sw_ov M cs u) = (if u = c.1 then some c.2 else sw_ov M (cs ++ [(t, x)]) u)
    rw [← ih]
    unfold sw_up
    by_cases e : u = t
    · subst e
      rw [if_pos rfl, if_neg (fun q => h1 (Or.inl q)), if_pos rfl]
    · rw [if_neg e, if_neg e]
section SWM
variable {l : Launch} {G : sw_G} {μ : sw_Mt} {E : State → (Nat → Prop) → Prop} {Z : sw_Z} {pc : Nat} {lv : List (Nat × Value)} {st : List Value} {M : sw_M} {cs : List sw_Ce} {uc us : Nat}
theorem v_getf (q k : Nat) {t ci ix : Nat} {fs : List Value} {v : Value} (hF : sw_fl (mY μ).cls ix ci k) (hn : sw_nd (cs.map Prod.fst)) (hq : cs[q]? = some (t, sw_o ci fs)) (hv : fs[k]? = some v) (hd : decode (mC μ) pc = .ok (.getfield ix, 3)) (kk : V l G μ E Z (pc + 3) lv (v :: st) (sw_ov M cs) uc us) : V l G μ E Z pc lv (.ref (sw_al G t) :: st) (sw_ov M cs) uc us := by
  intro p e R s m args below meth c A H locs ws ls C hP hD hS hR hl
  obtain ⟨q0, hq0⟩ := hR.1 t _ (sw_ov_at hn hq)
  obtain ⟨Cn, T, N, ty0, h1, h2, h3, h4, -⟩ := hF
  exact va_get C.1 C.2.1 C.2.2.2.2.1 (fun w hw => List.mem_cons_of_mem _ (h2 w hw)) C.2.2.2.1 C.2.2.2.2.2.1.1 hP q0 hq0 h1 k h3 (C.2.2.2.2.1 _ (List.mem_cons_of_mem _ h4)) (fun _ h => h) hv hd (kk p e R s m args below meth c A H locs ws ls C hP hD hS hR hl)
theorem v_putf (q k : Nat) {t ci ix : Nat} {fs : List Value} {v : Value} {ty : FieldType} (hF : sw_fp (mY μ).cls ix ci k false ty) (hn : sw_nd (cs.map Prod.fst)) (hq : cs[q]? = some (t, sw_o ci fs)) (hna : narrow ty v = v) (hfi : fits ty v = true) (hle : k < fs.length) (hd : decode (mC μ) pc = .ok (.putfield ix, 3)) (kk : V l G μ E Z (pc + 3) lv (st) (sw_ov M (cs.set q (t, sw_o ci (fs.set k v)))) uc us) : V l G μ E Z pc lv (v :: .ref (sw_al G t) :: st) (sw_ov M cs) uc us := by
  intro p e R s m args below meth c A H locs ws ls C hP hD hS hR hl
  obtain ⟨q0, hq0⟩ := hR.1 t _ (sw_ov_at hn hq)
  obtain ⟨Cn, T, N, ty0, h1, h2, h3, h4, h5, h6, h7, h8, -⟩ := hF
  refine va_put C.1 C.2.1 C.2.2.2.2.1 (fun w hw => List.mem_cons_of_mem _ (h2 w hw)) ty0 h5 h6 C.2.2.2.1 C.2.2.2.2.2.1.1 hP hD hS q0 hq0 h1 k h3 (C.2.2.2.2.1 _ (List.mem_cons_of_mem _ h4)) (fun _ h => h) h7 h8 hna hfi hle hd (fun H1 locs1 hP1 hD1 hS1 => ?_)
  have hR1 := hR.set (ob' := sw_o ci (fs.set k v)) hD (sw_ov_at hn hq) hq0
  rw [sw_ov_set hn hq] at hR1
  exact kk p e R s m args below meth c A H1 locs1 _ ls C hP1 hD1 hS1 hR1 hl
theorem v_putF (q k : Nat) {t ci ix : Nat} {fs : List Value} {v : Value} {ty : FieldType} (hi : (mY μ).name = "<init>") (hF : sw_fp (mY μ).cls ix ci k true ty) (hn : sw_nd (cs.map Prod.fst)) (hq : cs[q]? = some (t, sw_o ci fs)) (hna : narrow ty v = v) (hfi : fits ty v = true) (hle : k < fs.length) (hd : decode (mC μ) pc = .ok (.putfield ix, 3)) (kk : V l G μ E Z (pc + 3) lv (st) (sw_ov M (cs.set q (t, sw_o ci (fs.set k v)))) uc us) : V l G μ E Z pc lv (v :: .ref (sw_al G t) :: st) (sw_ov M cs) uc us := by
  intro p e R s m args below meth c A H locs ws ls C hP hD hS hR hl
  obtain ⟨q0, hq0⟩ := hR.1 t _ (sw_ov_at hn hq)
  obtain ⟨Cn, T, N, ty0, h1, h2, h3, h4, h5, h6, h7, h8, h9⟩ := hF
  refine va_putF C.1 C.2.1 C.2.2.2.2.1 (fun w hw => List.mem_cons_of_mem _ (h2 w hw)) ty0 h5 h6 C.2.2.2.1 C.2.2.2.2.2.1.1 hP hD hS q0 hq0 h1 k h3 (C.2.2.2.2.1 _ (List.mem_cons_of_mem _ h4)) (fun _ h => h) h7 (C.2.2.2.2.2.2.2.2.2.2.2.2.2.1.trans hi) (h9 rfl) h8 hna hfi hle hd (fun H1 locs1 hP1 hD1 hS1 => ?_)
  have hR1 := hR.set (ob' := sw_o ci (fs.set k v)) hD (sw_ov_at hn hq) hq0
  rw [sw_ov_set hn hq] at hR1
  exact kk p e R s m args below meth c A H1 locs1 _ ls C hP1 hD1 hS1 hR1 hl
theorem v_iald (q : Nat) {t n : Nat} {f : Int → Int} {z : Int} (hn : sw_nd (cs.map Prod.fst)) (hq : cs[q]? = some (t, sw_ia n f)) (h31 : n < 2147483648) (h0 : 0 ≤ z) (h1 : z < n) (hd : decode (mC μ) pc = .ok (.iaload, 1)) (kk : V l G μ E Z (pc + 1) lv (sw_i (f z) :: st) (sw_ov M cs) uc us) : V l G μ E Z pc lv (sw_i z :: .ref (sw_al G t) :: st) (sw_ov M cs) uc us := by
  intro p e R s m args below meth c A H locs ws ls C hP hD hS hR hl
  obtain ⟨q0, hq0⟩ := hR.1 t _ (sw_ov_at hn hq)
  have e1 : iN (f (((iN z).toNatClampNeg : Nat) : Int)) = iN (f z) := by rw [iN_cl h0 (by omega), Int.toNat_of_nonneg h0]
  refine va_iald C.1 C.2.1 C.2.2.2.2.2.1.1 hP q0 0 hq0 rfl (iN_in h0 h1 h31) hd ?_
  first | rw [e1] | simp only [e1]
  exact kk p e R s m args below meth c A H locs ws ls C hP hD hS hR hl
theorem v_lald (q : Nat) {t n : Nat} {f : Int → Int} {z : Int} (hn : sw_nd (cs.map Prod.fst)) (hq : cs[q]? = some (t, sw_la n f)) (h31 : n < 2147483648) (h0 : 0 ≤ z) (h1 : z < n) (hd : decode (mC μ) pc = .ok (.laload, 1)) (kk : V l G μ E Z (pc + 1) lv (sw_j (f z) :: st) (sw_ov M cs) uc us) : V l G μ E Z pc lv (sw_i z :: .ref (sw_al G t) :: st) (sw_ov M cs) uc us := by
  intro p e R s m args below meth c A H locs ws ls C hP hD hS hR hl
  obtain ⟨q0, hq0⟩ := hR.1 t _ (sw_ov_at hn hq)
  have e1 : jN (f (((iN z).toNatClampNeg : Nat) : Int)) = jN (f z) := by rw [iN_cl h0 (by omega), Int.toNat_of_nonneg h0]
  refine va_lald C.1 C.2.1 C.2.2.2.2.2.1.1 hP q0 1 hq0 rfl (iN_in h0 h1 h31) hd ?_
  first | rw [e1] | simp only [e1]
  exact kk p e R s m args below meth c A H locs ws ls C hP hD hS hR hl
theorem v_zald (q : Nat) {t n : Nat} {f : Int → Int} {z : Int} (hn : sw_nd (cs.map Prod.fst)) (hq : cs[q]? = some (t, sw_za n f)) (h31 : n < 2147483648) (h0 : 0 ≤ z) (h1 : z < n) (hd : decode (mC μ) pc = .ok (.baload, 1)) (kk : V l G μ E Z (pc + 1) lv (sw_i (f z) :: st) (sw_ov M cs) uc us) : V l G μ E Z pc lv (sw_i z :: .ref (sw_al G t) :: st) (sw_ov M cs) uc us := by
  intro p e R s m args below meth c A H locs ws ls C hP hD hS hR hl
  obtain ⟨q0, hq0⟩ := hR.1 t _ (sw_ov_at hn hq)
  have e1 : iN (f (((iN z).toNatClampNeg : Nat) : Int)) = iN (f z) := by rw [iN_cl h0 (by omega), Int.toNat_of_nonneg h0]
  refine va_zald C.1 C.2.1 C.2.2.2.2.2.1.1 hP q0 2 hq0 rfl (iN_in h0 h1 h31) hd ?_
  first | rw [e1] | simp only [e1]
  exact kk p e R s m args below meth c A H locs ws ls C hP hD hS hR hl
theorem v_aldq (q : Nat) {t n : Nat} {f : Int → Option Nat} {z : Int} (hn : sw_nd (cs.map Prod.fst)) (hq : cs[q]? = some (t, sw_ra n f)) (h31 : n < 2147483648) (h0 : 0 ≤ z) (h1 : z < n) (hd : decode (mC μ) pc = .ok (.aaload, 1)) (kk : V l G μ E Z (pc + 1) lv (va_rf (f z) :: st) (sw_ov M cs) uc us) : V l G μ E Z pc lv (sw_i z :: .ref (sw_al G t) :: st) (sw_ov M cs) uc us := by
  intro p e R s m args below meth c A H locs ws ls C hP hD hS hR hl
  obtain ⟨q0, hq0⟩ := hR.1 t _ (sw_ov_at hn hq)
  have e1 : va_rf (f (((iN z).toNatClampNeg : Nat) : Int)) = va_rf (f z) := by rw [iN_cl h0 (by omega), Int.toNat_of_nonneg h0]
  refine va_aldq C.1 C.2.1 C.2.2.2.2.2.1.1 hP q0 3 hq0 rfl (iN_in h0 h1 h31) hd ?_
  first | rw [e1] | simp only [e1]
  exact kk p e R s m args below meth c A H locs ws ls C hP hD hS hR hl
theorem v_alen (q : Nat) {t : Nat} {x : Nat × vp_A} {z : Int} (hx : x.1 < 4) (hn : sw_nd (cs.map Prod.fst)) (hq : cs[q]? = some (t, .inl x)) (hz : Int32.ofNat x.2.1 = iN z) (hd : decode (mC μ) pc = .ok (.arraylength, 1)) (kk : V l G μ E Z (pc + 1) lv (sw_i z :: st) (sw_ov M cs) uc us) : V l G μ E Z pc lv (.ref (sw_al G t) :: st) (sw_ov M cs) uc us := by
  intro p e R s m args below meth c A H locs ws ls C hP hD hS hR hl
  obtain ⟨q0, hq0⟩ := hR.1 t _ (sw_ov_at hn hq)
  exact va_alen C.1 C.2.1 C.2.2.2.2.2.1.1 hP q0 x.1 hq0 (ty := sw_ty x.1) (by
    obtain ⟨k, y⟩ := x
    match k, hx with
    | 0, _ => rfl
    | 1, _ => rfl
    | 2, _ => rfl
    | 3, _ => rfl) hz hd (kk p e R s m args below meth c A H locs ws ls C hP hD hS hR hl)
theorem v_iast (q : Nat) {t n : Nat} {f : Int → Int} {z x : Int} (hn : sw_nd (cs.map Prod.fst)) (hq : cs[q]? = some (t, sw_ia n f)) (h31 : n < 2147483648) (h0 : 0 ≤ z) (h1 : z < n) (hd : decode (mC μ) pc = .ok (.iastore, 1)) (kk : V l G μ E Z (pc + 1) lv (st) (sw_ov M (cs.set q (t, sw_ia n (up f z x)))) uc us) : V l G μ E Z pc lv (sw_i x :: sw_i z :: .ref (sw_al G t) :: st) (sw_ov M cs) uc us := by
  intro p e R s m args below meth c A H locs ws ls C hP hD hS hR hl
  obtain ⟨q0, hq0⟩ := hR.1 t _ (sw_ov_at hn hq)
  refine va_iast C.1 C.2.1 C.2.2.2.2.2.1.1 hP hD hS q0 0 hq0 rfl (iN_in h0 h1 h31) hd (fun H1 locs1 hP1 hD1 hS1 => ?_)
  rw [iN_cl h0 (by omega), up_ia h0] at hP1 hD1
  have hR1 := hR.set (ob' := sw_ia n (up f z x)) hD (sw_ov_at hn hq) hq0
  rw [sw_ov_set hn hq] at hR1
  exact kk p e R s m args below meth c A H1 locs1 _ ls C hP1 hD1 hS1 hR1 hl
theorem v_last (q : Nat) {t n : Nat} {f : Int → Int} {z x : Int} (hn : sw_nd (cs.map Prod.fst)) (hq : cs[q]? = some (t, sw_la n f)) (h31 : n < 2147483648) (h0 : 0 ≤ z) (h1 : z < n) (hd : decode (mC μ) pc = .ok (.lastore, 1)) (kk : V l G μ E Z (pc + 1) lv (st) (sw_ov M (cs.set q (t, sw_la n (up f z x)))) uc us) : V l G μ E Z pc lv (sw_j x :: sw_i z :: .ref (sw_al G t) :: st) (sw_ov M cs) uc us := by
  intro p e R s m args below meth c A H locs ws ls C hP hD hS hR hl
  obtain ⟨q0, hq0⟩ := hR.1 t _ (sw_ov_at hn hq)
  refine va_last C.1 C.2.1 C.2.2.2.2.2.1.1 hP hD hS q0 1 hq0 rfl (iN_in h0 h1 h31) hd (fun H1 locs1 hP1 hD1 hS1 => ?_)
  rw [iN_cl h0 (by omega), up_la h0] at hP1 hD1
  have hR1 := hR.set (ob' := sw_la n (up f z x)) hD (sw_ov_at hn hq) hq0
  rw [sw_ov_set hn hq] at hR1
  exact kk p e R s m args below meth c A H1 locs1 _ ls C hP1 hD1 hS1 hR1 hl
theorem v_zast (q : Nat) {t n : Nat} {f : Int → Int} {z x : Int} (hx : vp_nar .boolean (iN x) = iN x) (hn : sw_nd (cs.map Prod.fst)) (hq : cs[q]? = some (t, sw_za n f)) (h31 : n < 2147483648) (h0 : 0 ≤ z) (h1 : z < n) (hd : decode (mC μ) pc = .ok (.bastore, 1)) (kk : V l G μ E Z (pc + 1) lv (st) (sw_ov M (cs.set q (t, sw_za n (up f z x)))) uc us) : V l G μ E Z pc lv (sw_i x :: sw_i z :: .ref (sw_al G t) :: st) (sw_ov M cs) uc us := by
  intro p e R s m args below meth c A H locs ws ls C hP hD hS hR hl
  obtain ⟨q0, hq0⟩ := hR.1 t _ (sw_ov_at hn hq)
  refine va_zast C.1 C.2.1 C.2.2.2.2.2.1.1 hP hD hS q0 2 hq0 rfl (iN_in h0 h1 h31) hd (fun H1 locs1 hP1 hD1 hS1 => ?_)
  rw [iN_cl h0 (by omega), hx, up_ia h0] at hP1 hD1
  have hR1 := hR.set (ob' := sw_za n (up f z x)) hD (sw_ov_at hn hq) hq0
  rw [sw_ov_set hn hq] at hR1
  exact kk p e R s m args below meth c A H1 locs1 _ ls C hP1 hD1 hS1 hR1 hl
theorem v_astq (q qv : Nat) {t n tv ci : Nat} {fs : List Value} {f : Int → Option Nat} {z : Int} {T : u_T} {N : Nat} (hc : vwCl[ci]? = some ("SorryToWin$Sale", T, N)) (hn : sw_nd (cs.map Prod.fst)) (hq : cs[q]? = some (t, sw_ra n f)) (hqv : cs[qv]? = some (tv, sw_o ci fs)) (h31 : n < 2147483648) (h0 : 0 ≤ z) (h1 : z < n) (hd : decode (mC μ) pc = .ok (.aastore, 1)) (kk : V l G μ E Z (pc + 1) lv (st) (sw_ov M (cs.set q (t, sw_ra n (upR f z (some (sw_al G tv)))))) uc us) : V l G μ E Z pc lv (.ref (sw_al G tv) :: sw_i z :: .ref (sw_al G t) :: st) (sw_ov M cs) uc us := by
  intro p e R s m args below meth c A H locs ws ls C hP hD hS hR hl
  obtain ⟨q0, hq0⟩ := hR.1 t _ (sw_ov_at hn hq)
  obtain ⟨q1, hq1⟩ := hR.1 tv _ (sw_ov_at hn hqv)
  refine va_astq C.1 C.2.1 C.2.2.2.2.2.1.1 hP hD hS q0 3 q1 ci hq0 rfl hq1 hc (iN_in h0 h1 h31) hd (fun H1 locs1 hP1 hD1 hS1 => ?_)
  rw [iN_cl h0 (by omega), up_ra h0] at hP1 hD1
  have hR1 := hR.set (ob' := sw_ra n (upR f z (some (sw_al G tv)))) hD (sw_ov_at hn hq) hq0
  rw [sw_ov_set hn hq] at hR1
  exact kk p e R s m args below meth c A H1 locs1 _ ls C hP1 hD1 hS1 hR1 hl
/-- arrays of one kind have one class -/
theorem sw_oneI {s : State} {G : sw_G} {cA : ClassId} (h : va_K (sw_D G) vwCl (sw_tys G ++ [(cA, .int)]) s) : cA = G.2.2.1 0 := by
  have h1 : va_RA s cA .int := (h.2 4 (cA, .int) rfl).2
  have h2 : va_RA s (G.2.2.1 0) .int := (h.2 0 (G.2.2.1 0, .int) rfl).2
  simp only [va_RA] at h1 h2
  exact Option.some.inj (h1.symm.trans h2)
theorem sw_oneJ {s : State} {G : sw_G} {cA : ClassId} (h : va_K (sw_D G) vwCl (sw_tys G ++ [(cA, .long)]) s) : cA = G.2.2.1 1 := by
  have h1 : va_RA s cA .long := (h.2 4 (cA, .long) rfl).2
  have h2 : va_RA s (G.2.2.1 1) .long := (h.2 1 (G.2.2.1 1, .long) rfl).2
  simp only [va_RA] at h1 h2
  exact Option.some.inj (h1.symm.trans h2)
theorem sw_oneZ {s : State} {G : sw_G} {cA : ClassId} (h : va_K (sw_D G) vwCl (sw_tys G ++ [(cA, .boolean)]) s) : cA = G.2.2.1 2 := by
  have h1 : va_RA s cA .boolean := (h.2 4 (cA, .boolean) rfl).2
  have h2 : va_RA s (G.2.2.1 2) .boolean := (h.2 2 (G.2.2.1 2, .boolean) rfl).2
  simp only [va_RA] at h1 h2
  exact Option.some.inj (h1.symm.trans h2)
theorem sw_oneQ {s : State} {G : sw_G} {cA : ClassId} (h : va_K (sw_D G) vwCl (sw_tys G ++ [(cA, .object "SorryToWin$Sale")]) s) : cA = G.2.2.1 3 := by
  have h1 : va_RA s cA (.object "SorryToWin$Sale") := (h.2 4 (cA, .object "SorryToWin$Sale") rfl).2
  have h2 : va_RA s (G.2.2.1 3) (.object "SorryToWin$Sale") := (h.2 3 (G.2.2.1 3, .object "SorryToWin$Sale") rfl).2
  simp only [va_RA] at h1 h2
  obtain ⟨-, -, -, -, -, h1⟩ := h1
  obtain ⟨-, -, -, -, -, h2⟩ := h2
  exact Option.some.inj (h1.symm.trans h2)
/-- a new object: its tag is free -/
theorem v_new (t : Nat) {ci ix N : Nat} {Cn : String} {T : u_T} (fs : List Value) (ty : Nat → FieldType) (hc : vwCl[ci]? = some (Cn, T, N)) (hin : ∀ w ∈ u_ws Cn T N, w ∈ sw_U) (hty : ∀ k, k < N → parseFieldDescriptor (T k).2.2.1 = some (ty k)) (hcl : Cond.classLink (mY μ).cls ix Cn ∈ sw_U) (hinst : Cond.instantiable Cn N ∈ sw_U) (hini : Cond.initialized Cn ∈ sw_U) (hfs : ∀ j, j < N → defaultValue (ty j) = vp_V fs j)
    (ht : t ∉ cs.map Prod.fst) (hM : M t = none) (hu : uc + 1 ≤ mK μ) (hv : us + N ≤ mS μ) (hd : decode (mC μ) pc = .ok (.new ix, 3)) (kk : ∀ al : Nat → Nat, (∀ u, u ≠ t → al u = sw_al G u) → V l (sw_Gw G al) μ E Z (pc + 3) lv (.ref (al t) :: st) (sw_ov M (cs ++ [(t, sw_o ci fs)])) (uc + 1) (us + N)) : V l G μ E Z pc lv (st) (sw_ov M cs) uc us := by
  intro p e R s m args below meth c A H locs ws ls C hP hD hS hR hl
  refine va_new C.1 C.2.1 C.2.2.2.2.1 (fun w hw => List.mem_cons_of_mem _ (hin w hw)) ty hty C.2.2.2.1 (C.2.2.2.2.1 _ (List.mem_cons_of_mem _ hcl)) (C.2.2.2.2.1 _ (List.mem_cons_of_mem _ hinst)) (C.2.2.2.2.1 _ (List.mem_cons_of_mem _ hini)) C.2.2.2.2.2.1.1 hP hD hS C.2.2.2.2.2.2.1 hc hfs (Nat.le_trans hu C.2.2.2.2.2.2.2.2.2.1) (Nat.le_trans hv C.2.2.2.2.2.2.2.2.2.2.1) hd (fun q H1 hP1 hD1 hS1 => ?_)
  have hR1 := hR.push (t := t) (a := q) (ob := sw_o ci fs) (by rw [sw_ov_out ht]; exact hM) hD1
  rw [sw_ov_app ht] at hR1
  have hka := kk (sw_ua G.2.2.2 t q) (fun u hu => if_neg hu) p e R s m args below meth c A H1 locs _ ls C hP1 hD1 hS1 hR1 hl
  have hat : sw_ua G.2.2.2 t q t = q := if_pos rfl
  rw [hat] at hka
  exact hka
theorem v_newi (t : Nat) {N : Nat} {z : Int} (hz : z = N) (h31 : N < 16777216) (harr : Cond.arrayClass .int ∈ sw_U) (ht : t ∉ cs.map Prod.fst) (hM : M t = none) (hu : uc + 1 ≤ mK μ) (hv : us + N ≤ mS μ) (hd : decode (mC μ) pc = .ok (.newarray .int, 2)) (kk : ∀ al : Nat → Nat, (∀ u, u ≠ t → al u = sw_al G u) → V l (sw_Gw G al) μ E Z (pc + 2) lv (.ref (al t) :: st) (sw_ov M (cs ++ [(t, sw_ia N (fun _ => 0))])) (uc + 1) (us + N)) : V l G μ E Z pc lv (sw_i z :: st) (sw_ov M cs) uc us := by
  intro p e R s m args below meth c A H locs ws ls C hP hD hS hR hl
  subst hz
  refine va_newa (atype := .int) (ty := .int) (a0 := (N, .inl (fun j : Nat => iN ((fun _ : Int => (0 : Int)) j)))) C.1 C.2.1 (C.2.2.2.2.1 _ (List.mem_cons_of_mem _ harr)) rfl C.2.2.2.2.2.1.1 hP hD hS C.2.2.2.2.2.2.1 (fun cA => rfl) (by rw [iN_0, iN_lt ⟨by omega, by omega⟩ ⟨by omega, by omega⟩]; omega) (by rw [iN_cl (by omega) (by omega)]; rfl) (by simp only [componentBytes]; omega) (Nat.le_trans hu C.2.2.2.2.2.2.2.2.2.1) (Nat.le_trans hv C.2.2.2.2.2.2.2.2.2.2.1) hd (fun q cA H1 hK1 hP1 hD1 hS1 => ?_)
  have hcA := sw_oneI hK1
  subst hcA
  have hR1 := hR.push (t := t) (a := q) (ob := sw_ia N (fun _ => 0)) (by rw [sw_ov_out ht]; exact hM) hD1
  rw [sw_ov_app ht] at hR1
  have hka := kk (sw_ua G.2.2.2 t q) (fun u hu => if_neg hu) p e R s m args below meth c A H1 locs _ ls C hP1 hD1 hS1 hR1 hl
  have hat : sw_ua G.2.2.2 t q t = q := if_pos rfl
  rw [hat] at hka
  exact hka
theorem v_newj (t : Nat) {N : Nat} {z : Int} (hz : z = N) (h31 : N < 16777216) (harr : Cond.arrayClass .long ∈ sw_U) (ht : t ∉ cs.map Prod.fst) (hM : M t = none) (hu : uc + 1 ≤ mK μ) (hv : us + N ≤ mS μ) (hd : decode (mC μ) pc = .ok (.newarray .long, 2)) (kk : ∀ al : Nat → Nat, (∀ u, u ≠ t → al u = sw_al G u) → V l (sw_Gw G al) μ E Z (pc + 2) lv (.ref (al t) :: st) (sw_ov M (cs ++ [(t, sw_la N (fun _ => 0))])) (uc + 1) (us + N)) : V l G μ E Z pc lv (sw_i z :: st) (sw_ov M cs) uc us := by
  intro p e R s m args below meth c A H locs ws ls C hP hD hS hR hl
  subst hz
  refine va_newa (atype := .long) (ty := .long) (a0 := (N, .inr (.inl (fun j : Nat => jN ((fun _ : Int => (0 : Int)) j))))) C.1 C.2.1 (C.2.2.2.2.1 _ (List.mem_cons_of_mem _ harr)) rfl C.2.2.2.2.2.1.1 hP hD hS C.2.2.2.2.2.2.1 (fun cA => rfl) (by rw [iN_0, iN_lt ⟨by omega, by omega⟩ ⟨by omega, by omega⟩]; omega) (by rw [iN_cl (by omega) (by omega)]; rfl) (by simp only [componentBytes]; omega) (Nat.le_trans hu C.2.2.2.2.2.2.2.2.2.1) (Nat.le_trans hv C.2.2.2.2.2.2.2.2.2.2.1) hd (fun q cA H1 hK1 hP1 hD1 hS1 => ?_)
  have hcA := sw_oneJ hK1
  subst hcA
  have hR1 := hR.push (t := t) (a := q) (ob := sw_la N (fun _ => 0)) (by rw [sw_ov_out ht]; exact hM) hD1
  rw [sw_ov_app ht] at hR1
  have hka := kk (sw_ua G.2.2.2 t q) (fun u hu => if_neg hu) p e R s m args below meth c A H1 locs _ ls C hP1 hD1 hS1 hR1 hl
  have hat : sw_ua G.2.2.2 t q t = q := if_pos rfl
  rw [hat] at hka
  exact hka
theorem v_newz (t : Nat) {N : Nat} {z : Int} (hz : z = N) (h31 : N < 16777216) (harr : Cond.arrayClass .boolean ∈ sw_U) (ht : t ∉ cs.map Prod.fst) (hM : M t = none) (hu : uc + 1 ≤ mK μ) (hv : us + N ≤ mS μ) (hd : decode (mC μ) pc = .ok (.newarray .boolean, 2)) (kk : ∀ al : Nat → Nat, (∀ u, u ≠ t → al u = sw_al G u) → V l (sw_Gw G al) μ E Z (pc + 2) lv (.ref (al t) :: st) (sw_ov M (cs ++ [(t, sw_za N (fun _ => 0))])) (uc + 1) (us + N)) : V l G μ E Z pc lv (sw_i z :: st) (sw_ov M cs) uc us := by
  intro p e R s m args below meth c A H locs ws ls C hP hD hS hR hl
  subst hz
  refine va_newa (atype := .boolean) (ty := .boolean) (a0 := (N, .inl (fun j : Nat => iN ((fun _ : Int => (0 : Int)) j)))) C.1 C.2.1 (C.2.2.2.2.1 _ (List.mem_cons_of_mem _ harr)) rfl C.2.2.2.2.2.1.1 hP hD hS C.2.2.2.2.2.2.1 (fun cA => rfl) (by rw [iN_0, iN_lt ⟨by omega, by omega⟩ ⟨by omega, by omega⟩]; omega) (by rw [iN_cl (by omega) (by omega)]; rfl) (by simp only [componentBytes]; omega) (Nat.le_trans hu C.2.2.2.2.2.2.2.2.2.1) (Nat.le_trans hv C.2.2.2.2.2.2.2.2.2.2.1) hd (fun q cA H1 hK1 hP1 hD1 hS1 => ?_)
  have hcA := sw_oneZ hK1
  subst hcA
  have hR1 := hR.push (t := t) (a := q) (ob := sw_za N (fun _ => 0)) (by rw [sw_ov_out ht]; exact hM) hD1
  rw [sw_ov_app ht] at hR1
  have hka := kk (sw_ua G.2.2.2 t q) (fun u hu => if_neg hu) p e R s m args below meth c A H1 locs _ ls C hP1 hD1 hS1 hR1 hl
  have hat : sw_ua G.2.2.2 t q t = q := if_pos rfl
  rw [hat] at hka
  exact hka
theorem v_newq (t : Nat) {N ix : Nat} {z : Int} (hz : z = N) (h31 : N < 16777216) (hcl : Cond.classLink (mY μ).cls ix "SorryToWin$Sale" ∈ sw_U) (ht : t ∉ cs.map Prod.fst) (hM : M t = none) (hu : uc + 1 ≤ mK μ) (hv : us + N ≤ mS μ) (hd : decode (mC μ) pc = .ok (.anewarray ix, 3)) (kk : ∀ al : Nat → Nat, (∀ u, u ≠ t → al u = sw_al G u) → V l (sw_Gw G al) μ E Z (pc + 3) lv (.ref (al t) :: st) (sw_ov M (cs ++ [(t, sw_ra N (fun _ => none))])) (uc + 1) (us + N)) : V l G μ E Z pc lv (sw_i z :: st) (sw_ov M cs) uc us := by
  intro p e R s m args below meth c A H locs ws ls C hP hD hS hR hl
  subst hz
  refine va_newq (N' := N) C.1 C.2.1 C.2.2.2.1 (C.2.2.2.2.1 _ (List.mem_cons_of_mem _ hcl)) C.2.2.2.2.2.1.2.2 C.2.2.2.2.2.1.1 hP hD hS C.2.2.2.2.2.2.1 (by rw [iN_0, iN_lt ⟨by omega, by omega⟩ ⟨by omega, by omega⟩]; omega) (by rw [iN_cl (by omega) (by omega)]; rfl) (by omega) (Nat.le_trans hu C.2.2.2.2.2.2.2.2.2.1) (Nat.le_trans hv C.2.2.2.2.2.2.2.2.2.2.1) hd (fun q cA H1 hK1 hP1 hD1 hS1 => ?_)
  have hcA := sw_oneQ hK1
  subst hcA
  have hR1 := hR.push (t := t) (a := q) (ob := sw_ra N (fun _ => none)) (by rw [sw_ov_out ht]; exact hM) hD1
  rw [sw_ov_app ht] at hR1
  have hka := kk (sw_ua G.2.2.2 t q) (fun u hu => if_neg hu) p e R s m args below meth c A H1 locs _ ls C hP1 hD1 hS1 hR1 hl
  have hat : sw_ua G.2.2.2 t q t = q := if_pos rfl
  rw [hat] at hka
  exact hka
end SWM
/-! calls -/
/-- the room that a call asks of its caller -/
def sw_CR (μ μ' : sw_Mt) : Prop := mF μ' + 1 ≤ mF μ ∧ 8 + (mL μ' + 11) + 64 * mF μ' ≤ 64 * mF μ
theorem sw_gV {own : String} {ix : Nat} {μ' : sw_Mt} {ws : List Cond} (hl : Cond.methodLink own ix (mY μ') ∈ sw_U) (h : sw_mv μ') (hU : ∀ w ∈ sw_U, w ∈ ws) : GoodIn ws (wsV own ix (mY μ').cls (mY μ') (mT μ')) := by
  intro w hw
  have hm : w ∈ sw_U := by
    rcases List.mem_append.mp hw with hw | hw
    · simp only [List.mem_cons, List.not_mem_nil, or_false] at hw
      rcases hw with rfl | rfl | rfl | rfl
      · exact hl
      · exact h.2.1
      · exact h.2.2
      · exact h.1.2.2.2.1
    · rcases List.mem_cons.mp hw with rfl | hw
      · exact h.1.1
      · exact hw
  exact ⟨hU w hm, sw_gd w hm⟩
theorem sw_gS {own : String} {ix : Nat} {μ' : sw_Mt} {ws : List Cond} (hl : Cond.methodLink own ix (mY μ') ∈ sw_U) (h : sw_ms μ') (hU : ∀ w ∈ sw_U, w ∈ ws) : GoodIn ws (va_wsS own ix (mY μ') (mT μ')) := by
  intro w hw
  have hm : w ∈ sw_U := by
    rcases List.mem_append.mp hw with hw | hw
    · simp only [List.mem_cons, List.not_mem_nil, or_false] at hw
      rcases hw with rfl | rfl | rfl
      · exact hl
      · exact h.2
      · exact h.1.2.2.2.1
    · rcases List.mem_cons.mp hw with rfl | hw
      · exact h.1.1
      · exact hw
  exact ⟨hU w hm, sw_gd w hm⟩
section SWC
variable {l : Launch} {G : sw_G} {μ μ' : sw_Mt} {E : State → (Nat → Prop) → Prop} {Z : sw_Z} {pc ix : Nat} {lv : List (Nat × Value)} {st st0 As : List Value} {M M0 : sw_M} {cs : List sw_Ce} {uc us n t ci N : Nat} {T : u_T} {fs : List Value} {QA : (Nat → Nat) → Option Value → sw_M → Prop} {Q : Option Value → sw_M → Prop}
theorem sw_blind {G : sw_G} {av : List Value} {ws : va_W} {sz : Nat} : FrameBlind (sw_Pc G av ws sz) := fun a U g mk q => by
  obtain ⟨q0, q1, qP, qK, qD⟩ := q
  exact ⟨q0, q1, qP, sw_K.same (u := U) (U := U.calling g mk a) rfl qK, qD⟩
theorem sw_back {p : Program} {e : Env} {R : Room} {s : State} {m : MethodId} {args : Array Value} {below : List Frame} {meth : Method} {c : Code} {A : Nat → Prop} {H : Heap} {locs : List Loc} {ws : va_W} {ls : Array Slot} {rest : List Value} {a : Array Value}
    (C : sw_Cx l G μ E p R s m args meth c A) (hD : va_D A ws) (hS : va_S A s.heap H locs) (hl : lv_has ls (mL μ) lv)
    (hr : va_Run p l e R s m args below meth c H locs uc us (mK μ') (mS μ') (F0 m pc ls st0) rest (sw_QQ G QA (va_A ws H.size) a) (va_A ws H.size))
    (kk : ∀ (al : Nat → Nat) (r : Option Value) (M' : sw_M), QA al r M' → V l (sw_Gw G al) μ E Z (pc + 3) lv (r.toList ++ rest) M' (uc + mK μ') (us + mS μ')) :
    W p l e R s m args below meth c H locs uc us (Z below args s A) (F0 m pc ls st0) := by
  intro T hT X
  obtain ⟨v, st₀, t, T', L, h0, X', hL, e1, e2, ⟨⟨al, r, M', ws1, hv, hq, hR', hP', hK', hD'⟩, hz, hk⟩, stp⟩ := hr T hT X
  cases hv
  rw [h0] at hz hk
  have hA : ∀ q, va_A ws H.size q → A q := by
    intro q h
    rcases h with ⟨k, x, hx⟩ | h
    · exact hD.2 k (q, x) hx
    · exact C.2.2.2.2.2.2.1 q (Nat.le_trans hS.1 h)
  have hS1 : va_S A s.heap T'.heap (locs ++ L) := by
    refine ⟨Nat.le_trans hS.1 (by rw [e1]; exact hz), fun q h1 h2 => ?_, fun q hq => ?_⟩
    · rw [e1, hk q (Nat.lt_of_lt_of_le h1 hS.1) (fun z => h2 (hA q z))]
      exact hS.2.1 q h1 h2
    · rcases List.mem_append.mp hq with h | h
      · exact hS.2.2 q h
      · exact hA _ (hL q h)
  obtain ⟨t2, a1, b1⟩ := kk al v M' hq p e R s m args below meth c A T'.heap (locs ++ L) ws1 ls C (by rw [e1]; exact hP') (hD'.weaken (fun _ q _ h => hA q.1 h)) hS1 hR' hl T' rfl X'
  exact ⟨t2, stp t2 a1, b1⟩
theorem v_callVA (hK : KtA l G μ' (.ref (sw_al G t) :: As) M QA) (hu : uc + mK μ' ≤ mK μ) (hv : us + mS μ' ≤ mS μ) (hb : M t = some (sw_o ci fs)) (hc : vwCl[ci]? = some ((mY μ').cls, T, N)) (hg : Cond.methodLink (mY μ).cls ix (mY μ') ∈ sw_U ∧ sw_mv μ') (hcr : sw_CR μ μ') (hpn : (parseMethodDescriptor (mY μ').desc).map (fun d => d.parameters.length) = some n) (hn : As.length = n) (hst : st0 = As.reverse ++ .ref (sw_al G t) :: st) (h8 : (st.map fun v => v.category).sum ≤ 8) (hd : decode (mC μ) pc = .ok (.invokevirtual ix, 3))
    (kk : ∀ (al : Nat → Nat) (r : Option Value) (M' : sw_M), QA al r M' → V l (sw_Gw G al) μ E Z (pc + 3) lv (r.toList ++ st) M' (uc + mK μ') (us + mS μ')) : V l G μ E Z pc lv st0 M uc us := by
  intro p e R s m args below meth c A H locs ws ls C hP hD hS hR hl
  have hpre : ∀ U : State, U.heap = H → s.WarmedH U.vm → sw_Pc G (.ref (sw_al G t) :: As) ws H.size (.ref (sw_al G t) :: As).toArray U := fun U hU hW => ⟨rfl, by rw [hU], by rw [hU]; exact hP, sw_K.moved hW C.2.2.2.2.2.1, hD.weaken (fun _ _ _ _ => trivial)⟩
  have hroom : mF μ' + 1 ≤ R.frames ∧ 8 + (mL μ' + 11) + 64 * mF μ' ≤ R.locals := ⟨Nat.le_trans hcr.1 C.2.2.2.2.2.2.2.1, Nat.le_trans hcr.2 C.2.2.2.2.2.2.2.2.1⟩
  have hfit : uc + mK μ' ≤ R.cells ∧ us + mS μ' ≤ R.slots := ⟨Nat.le_trans hu C.2.2.2.2.2.2.2.2.2.1, Nat.le_trans hv C.2.2.2.2.2.2.2.2.2.2.1⟩
  have hfix : CallFix p m c (mC μ) (mL μ) s args (mT μ) (mY μ).cls := ⟨C.1, C.2.1, C.2.2.1, C.2.2.2.1, C.2.2.2.2.1⟩
  have hUT : ∀ w ∈ sw_U, w ∈ mT μ := fun w h => List.mem_cons_of_mem _ h
  subst hst
  obtain ⟨q0, hq0⟩ := hR.1 t _ hb
  have hrecv := va_recv C.2.2.2.2.2.1.1 hP hc hq0
  exact sw_back C hD hS hl (va_runV hfix (hK ws H.size hR) (cwV n C.2.2.2.2.1 (sw_gV hg.1 hg.2 hUT) rfl rfl rfl ⟨rfl, hg.2.1.2.1, hg.2.1.2.2.1, hpn⟩ hroom) ⟨sw_blind, hrecv, hpre⟩ rfl hn hl.1 rfl (lv_room h8) hd hfit) kk
/-- .. of a method that makes nothing -/
theorem v_callV (hK : Kt l G μ' (.ref (sw_al G t) :: As) M Q) (h0 : mK μ' = 0 ∧ mS μ' = 0) (hu : uc ≤ mK μ) (hv : us ≤ mS μ) (hb : M t = some (sw_o ci fs)) (hc : vwCl[ci]? = some ((mY μ').cls, T, N)) (hg : Cond.methodLink (mY μ).cls ix (mY μ') ∈ sw_U ∧ sw_mv μ') (hcr : sw_CR μ μ') (hpn : (parseMethodDescriptor (mY μ').desc).map (fun d => d.parameters.length) = some n) (hn : As.length = n) (hst : st0 = As.reverse ++ .ref (sw_al G t) :: st) (h8 : (st.map fun v => v.category).sum ≤ 8) (hd : decode (mC μ) pc = .ok (.invokevirtual ix, 3))
    (kk : ∀ (r : Option Value) (M' : sw_M), Q r M' → V l G μ E Z (pc + 3) lv (r.toList ++ st) M' uc us) : V l G μ E Z pc lv st0 M uc us := by
  refine v_callVA hK (by rw [h0.1]; exact hu) (by rw [h0.2]; exact hv) hb hc hg hcr hpn hn hst h8 hd (fun al r M' h => ?_)
  obtain ⟨rfl, h⟩ := h
  rw [h0.1, h0.2]
  exact kk r M' h
theorem v_callSA (hK : KtA l G μ' (As) M QA) (hu : uc + mK μ' ≤ mK μ) (hv : us + mS μ' ≤ mS μ) (hg : Cond.methodLink (mY μ).cls ix (mY μ') ∈ sw_U ∧ sw_ms μ') (hcr : sw_CR μ μ') (hpn : (parseMethodDescriptor (mY μ').desc).map (fun d => d.parameters.length) = some n) (hn : As.length = n) (hst : st0 = As.reverse ++ st) (h8 : (st.map fun v => v.category).sum ≤ 8) (hd : decode (mC μ) pc = .ok (.invokestatic ix, 3))
    (kk : ∀ (al : Nat → Nat) (r : Option Value) (M' : sw_M), QA al r M' → V l (sw_Gw G al) μ E Z (pc + 3) lv (r.toList ++ st) M' (uc + mK μ') (us + mS μ')) : V l G μ E Z pc lv st0 M uc us := by
  intro p e R s m args below meth c A H locs ws ls C hP hD hS hR hl
  have hpre : ∀ U : State, U.heap = H → s.WarmedH U.vm → sw_Pc G (As) ws H.size (As).toArray U := fun U hU hW => ⟨rfl, by rw [hU], by rw [hU]; exact hP, sw_K.moved hW C.2.2.2.2.2.1, hD.weaken (fun _ _ _ _ => trivial)⟩
  have hroom : mF μ' + 1 ≤ R.frames ∧ 8 + (mL μ' + 11) + 64 * mF μ' ≤ R.locals := ⟨Nat.le_trans hcr.1 C.2.2.2.2.2.2.2.1, Nat.le_trans hcr.2 C.2.2.2.2.2.2.2.2.1⟩
  have hfit : uc + mK μ' ≤ R.cells ∧ us + mS μ' ≤ R.slots := ⟨Nat.le_trans hu C.2.2.2.2.2.2.2.2.2.1, Nat.le_trans hv C.2.2.2.2.2.2.2.2.2.2.1⟩
  have hfix : CallFix p m c (mC μ) (mL μ) s args (mT μ) (mY μ).cls := ⟨C.1, C.2.1, C.2.2.1, C.2.2.2.1, C.2.2.2.2.1⟩
  have hUT : ∀ w ∈ sw_U, w ∈ mT μ := fun w h => List.mem_cons_of_mem _ h
  subst hst
  exact sw_back C hD hS hl (va_runS hfix (hK ws H.size hR) (va_cwS n C.2.2.2.2.1 (sw_gS hg.1 hg.2 hUT) rfl rfl rfl ⟨hg.2.1.2.1, hg.2.1.2.2.1, hpn⟩ hroom) ⟨sw_blind, hpre⟩ rfl hn hl.1 rfl (lv_room h8) hd hfit) kk
/-- .. of a method that makes nothing -/
theorem v_callS (hK : Kt l G μ' (As) M Q) (h0 : mK μ' = 0 ∧ mS μ' = 0) (hu : uc ≤ mK μ) (hv : us ≤ mS μ) (hg : Cond.methodLink (mY μ).cls ix (mY μ') ∈ sw_U ∧ sw_ms μ') (hcr : sw_CR μ μ') (hpn : (parseMethodDescriptor (mY μ').desc).map (fun d => d.parameters.length) = some n) (hn : As.length = n) (hst : st0 = As.reverse ++ st) (h8 : (st.map fun v => v.category).sum ≤ 8) (hd : decode (mC μ) pc = .ok (.invokestatic ix, 3))
    (kk : ∀ (r : Option Value) (M' : sw_M), Q r M' → V l G μ E Z (pc + 3) lv (r.toList ++ st) M' uc us) : V l G μ E Z pc lv st0 M uc us := by
  refine v_callSA hK (by rw [h0.1]; exact hu) (by rw [h0.2]; exact hv) hg hcr hpn hn hst h8 hd (fun al r M' h => ?_)
  obtain ⟨rfl, h⟩ := h
  rw [h0.1, h0.2]
  exact kk r M' h
end SWC
end
section
/-! helpers: cells held, overlays, loops, ranges -/
def sw_hold (M : sw_M) (cs : List sw_Ce) : Prop := ∀ c ∈ cs, M c.1 = some c.2
theorem sw_hold0 {M : sw_M} : sw_hold M [] := fun _ h => absurd h List.not_mem_nil
theorem sw_hold1 {M : sw_M} {c : sw_Ce} {cs : List sw_Ce} (h : M c.1 = some c.2) (hs : sw_hold M cs) : sw_hold M (c :: cs) := fun x hx => (List.mem_cons.mp hx).elim (fun e => by rw [e]; exact h) (hs x)
theorem sw_hold.hd {M : sw_M} {c : sw_Ce} {cs : List sw_Ce} (h : sw_hold M (c :: cs)) : M c.1 = some c.2 := h c List.mem_cons_self
theorem sw_hold.tl {M : sw_M} {c : sw_Ce} {cs : List sw_Ce} (h : sw_hold M (c :: cs)) : sw_hold M cs := fun x hx => h x (List.mem_cons_of_mem _ hx)
theorem sw_hold.app {M : sw_M} {a b : List sw_Ce} (h : sw_hold M a) (k : sw_hold M b) : sw_hold M (a ++ b) := fun x hx => (List.mem_append.mp hx).elim (h x) (k x)
theorem sw_hold.ov {M : sw_M} {cs : List sw_Ce} (h : sw_hold M cs) : M = sw_ov M cs := (sw_ov_self h).symm
theorem sw_hold_all {M : sw_M} {cs : List sw_Ce} (hn : sw_nd (cs.map Prod.fst)) : sw_hold (sw_ov M cs) cs := fun c hc => by
  obtain ⟨k, hk⟩ := List.getElem?_of_mem hc
  exact sw_ov_at hn (q := k) (t := c.1) (x := c.2) hk
/-- the cells at places are held -/
theorem sw_pick {M : sw_M} {cs : List sw_Ce} (hn : sw_nd (cs.map Prod.fst)) (is : List Nat) {wc : List sw_Ce} (h : is.map (fun i => cs[i]?) = wc.map some) : sw_hold (sw_ov M cs) wc := fun c hc => by
  have h1 : some c ∈ wc.map some := List.mem_map.mpr ⟨c, hc, rfl⟩
  rw [← h] at h1
  obtain ⟨k, -, hk⟩ := List.mem_map.mp h1
  exact sw_ov_at hn (q := k) (t := c.1) (x := c.2) hk
theorem sw_nd_of : ∀ {l : List Nat}, l.Nodup → sw_nd l
  | [], _ => trivial
  | a :: l, h => ⟨fun b hb e => (List.nodup_cons.mp h).1 (e ▸ hb), sw_nd_of (List.nodup_cons.mp h).2⟩
/-- cells at places put anew -/
theorem sw_ovp {M : sw_M} {cs w1 : List sw_Ce} (hn : sw_nd (cs.map Prod.fst)) (is : List Nat) (hi : va_nd is = true) (h : is.map (fun i => (cs[i]?).map Prod.fst) = w1.map (fun c => some c.1)) : sw_ov (sw_ov M cs) w1 = sw_ov M (sw_put cs is w1) := by
  obtain ⟨wc, hwc, he⟩ : ∃ wc : List sw_Ce, is.map (fun i => cs[i]?) = wc.map some ∧ w1.map Prod.fst = wc.map Prod.fst := by
    clear hi hn
    induction is generalizing w1 with
    | nil =>
      cases w1 with
      | nil => exact ⟨[], rfl, rfl⟩
      | cons a l => simp at h
    | cons i is ih =>
      cases w1 with
      | nil => simp at h
      | cons a l =>
        simp only [List.map_cons, List.cons.injEq] at h
        obtain ⟨wc, h1, h2⟩ := ih h.2
        cases hx : cs[i]? with
        | none => rw [hx] at h; simp at h
        | some x =>
          rw [hx] at h
          have hf : x.1 = a.1 := by simpa using h.1
          exact ⟨x :: wc, by simp only [List.map_cons, hx, h1], by simp only [List.map_cons, h2, hf]⟩
  exact sw_ov_put hn (sw_nd_pick hn hi hwc) hwc he
theorem sw_h1 {lv : List (Nat × Value)} {i : Nat} {v : Value} {l : List (Nat × Value)} (h : sw_lk lv i = some v) (hs : ∀ q ∈ l, sw_lk lv q.1 = some q.2) : ∀ q ∈ (i, v) :: l, sw_lk lv q.1 = some q.2 := fun q hq => (List.mem_cons.mp hq).elim (fun e => by rw [e]; exact h) (hs q)
theorem sw_h0 {lv : List (Nat × Value)} : ∀ q ∈ ([] : List (Nat × Value)), sw_lk lv q.1 = some q.2 := fun _ h => absurd h List.not_mem_nil
/-- more locals than are needed, a known memory: on to a known place -/
theorem v_to {l : Launch} {G : sw_G} {μ : sw_Mt} {E : State → (Nat → Prop) → Prop} {Z : sw_Z} {pc : Nat} {lv lv' : List (Nat × Value)} {st : List Value} {M M' : sw_M} {uc us : Nat} (k : V l G μ E Z pc lv' st M' uc us) (hM : M = M') (hs : ∀ q ∈ lv', sw_lk lv q.1 = some q.2) : V l G μ E Z pc lv st M uc us := by
  subst hM
  exact v_sub hs k
end
