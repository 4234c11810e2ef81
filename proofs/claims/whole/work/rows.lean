section
-- ===== PART A: goes FIRST, ahead of the names: the tables' words, and 'selects' of the private methods out of them =====
/-- a private method of a class that the tables say can be made, by its rows of tables_1 -/
def lw_okq (q : MethodName × Nat) : Prop := (q.1.cls ≠ "java/lang/invoke/MethodHandle" ∧ q.1.cls ≠ "java/lang/invoke/VarHandle") ∧ Cond.instantiable q.1.cls q.2 ∈ tables_1 ∧ Cond.privateMethod q.1 ∈ tables_1 ∧ Cond.instanceMethod q.1 ∈ tables_1
theorem lw_p0 : lw_okq (⟨"CanonNames$Graph", "isPoint", "(I)Z"⟩, 6) := ⟨⟨by decide +kernel, by decide +kernel⟩, List.mem_of_getElem? (i := 136) (by decide +kernel), List.mem_of_getElem? (i := 241) (by decide +kernel), List.mem_of_getElem? (i := 242) (by decide +kernel)⟩
theorem lw_p1 : lw_okq (⟨"CanonNames$Groups", "compareHashes", "(II)I"⟩, 5) := ⟨⟨by decide +kernel, by decide +kernel⟩, List.mem_of_getElem? (i := 52) (by decide +kernel), List.mem_of_getElem? (i := 287) (by decide +kernel), List.mem_of_getElem? (i := 288) (by decide +kernel)⟩
theorem lw_p2 : lw_okq (⟨"CanonNames$Hasher", "makesMore", "(LCanonNames$Graph;)Z"⟩, 3) := ⟨⟨by decide +kernel, by decide +kernel⟩, List.mem_of_getElem? (i := 46) (by decide +kernel), List.mem_of_getElem? (i := 292) (by decide +kernel), List.mem_of_getElem? (i := 293) (by decide +kernel)⟩
theorem lw_p3 : lw_okq (⟨"CanonNames$Hasher", "describe", "(LCanonNames$Graph;I)I"⟩, 3) := ⟨⟨by decide +kernel, by decide +kernel⟩, List.mem_of_getElem? (i := 46) (by decide +kernel), List.mem_of_getElem? (i := 296) (by decide +kernel), List.mem_of_getElem? (i := 297) (by decide +kernel)⟩
theorem lw_p4 : lw_okq (⟨"CanonNames$Hasher", "putContent", "(LCanonNames$Groups;I)V"⟩, 3) := ⟨⟨by decide +kernel, by decide +kernel⟩, List.mem_of_getElem? (i := 46) (by decide +kernel), List.mem_of_getElem? (i := 319) (by decide +kernel), List.mem_of_getElem? (i := 320) (by decide +kernel)⟩
theorem lw_p5 : lw_okq (⟨"CanonNames$Sha", "mix", "()V"⟩, 4) := ⟨⟨by decide +kernel, by decide +kernel⟩, List.mem_of_getElem? (i := 26) (by decide +kernel), List.mem_of_getElem? (i := 327) (by decide +kernel), List.mem_of_getElem? (i := 328) (by decide +kernel)⟩
theorem lw_p6 : lw_okq (⟨"CanonNames$Hasher", "takeRound", "(LCanonNames$Graph;)V"⟩, 3) := ⟨⟨by decide +kernel, by decide +kernel⟩, List.mem_of_getElem? (i := 46) (by decide +kernel), List.mem_of_getElem? (i := 339) (by decide +kernel), List.mem_of_getElem? (i := 340) (by decide +kernel)⟩
theorem lw_p7 : lw_okq (⟨"CanonNames$LeastRow", "search", "(LCanonNames$Graph;LCanonNames$Graph;II)I"⟩, 4) := ⟨⟨by decide +kernel, by decide +kernel⟩, List.mem_of_getElem? (i := 111) (by decide +kernel), List.mem_of_getElem? (i := 355) (by decide +kernel), List.mem_of_getElem? (i := 356) (by decide +kernel)⟩
theorem lw_p8 : lw_okq (⟨"CanonNames$LeastRow", "layTrial", "(LCanonNames$Graph;II)V"⟩, 4) := ⟨⟨by decide +kernel, by decide +kernel⟩, List.mem_of_getElem? (i := 111) (by decide +kernel), List.mem_of_getElem? (i := 359) (by decide +kernel), List.mem_of_getElem? (i := 360) (by decide +kernel)⟩
theorem lw_p9 : lw_okq (⟨"CanonNames$LeastRow", "settle", "(LCanonNames$Graph;LCanonNames$Graph;I)I"⟩, 4) := ⟨⟨by decide +kernel, by decide +kernel⟩, List.mem_of_getElem? (i := 111) (by decide +kernel), List.mem_of_getElem? (i := 376) (by decide +kernel), List.mem_of_getElem? (i := 377) (by decide +kernel)⟩
theorem lw_p10 : lw_okq (⟨"CanonNames$LeastRow", "greatestDifference", "(I)I"⟩, 4) := ⟨⟨by decide +kernel, by decide +kernel⟩, List.mem_of_getElem? (i := 111) (by decide +kernel), List.mem_of_getElem? (i := 381) (by decide +kernel), List.mem_of_getElem? (i := 382) (by decide +kernel)⟩
theorem lw_p11 : lw_okq (⟨"CanonNames$Matcher", "readLasts", "(LCanonNames$Graph;)V"⟩, 2) := ⟨⟨by decide +kernel, by decide +kernel⟩, List.mem_of_getElem? (i := 97) (by decide +kernel), List.mem_of_getElem? (i := 389) (by decide +kernel), List.mem_of_getElem? (i := 390) (by decide +kernel)⟩
theorem lw_p12 : lw_okq (⟨"CanonNames$Matcher", "keepsTriples", "(LCanonNames$Graph;LCanonNames$Graph;I)Z"⟩, 2) := ⟨⟨by decide +kernel, by decide +kernel⟩, List.mem_of_getElem? (i := 97) (by decide +kernel), List.mem_of_getElem? (i := 395) (by decide +kernel), List.mem_of_getElem? (i := 396) (by decide +kernel)⟩
theorem lw_p13 : lw_okq (⟨"CanonNames$Matcher", "completes", "(LCanonNames$Graph;LCanonNames$Graph;II)Z"⟩, 2) := ⟨⟨by decide +kernel, by decide +kernel⟩, List.mem_of_getElem? (i := 97) (by decide +kernel), List.mem_of_getElem? (i := 401) (by decide +kernel), List.mem_of_getElem? (i := 402) (by decide +kernel)⟩
theorem lw_p14 : lw_okq (⟨"CanonNames$Matcher", "fits", "(LCanonNames$Graph;LCanonNames$Graph;II)Z"⟩, 2) := ⟨⟨by decide +kernel, by decide +kernel⟩, List.mem_of_getElem? (i := 97) (by decide +kernel), List.mem_of_getElem? (i := 405) (by decide +kernel), List.mem_of_getElem? (i := 406) (by decide +kernel)⟩
theorem lw_p15 : lw_okq (⟨"CanonNames", "keptAt", "(I)LCanonNames$Graph;"⟩, 8) := ⟨⟨by decide +kernel, by decide +kernel⟩, List.mem_of_getElem? (i := 18) (by decide +kernel), List.mem_of_getElem? (i := 448) (by decide +kernel), List.mem_of_getElem? (i := 449) (by decide +kernel)⟩
def lw_privs_1 : List (MethodName × Nat) := [(⟨"CanonNames$Graph", "isPoint", "(I)Z"⟩, 6), (⟨"CanonNames$Groups", "compareHashes", "(II)I"⟩, 5), (⟨"CanonNames$Hasher", "makesMore", "(LCanonNames$Graph;)Z"⟩, 3), (⟨"CanonNames$Hasher", "describe", "(LCanonNames$Graph;I)I"⟩, 3), (⟨"CanonNames$Hasher", "putContent", "(LCanonNames$Groups;I)V"⟩, 3), (⟨"CanonNames$Sha", "mix", "()V"⟩, 4), (⟨"CanonNames$Hasher", "takeRound", "(LCanonNames$Graph;)V"⟩, 3), (⟨"CanonNames$LeastRow", "search", "(LCanonNames$Graph;LCanonNames$Graph;II)I"⟩, 4), (⟨"CanonNames$LeastRow", "layTrial", "(LCanonNames$Graph;II)V"⟩, 4), (⟨"CanonNames$LeastRow", "settle", "(LCanonNames$Graph;LCanonNames$Graph;I)I"⟩, 4), (⟨"CanonNames$LeastRow", "greatestDifference", "(I)I"⟩, 4), (⟨"CanonNames$Matcher", "readLasts", "(LCanonNames$Graph;)V"⟩, 2), (⟨"CanonNames$Matcher", "keepsTriples", "(LCanonNames$Graph;LCanonNames$Graph;I)Z"⟩, 2), (⟨"CanonNames$Matcher", "completes", "(LCanonNames$Graph;LCanonNames$Graph;II)Z"⟩, 2), (⟨"CanonNames$Matcher", "fits", "(LCanonNames$Graph;LCanonNames$Graph;II)Z"⟩, 2), (⟨"CanonNames", "keptAt", "(I)LCanonNames$Graph;"⟩, 8)]
theorem lw_r1 : ∀ q ∈ lw_privs_1, lw_okq q := List.forall_mem_cons.mpr ⟨lw_p0, List.forall_mem_cons.mpr ⟨lw_p1, List.forall_mem_cons.mpr ⟨lw_p2, List.forall_mem_cons.mpr ⟨lw_p3, List.forall_mem_cons.mpr ⟨lw_p4, List.forall_mem_cons.mpr ⟨lw_p5, List.forall_mem_cons.mpr ⟨lw_p6, List.forall_mem_cons.mpr ⟨lw_p7, List.forall_mem_cons.mpr ⟨lw_p8, List.forall_mem_cons.mpr ⟨lw_p9, List.forall_mem_cons.mpr ⟨lw_p10, List.forall_mem_cons.mpr ⟨lw_p11, List.forall_mem_cons.mpr ⟨lw_p12, List.forall_mem_cons.mpr ⟨lw_p13, List.forall_mem_cons.mpr ⟨lw_p14, List.forall_mem_cons.mpr ⟨lw_p15, fun _ h => absurd h List.not_mem_nil⟩⟩⟩⟩⟩⟩⟩⟩⟩⟩⟩⟩⟩⟩⟩⟩
theorem lw_p16 : lw_okq (⟨"CanonNames", "becomes", "(LCanonNames$Graph;)Z"⟩, 8) := ⟨⟨by decide +kernel, by decide +kernel⟩, List.mem_of_getElem? (i := 18) (by decide +kernel), List.mem_of_getElem? (i := 452) (by decide +kernel), List.mem_of_getElem? (i := 453) (by decide +kernel)⟩
theorem lw_p17 : lw_okq (⟨"java/lang/Throwable", "fillInStackTrace", "(I)Ljava/lang/Throwable;"⟩, 6) := ⟨⟨by decide +kernel, by decide +kernel⟩, List.mem_of_getElem? (i := 529) (by decide +kernel), List.mem_of_getElem? (i := 527) (by decide +kernel), List.mem_of_getElem? (i := 528) (by decide +kernel)⟩
theorem lw_p18 : lw_okq (⟨"CanonNamesModel", "digestOf", "(I)V"⟩, 27) := ⟨⟨by decide +kernel, by decide +kernel⟩, List.mem_of_getElem? (i := 574) (by decide +kernel), List.mem_of_getElem? (i := 644) (by decide +kernel), List.mem_of_getElem? (i := 645) (by decide +kernel)⟩
theorem lw_p19 : lw_okq (⟨"CanonNamesModel", "block", "(I)V"⟩, 27) := ⟨⟨by decide +kernel, by decide +kernel⟩, List.mem_of_getElem? (i := 574) (by decide +kernel), List.mem_of_getElem? (i := 657) (by decide +kernel), List.mem_of_getElem? (i := 658) (by decide +kernel)⟩
theorem lw_p20 : lw_okq (⟨"CanonNamesModel", "octetsOf", "()V"⟩, 27) := ⟨⟨by decide +kernel, by decide +kernel⟩, List.mem_of_getElem? (i := 574) (by decide +kernel), List.mem_of_getElem? (i := 666) (by decide +kernel), List.mem_of_getElem? (i := 667) (by decide +kernel)⟩
theorem lw_p21 : lw_okq (⟨"CanonNamesModel", "isPoint", "(I)Z"⟩, 27) := ⟨⟨by decide +kernel, by decide +kernel⟩, List.mem_of_getElem? (i := 574) (by decide +kernel), List.mem_of_getElem? (i := 762) (by decide +kernel), List.mem_of_getElem? (i := 763) (by decide +kernel)⟩
theorem lw_p22 : lw_okq (⟨"CanonNamesModel", "find", "(IIII)I"⟩, 27) := ⟨⟨by decide +kernel, by decide +kernel⟩, List.mem_of_getElem? (i := 574) (by decide +kernel), List.mem_of_getElem? (i := 766) (by decide +kernel), List.mem_of_getElem? (i := 767) (by decide +kernel)⟩
theorem lw_p23 : lw_okq (⟨"CanonNamesModel", "makeHashes", "()V"⟩, 27) := ⟨⟨by decide +kernel, by decide +kernel⟩, List.mem_of_getElem? (i := 574) (by decide +kernel), List.mem_of_getElem? (i := 781) (by decide +kernel), List.mem_of_getElem? (i := 782) (by decide +kernel)⟩
theorem lw_p24 : lw_okq (⟨"CanonNamesModel", "next", "(I)V"⟩, 27) := ⟨⟨by decide +kernel, by decide +kernel⟩, List.mem_of_getElem? (i := 574) (by decide +kernel), List.mem_of_getElem? (i := 785) (by decide +kernel), List.mem_of_getElem? (i := 786) (by decide +kernel)⟩
theorem lw_p25 : lw_okq (⟨"CanonNamesModel", "describe", "(II)V"⟩, 27) := ⟨⟨by decide +kernel, by decide +kernel⟩, List.mem_of_getElem? (i := 574) (by decide +kernel), List.mem_of_getElem? (i := 789) (by decide +kernel), List.mem_of_getElem? (i := 790) (by decide +kernel)⟩
theorem lw_p26 : lw_okq (⟨"CanonNamesModel", "sayNumber", "(J)V"⟩, 27) := ⟨⟨by decide +kernel, by decide +kernel⟩, List.mem_of_getElem? (i := 574) (by decide +kernel), List.mem_of_getElem? (i := 794) (by decide +kernel), List.mem_of_getElem? (i := 795) (by decide +kernel)⟩
theorem lw_p27 : lw_okq (⟨"CanonNamesModel", "say", "(I)V"⟩, 27) := ⟨⟨by decide +kernel, by decide +kernel⟩, List.mem_of_getElem? (i := 574) (by decide +kernel), List.mem_of_getElem? (i := 798) (by decide +kernel), List.mem_of_getElem? (i := 799) (by decide +kernel)⟩
theorem lw_p28 : lw_okq (⟨"CanonNamesModel", "isBefore", "(II)Z"⟩, 27) := ⟨⟨by decide +kernel, by decide +kernel⟩, List.mem_of_getElem? (i := 574) (by decide +kernel), List.mem_of_getElem? (i := 802) (by decide +kernel), List.mem_of_getElem? (i := 803) (by decide +kernel)⟩
theorem lw_p29 : lw_okq (⟨"CanonNamesModel", "different", "([J)I"⟩, 27) := ⟨⟨by decide +kernel, by decide +kernel⟩, List.mem_of_getElem? (i := 574) (by decide +kernel), List.mem_of_getElem? (i := 806) (by decide +kernel), List.mem_of_getElem? (i := 807) (by decide +kernel)⟩
theorem lw_p30 : lw_okq (⟨"CanonNamesModel", "makeGroups", "(I)V"⟩, 27) := ⟨⟨by decide +kernel, by decide +kernel⟩, List.mem_of_getElem? (i := 574) (by decide +kernel), List.mem_of_getElem? (i := 813) (by decide +kernel), List.mem_of_getElem? (i := 814) (by decide +kernel)⟩
theorem lw_p31 : lw_okq (⟨"CanonNamesModel", "namings", "()J"⟩, 27) := ⟨⟨by decide +kernel, by decide +kernel⟩, List.mem_of_getElem? (i := 574) (by decide +kernel), List.mem_of_getElem? (i := 829) (by decide +kernel), List.mem_of_getElem? (i := 830) (by decide +kernel)⟩
def lw_privs_2 : List (MethodName × Nat) := [(⟨"CanonNames", "becomes", "(LCanonNames$Graph;)Z"⟩, 8), (⟨"java/lang/Throwable", "fillInStackTrace", "(I)Ljava/lang/Throwable;"⟩, 6), (⟨"CanonNamesModel", "digestOf", "(I)V"⟩, 27), (⟨"CanonNamesModel", "block", "(I)V"⟩, 27), (⟨"CanonNamesModel", "octetsOf", "()V"⟩, 27), (⟨"CanonNamesModel", "isPoint", "(I)Z"⟩, 27), (⟨"CanonNamesModel", "find", "(IIII)I"⟩, 27), (⟨"CanonNamesModel", "makeHashes", "()V"⟩, 27), (⟨"CanonNamesModel", "next", "(I)V"⟩, 27), (⟨"CanonNamesModel", "describe", "(II)V"⟩, 27), (⟨"CanonNamesModel", "sayNumber", "(J)V"⟩, 27), (⟨"CanonNamesModel", "say", "(I)V"⟩, 27), (⟨"CanonNamesModel", "isBefore", "(II)Z"⟩, 27), (⟨"CanonNamesModel", "different", "([J)I"⟩, 27), (⟨"CanonNamesModel", "makeGroups", "(I)V"⟩, 27), (⟨"CanonNamesModel", "namings", "()J"⟩, 27)]
theorem lw_r2 : ∀ q ∈ lw_privs_2, lw_okq q := List.forall_mem_cons.mpr ⟨lw_p16, List.forall_mem_cons.mpr ⟨lw_p17, List.forall_mem_cons.mpr ⟨lw_p18, List.forall_mem_cons.mpr ⟨lw_p19, List.forall_mem_cons.mpr ⟨lw_p20, List.forall_mem_cons.mpr ⟨lw_p21, List.forall_mem_cons.mpr ⟨lw_p22, List.forall_mem_cons.mpr ⟨lw_p23, List.forall_mem_cons.mpr ⟨lw_p24, List.forall_mem_cons.mpr ⟨lw_p25, List.forall_mem_cons.mpr ⟨lw_p26, List.forall_mem_cons.mpr ⟨lw_p27, List.forall_mem_cons.mpr ⟨lw_p28, List.forall_mem_cons.mpr ⟨lw_p29, List.forall_mem_cons.mpr ⟨lw_p30, List.forall_mem_cons.mpr ⟨lw_p31, fun _ h => absurd h List.not_mem_nil⟩⟩⟩⟩⟩⟩⟩⟩⟩⟩⟩⟩⟩⟩⟩⟩
theorem lw_p32 : lw_okq (⟨"CanonNamesModel", "begin", "(I)V"⟩, 27) := ⟨⟨by decide +kernel, by decide +kernel⟩, List.mem_of_getElem? (i := 574) (by decide +kernel), List.mem_of_getElem? (i := 833) (by decide +kernel), List.mem_of_getElem? (i := 834) (by decide +kernel)⟩
theorem lw_p33 : lw_okq (⟨"CanonNamesModel", "isNaming", "(I)Z"⟩, 27) := ⟨⟨by decide +kernel, by decide +kernel⟩, List.mem_of_getElem? (i := 574) (by decide +kernel), List.mem_of_getElem? (i := 837) (by decide +kernel), List.mem_of_getElem? (i := 838) (by decide +kernel)⟩
theorem lw_p34 : lw_okq (⟨"CanonNamesModel", "makeRow", "()V"⟩, 27) := ⟨⟨by decide +kernel, by decide +kernel⟩, List.mem_of_getElem? (i := 574) (by decide +kernel), List.mem_of_getElem? (i := 841) (by decide +kernel), List.mem_of_getElem? (i := 842) (by decide +kernel)⟩
theorem lw_p35 : lw_okq (⟨"CanonNamesModel", "numbered", "(I)I"⟩, 27) := ⟨⟨by decide +kernel, by decide +kernel⟩, List.mem_of_getElem? (i := 574) (by decide +kernel), List.mem_of_getElem? (i := 845) (by decide +kernel), List.mem_of_getElem? (i := 846) (by decide +kernel)⟩
theorem lw_p36 : lw_okq (⟨"CanonNamesModel", "compareForm", "()I"⟩, 27) := ⟨⟨by decide +kernel, by decide +kernel⟩, List.mem_of_getElem? (i := 574) (by decide +kernel), List.mem_of_getElem? (i := 852) (by decide +kernel), List.mem_of_getElem? (i := 853) (by decide +kernel)⟩
theorem lw_p37 : lw_okq (⟨"CanonNamesModel", "take", "(I)V"⟩, 27) := ⟨⟨by decide +kernel, by decide +kernel⟩, List.mem_of_getElem? (i := 574) (by decide +kernel), List.mem_of_getElem? (i := 856) (by decide +kernel), List.mem_of_getElem? (i := 857) (by decide +kernel)⟩
theorem lw_p38 : lw_okq (⟨"CanonNamesModel", "turn", "(I)Z"⟩, 27) := ⟨⟨by decide +kernel, by decide +kernel⟩, List.mem_of_getElem? (i := 574) (by decide +kernel), List.mem_of_getElem? (i := 860) (by decide +kernel), List.mem_of_getElem? (i := 861) (by decide +kernel)⟩
theorem lw_p39 : lw_okq (⟨"CanonNamesModel", "change", "(II)V"⟩, 27) := ⟨⟨by decide +kernel, by decide +kernel⟩, List.mem_of_getElem? (i := 574) (by decide +kernel), List.mem_of_getElem? (i := 864) (by decide +kernel), List.mem_of_getElem? (i := 865) (by decide +kernel)⟩
theorem lw_p40 : lw_okq (⟨"CanonNamesModel", "isKept", "(I)Z"⟩, 27) := ⟨⟨by decide +kernel, by decide +kernel⟩, List.mem_of_getElem? (i := 574) (by decide +kernel), List.mem_of_getElem? (i := 888) (by decide +kernel), List.mem_of_getElem? (i := 889) (by decide +kernel)⟩
theorem lw_p41 : lw_okq (⟨"CanonNamesModel", "becomes", "(I)Z"⟩, 27) := ⟨⟨by decide +kernel, by decide +kernel⟩, List.mem_of_getElem? (i := 574) (by decide +kernel), List.mem_of_getElem? (i := 892) (by decide +kernel), List.mem_of_getElem? (i := 893) (by decide +kernel)⟩
def lw_privs_3 : List (MethodName × Nat) := [(⟨"CanonNamesModel", "begin", "(I)V"⟩, 27), (⟨"CanonNamesModel", "isNaming", "(I)Z"⟩, 27), (⟨"CanonNamesModel", "makeRow", "()V"⟩, 27), (⟨"CanonNamesModel", "numbered", "(I)I"⟩, 27), (⟨"CanonNamesModel", "compareForm", "()I"⟩, 27), (⟨"CanonNamesModel", "take", "(I)V"⟩, 27), (⟨"CanonNamesModel", "turn", "(I)Z"⟩, 27), (⟨"CanonNamesModel", "change", "(II)V"⟩, 27), (⟨"CanonNamesModel", "isKept", "(I)Z"⟩, 27), (⟨"CanonNamesModel", "becomes", "(I)Z"⟩, 27)]
theorem lw_r3 : ∀ q ∈ lw_privs_3, lw_okq q := List.forall_mem_cons.mpr ⟨lw_p32, List.forall_mem_cons.mpr ⟨lw_p33, List.forall_mem_cons.mpr ⟨lw_p34, List.forall_mem_cons.mpr ⟨lw_p35, List.forall_mem_cons.mpr ⟨lw_p36, List.forall_mem_cons.mpr ⟨lw_p37, List.forall_mem_cons.mpr ⟨lw_p38, List.forall_mem_cons.mpr ⟨lw_p39, List.forall_mem_cons.mpr ⟨lw_p40, List.forall_mem_cons.mpr ⟨lw_p41, fun _ h => absurd h List.not_mem_nil⟩⟩⟩⟩⟩⟩⟩⟩⟩⟩
def lw_privs : List (MethodName × Nat) := lw_privs_1 ++ (lw_privs_2 ++ (lw_privs_3))
def lw_tbl : List Cond := k2_sels lw_privs ++ tables_1
theorem lw_privs_ok : ∀ q ∈ lw_privs, lw_okq q := by
  show ∀ q ∈ lw_privs_1 ++ (lw_privs_2 ++ (lw_privs_3)), lw_okq q
  exact List.forall_mem_append.mpr ⟨lw_r1, List.forall_mem_append.mpr ⟨lw_r2, lw_r3⟩⟩
end
section
def RX0 : String := "CanonNames$Graph"
def TX0 : u_T := fun k => match k with
  | 0 => ("CanonNames$Graph", "keys", "[I", true)
  | 1 => ("CanonNames$Graph", "blanks", "I", false)
  | 2 => ("CanonNames$Graph", "triples", "I", false)
  | 3 => ("CanonNames$Graph", "hashed", "Z", false)
  | 4 => ("CanonNames$Graph", "rounds", "I", false)
  | _ => ("CanonNames$Graph", "groups", "LCanonNames$Groups;", false)
def tyX0 : Nat → FieldType := fun k => match k with
  | 0 => .array .int
  | 1 => .int
  | 2 => .int
  | 3 => .boolean
  | 4 => .int
  | _ => .object "CanonNames$Groups"
abbrev wsX00 : List Cond := u_ws RX0 TX0 6
theorem nmX0 : ∀ a, a < 6 → ∀ b, b < 6 → a ≠ b → (TX0 a).2.1 ≠ (TX0 b).2.1 := by decide +kernel
theorem tyX0_ok : ∀ k, k < 6 → parseFieldDescriptor (TX0 k).2.2.1 = some (tyX0 k) := by decide +kernel
abbrev cX0_init : ByteArray := prog_2_method_1_code
def yX0_init : MethodName := ⟨RX0, "<init>", "()V"⟩
abbrev cX0_hasPoints : ByteArray := prog_2_method_2_code
def yX0_hasPoints : MethodName := ⟨RX0, "hasPoints", "(III)Z"⟩
abbrev cX0_isPoint : ByteArray := prog_2_method_3_code
def yX0_isPoint : MethodName := ⟨RX0, "isPoint", "(I)Z"⟩
abbrev cX0_holds : ByteArray := prog_2_method_4_code
def yX0_holds : MethodName := ⟨RX0, "holds", "(I)Z"⟩
abbrev cX0_hasSizesOf : ByteArray := prog_2_method_5_code
def yX0_hasSizesOf : MethodName := ⟨RX0, "hasSizesOf", "(LCanonNames$Graph;)Z"⟩
abbrev cX0_insert : ByteArray := prog_2_method_6_code
def yX0_insert : MethodName := ⟨RX0, "insert", "(I)V"⟩
abbrev cX0_remove : ByteArray := prog_2_method_7_code
def yX0_remove : MethodName := ⟨RX0, "remove", "(I)V"⟩
def RX1 : String := "CanonNames$Groups"
def TX1 : u_T := fun k => match k with
  | 0 => ("CanonNames$Groups", "hashes", "[I", true)
  | 1 => ("CanonNames$Groups", "order", "[I", true)
  | 2 => ("CanonNames$Groups", "rank", "[I", true)
  | 3 => ("CanonNames$Groups", "start", "[I", true)
  | _ => ("CanonNames$Groups", "count", "I", false)
def tyX1 : Nat → FieldType := fun k => match k with
  | 0 => .array .int
  | 1 => .array .int
  | 2 => .array .int
  | 3 => .array .int
  | _ => .int
abbrev wsX10 : List Cond := u_ws RX1 TX1 5
theorem nmX1 : ∀ a, a < 5 → ∀ b, b < 5 → a ≠ b → (TX1 a).2.1 ≠ (TX1 b).2.1 := by decide +kernel
theorem tyX1_ok : ∀ k, k < 5 → parseFieldDescriptor (TX1 k).2.2.1 = some (tyX1 k) := by decide +kernel
abbrev cX1_init : ByteArray := prog_3_method_1_code
def yX1_init : MethodName := ⟨RX1, "<init>", "()V"⟩
abbrev cX1_sizeOf : ByteArray := prog_3_method_2_code
def yX1_sizeOf : MethodName := ⟨RX1, "sizeOf", "(I)I"⟩
abbrev cX1_arrange : ByteArray := prog_3_method_3_code
def yX1_arrange : MethodName := ⟨RX1, "arrange", "(I)V"⟩
abbrev cX1_compareHashes : ByteArray := prog_3_method_4_code
def yX1_compareHashes : MethodName := ⟨RX1, "compareHashes", "(II)I"⟩
abbrev cX1_hasHashesOf : ByteArray := prog_3_method_5_code
def yX1_hasHashesOf : MethodName := ⟨RX1, "hasHashesOf", "(LCanonNames$Groups;I)Z"⟩
abbrev cX1_namings : ByteArray := prog_3_method_6_code
def yX1_namings : MethodName := ⟨RX1, "namings", "()I"⟩
def RX2 : String := "CanonNames$Hasher"
def TX2 : u_T := fun k => match k with
  | 0 => ("CanonNames$Hasher", "sha", "LCanonNames$Sha;", true)
  | 1 => ("CanonNames$Hasher", "descriptions", "[I", true)
  | _ => ("CanonNames$Hasher", "next", "LCanonNames$Groups;", false)
def tyX2 : Nat → FieldType := fun k => match k with
  | 0 => .object "CanonNames$Sha"
  | 1 => .array .int
  | _ => .object "CanonNames$Groups"
abbrev wsX20 : List Cond := u_ws RX2 TX2 3
theorem nmX2 : ∀ a, a < 3 → ∀ b, b < 3 → a ≠ b → (TX2 a).2.1 ≠ (TX2 b).2.1 := by decide +kernel
theorem tyX2_ok : ∀ k, k < 3 → parseFieldDescriptor (TX2 k).2.2.1 = some (tyX2 k) := by decide +kernel
abbrev cX2_init : ByteArray := prog_4_method_1_code
def yX2_init : MethodName := ⟨RX2, "<init>", "(LCanonNames$Sha;)V"⟩
abbrev cX2_refresh : ByteArray := prog_4_method_2_code
def yX2_refresh : MethodName := ⟨RX2, "refresh", "(LCanonNames$Graph;)V"⟩
abbrev cX2_makesMore : ByteArray := prog_4_method_3_code
def yX2_makesMore : MethodName := ⟨RX2, "makesMore", "(LCanonNames$Graph;)Z"⟩
abbrev cX2_takeRound : ByteArray := prog_4_method_4_code
def yX2_takeRound : MethodName := ⟨RX2, "takeRound", "(LCanonNames$Graph;)V"⟩
abbrev cX2_describe : ByteArray := prog_4_method_5_code
def yX2_describe : MethodName := ⟨RX2, "describe", "(LCanonNames$Graph;I)I"⟩
abbrev cX2_partFor : ByteArray := prog_4_method_6_code
def yX2_partFor : MethodName := ⟨RX2, "partFor", "(LCanonNames$Groups;II)I"⟩
abbrev cX2_putContent : ByteArray := prog_4_method_7_code
def yX2_putContent : MethodName := ⟨RX2, "putContent", "(LCanonNames$Groups;I)V"⟩
def RX3 : String := "CanonNames$LeastRow"
def TX3 : u_T := fun k => match k with
  | 0 => ("CanonNames$LeastRow", "numbers", "[I", true)
  | 1 => ("CanonNames$LeastRow", "bestNumbers", "[I", true)
  | 2 => ("CanonNames$LeastRow", "trial", "[I", true)
  | _ => ("CanonNames$LeastRow", "found", "Z", false)
def tyX3 : Nat → FieldType := fun k => match k with
  | 0 => .array .int
  | 1 => .array .int
  | 2 => .array .int
  | _ => .boolean
abbrev wsX30 : List Cond := u_ws RX3 TX3 4
theorem nmX3 : ∀ a, a < 4 → ∀ b, b < 4 → a ≠ b → (TX3 a).2.1 ≠ (TX3 b).2.1 := by decide +kernel
theorem tyX3_ok : ∀ k, k < 4 → parseFieldDescriptor (TX3 k).2.2.1 = some (tyX3 k) := by decide +kernel
abbrev cX3_init : ByteArray := prog_5_method_1_code
def yX3_init : MethodName := ⟨RX3, "<init>", "()V"⟩
abbrev cX3_find : ByteArray := prog_5_method_2_code
def yX3_find : MethodName := ⟨RX3, "find", "(LCanonNames$Graph;LCanonNames$Graph;)V"⟩
abbrev cX3_search : ByteArray := prog_5_method_3_code
def yX3_search : MethodName := ⟨RX3, "search", "(LCanonNames$Graph;LCanonNames$Graph;II)I"⟩
abbrev cX3_settle : ByteArray := prog_5_method_4_code
def yX3_settle : MethodName := ⟨RX3, "settle", "(LCanonNames$Graph;LCanonNames$Graph;I)I"⟩
abbrev cX3_greatestDifference : ByteArray := prog_5_method_5_code
def yX3_greatestDifference : MethodName := ⟨RX3, "greatestDifference", "(I)I"⟩
abbrev cX3_layTrial : ByteArray := prog_5_method_6_code
def yX3_layTrial : MethodName := ⟨RX3, "layTrial", "(LCanonNames$Graph;II)V"⟩
abbrev cX3_compare : ByteArray := prog_5_method_7_code
def yX3_compare : MethodName := ⟨RX3, "compare", "([I[II)I"⟩
def RX4 : String := "CanonNames$Matcher"
def TX4 : u_T := fun k => match k with
  | 0 => ("CanonNames$Matcher", "images", "[I", true)
  | _ => ("CanonNames$Matcher", "lasts", "[I", true)
def tyX4 : Nat → FieldType := fun k => match k with
  | 0 => .array .int
  | _ => .array .int
abbrev wsX40 : List Cond := u_ws RX4 TX4 2
theorem nmX4 : ∀ a, a < 2 → ∀ b, b < 2 → a ≠ b → (TX4 a).2.1 ≠ (TX4 b).2.1 := by decide +kernel
theorem tyX4_ok : ∀ k, k < 2 → parseFieldDescriptor (TX4 k).2.2.1 = some (tyX4 k) := by decide +kernel
abbrev cX4_init : ByteArray := prog_6_method_1_code
def yX4_init : MethodName := ⟨RX4, "<init>", "()V"⟩
abbrev cX4_matches : ByteArray := prog_6_method_2_code
def yX4_matches : MethodName := ⟨RX4, "matches", "(LCanonNames$Graph;LCanonNames$Graph;)Z"⟩
abbrev cX4_automorphisms : ByteArray := prog_6_method_3_code
def yX4_automorphisms : MethodName := ⟨RX4, "automorphisms", "(LCanonNames$Graph;)I"⟩
abbrev cX4_readLasts : ByteArray := prog_6_method_4_code
def yX4_readLasts : MethodName := ⟨RX4, "readLasts", "(LCanonNames$Graph;)V"⟩
abbrev cX4_completes : ByteArray := prog_6_method_5_code
def yX4_completes : MethodName := ⟨RX4, "completes", "(LCanonNames$Graph;LCanonNames$Graph;II)Z"⟩
abbrev cX4_fits : ByteArray := prog_6_method_6_code
def yX4_fits : MethodName := ⟨RX4, "fits", "(LCanonNames$Graph;LCanonNames$Graph;II)Z"⟩
abbrev cX4_keepsTriples : ByteArray := prog_6_method_7_code
def yX4_keepsTriples : MethodName := ⟨RX4, "keepsTriples", "(LCanonNames$Graph;LCanonNames$Graph;I)Z"⟩
def RX5 : String := "CanonNames$Named"
def TX5 : u_T := fun k => match k with
  | 0 => ("CanonNames$Named", "form", "LCanonNames$Graph;", true)
  | 1 => ("CanonNames$Named", "numbers", "[I", true)
  | 2 => ("CanonNames$Named", "digest", "[I", true)
  | _ => ("CanonNames$Named", "digested", "Z", false)
def tyX5 : Nat → FieldType := fun k => match k with
  | 0 => .object "CanonNames$Graph"
  | 1 => .array .int
  | 2 => .array .int
  | _ => .boolean
abbrev wsX50 : List Cond := u_ws RX5 TX5 4
theorem nmX5 : ∀ a, a < 4 → ∀ b, b < 4 → a ≠ b → (TX5 a).2.1 ≠ (TX5 b).2.1 := by decide +kernel
theorem tyX5_ok : ∀ k, k < 4 → parseFieldDescriptor (TX5 k).2.2.1 = some (tyX5 k) := by decide +kernel
abbrev cX5_init : ByteArray := prog_7_method_1_code
def yX5_init : MethodName := ⟨RX5, "<init>", "()V"⟩
abbrev cX5_adopt : ByteArray := prog_7_method_2_code
def yX5_adopt : MethodName := ⟨RX5, "adopt", "([II)V"⟩
abbrev cX5_refreshDigest : ByteArray := prog_7_method_3_code
def yX5_refreshDigest : MethodName := ⟨RX5, "refreshDigest", "(LCanonNames$Sha;)V"⟩
def RX6 : String := "CanonNames$Sha"
def TX6 : u_T := fun k => match k with
  | 0 => ("CanonNames$Sha", "state", "[I", true)
  | 1 => ("CanonNames$Sha", "words", "[I", true)
  | 2 => ("CanonNames$Sha", "filled", "I", false)
  | _ => ("CanonNames$Sha", "length", "I", false)
def tyX6 : Nat → FieldType := fun k => match k with
  | 0 => .array .int
  | 1 => .array .int
  | 2 => .int
  | _ => .int
abbrev wsX60 : List Cond := u_ws RX6 TX6 4
theorem nmX6 : ∀ a, a < 4 → ∀ b, b < 4 → a ≠ b → (TX6 a).2.1 ≠ (TX6 b).2.1 := by decide +kernel
theorem tyX6_ok : ∀ k, k < 4 → parseFieldDescriptor (TX6 k).2.2.1 = some (tyX6 k) := by decide +kernel
abbrev cX6_init : ByteArray := prog_8_method_1_code
def yX6_init : MethodName := ⟨RX6, "<init>", "()V"⟩
abbrev cX6_begin : ByteArray := prog_8_method_2_code
def yX6_begin : MethodName := ⟨RX6, "begin", "()V"⟩
abbrev cX6_put : ByteArray := prog_8_method_3_code
def yX6_put : MethodName := ⟨RX6, "put", "(II)V"⟩
abbrev cX6_end : ByteArray := prog_8_method_4_code
def yX6_end : MethodName := ⟨RX6, "end", "([II)V"⟩
abbrev cX6_mix : ByteArray := prog_8_method_5_code
def yX6_mix : MethodName := ⟨RX6, "mix", "()V"⟩
def RX7 : String := "CanonNames"
def TX7 : u_T := fun k => match k with
  | 0 => ("CanonNames", "sha", "LCanonNames$Sha;", true)
  | 1 => ("CanonNames", "hasher", "LCanonNames$Hasher;", true)
  | 2 => ("CanonNames", "matcher", "LCanonNames$Matcher;", true)
  | 3 => ("CanonNames", "leastRow", "LCanonNames$LeastRow;", true)
  | 4 => ("CanonNames", "latest", "LCanonNames$Named;", true)
  | 5 => ("CanonNames", "kept", "[LCanonNames$Graph;", true)
  | 6 => ("CanonNames", "keptCount", "I", false)
  | _ => ("CanonNames", "graph", "LCanonNames$Graph;", false)
def tyX7 : Nat → FieldType := fun k => match k with
  | 0 => .object "CanonNames$Sha"
  | 1 => .object "CanonNames$Hasher"
  | 2 => .object "CanonNames$Matcher"
  | 3 => .object "CanonNames$LeastRow"
  | 4 => .object "CanonNames$Named"
  | 5 => .array (.object "CanonNames$Graph")
  | 6 => .int
  | _ => .object "CanonNames$Graph"
abbrev wsX70 : List Cond := u_ws RX7 TX7 8
theorem nmX7 : ∀ a, a < 8 → ∀ b, b < 8 → a ≠ b → (TX7 a).2.1 ≠ (TX7 b).2.1 := by decide +kernel
theorem tyX7_ok : ∀ k, k < 8 → parseFieldDescriptor (TX7 k).2.2.1 = some (tyX7 k) := by decide +kernel
abbrev cX7_init : ByteArray := prog_1_method_1_code
def yX7_init : MethodName := ⟨RX7, "<init>", "()V"⟩
abbrev cX7_blank : ByteArray := prog_1_method_2_code
def yX7_blank : MethodName := ⟨RX7, "blank", "()I"⟩
abbrev cX7_triple : ByteArray := prog_1_method_3_code
def yX7_triple : MethodName := ⟨RX7, "triple", "(III)I"⟩
abbrev cX7_drop : ByteArray := prog_1_method_4_code
def yX7_drop : MethodName := ⟨RX7, "drop", "(III)I"⟩
abbrev cX7_name : ByteArray := prog_1_method_5_code
def yX7_name : MethodName := ⟨RX7, "name", "(J)I"⟩
abbrev cX7_named : ByteArray := prog_1_method_6_code
def yX7_named : MethodName := ⟨RX7, "named", "(I)I"⟩
abbrev cX7_form : ByteArray := prog_1_method_7_code
def yX7_form : MethodName := ⟨RX7, "form", "(II)I"⟩
abbrev cX7_octet : ByteArray := prog_1_method_8_code
def yX7_octet : MethodName := ⟨RX7, "octet", "(I)B"⟩
abbrev cX7_hash : ByteArray := prog_1_method_9_code
def yX7_hash : MethodName := ⟨RX7, "hash", "(II)I"⟩
abbrev cX7_rounds : ByteArray := prog_1_method_10_code
def yX7_rounds : MethodName := ⟨RX7, "rounds", "()I"⟩
abbrev cX7_first : ByteArray := prog_1_method_11_code
def yX7_first : MethodName := ⟨RX7, "first", "(II)I"⟩
abbrev cX7_keep : ByteArray := prog_1_method_12_code
def yX7_keep : MethodName := ⟨RX7, "keep", "()I"⟩
abbrev cX7_isomorphic : ByteArray := prog_1_method_13_code
def yX7_isomorphic : MethodName := ⟨RX7, "isomorphic", "(I)I"⟩
abbrev cX7_ways : ByteArray := prog_1_method_14_code
def yX7_ways : MethodName := ⟨RX7, "ways", "(I)I"⟩
abbrev cX7_equal : ByteArray := prog_1_method_15_code
def yX7_equal : MethodName := ⟨RX7, "equal", "(I)I"⟩
abbrev cX7_triples : ByteArray := prog_1_method_16_code
def yX7_triples : MethodName := ⟨RX7, "triples", "()I"⟩
abbrev cX7_blanks : ByteArray := prog_1_method_17_code
def yX7_blanks : MethodName := ⟨RX7, "blanks", "()I"⟩
abbrev cX7_keptAt : ByteArray := prog_1_method_18_code
def yX7_keptAt : MethodName := ⟨RX7, "keptAt", "(I)LCanonNames$Graph;"⟩
abbrev cX7_becomes : ByteArray := prog_1_method_19_code
def yX7_becomes : MethodName := ⟨RX7, "becomes", "(LCanonNames$Graph;)Z"⟩
abbrev cX7_keyOf : ByteArray := prog_1_method_20_code
def yX7_keyOf : MethodName := ⟨RX7, "keyOf", "(III)I"⟩
abbrev cX7_partAt : ByteArray := prog_1_method_21_code
def yX7_partAt : MethodName := ⟨RX7, "partAt", "(II)I"⟩
abbrev cX7_pointAt : ByteArray := prog_1_method_22_code
def yX7_pointAt : MethodName := ⟨RX7, "pointAt", "(II)I"⟩
abbrev cX7_renumbered : ByteArray := prog_1_method_23_code
def yX7_renumbered : MethodName := ⟨RX7, "renumbered", "(I[I)I"⟩
abbrev cX7_sort : ByteArray := prog_1_method_24_code
def yX7_sort : MethodName := ⟨RX7, "sort", "([II)V"⟩
abbrev cX7_placeFor : ByteArray := prog_1_method_25_code
def yX7_placeFor : MethodName := ⟨RX7, "placeFor", "(I[II)I"⟩
abbrev cX7_isIn : ByteArray := prog_1_method_26_code
def yX7_isIn : MethodName := ⟨RX7, "isIn", "(I[II)Z"⟩
abbrev cX7_sameRows : ByteArray := prog_1_method_27_code
def yX7_sameRows : MethodName := ⟨RX7, "sameRows", "([I[II)Z"⟩
def RX8 : String := "CanonNamesModel"
def TX8 : u_T := fun k => match k with
  | 0 => ("CanonNamesModel", "constants", "[J", true)
  | 1 => ("CanonNamesModel", "blanks", "[I", true)
  | 2 => ("CanonNamesModel", "counts", "[I", true)
  | 3 => ("CanonNamesModel", "points", "[I", true)
  | 4 => ("CanonNamesModel", "kept", "I", false)
  | 5 => ("CanonNamesModel", "hashes", "[J", true)
  | 6 => ("CanonNamesModel", "news", "[J", true)
  | 7 => ("CanonNamesModel", "rounds", "I", false)
  | 8 => ("CanonNamesModel", "hashed", "Z", false)
  | 9 => ("CanonNamesModel", "groups", "[I", true)
  | 10 => ("CanonNamesModel", "groupOf", "[I", true)
  | 11 => ("CanonNamesModel", "groupCount", "I", false)
  | 12 => ("CanonNamesModel", "trial", "[I", true)
  | 13 => ("CanonNamesModel", "row", "[I", true)
  | 14 => ("CanonNamesModel", "names", "[I", true)
  | 15 => ("CanonNamesModel", "namedBlanks", "I", false)
  | 16 => ("CanonNamesModel", "form", "[I", true)
  | 17 => ("CanonNamesModel", "formCount", "I", false)
  | 18 => ("CanonNamesModel", "octets", "[B", true)
  | 19 => ("CanonNamesModel", "descriptions", "[I", true)
  | 20 => ("CanonNamesModel", "described", "I", false)
  | 21 => ("CanonNamesModel", "message", "[B", true)
  | 22 => ("CanonNamesModel", "size", "I", false)
  | 23 => ("CanonNamesModel", "words", "[J", true)
  | 24 => ("CanonNamesModel", "schedule", "[J", true)
  | 25 => ("CanonNamesModel", "thrown", "I", false)
  | _ => ("CanonNamesModel", "said", "[Z", true)
def tyX8 : Nat → FieldType := fun k => match k with
  | 0 => .array .long
  | 1 => .array .int
  | 2 => .array .int
  | 3 => .array .int
  | 4 => .int
  | 5 => .array .long
  | 6 => .array .long
  | 7 => .int
  | 8 => .boolean
  | 9 => .array .int
  | 10 => .array .int
  | 11 => .int
  | 12 => .array .int
  | 13 => .array .int
  | 14 => .array .int
  | 15 => .int
  | 16 => .array .int
  | 17 => .int
  | 18 => .array .byte
  | 19 => .array .int
  | 20 => .int
  | 21 => .array .byte
  | 22 => .int
  | 23 => .array .long
  | 24 => .array .long
  | 25 => .int
  | _ => .array .boolean
abbrev wsX80 : List Cond := u_ws RX8 TX8 27
theorem nmX8 : ∀ a, a < 27 → ∀ b, b < 27 → a ≠ b → (TX8 a).2.1 ≠ (TX8 b).2.1 := by decide +kernel
theorem tyX8_ok : ∀ k, k < 27 → parseFieldDescriptor (TX8 k).2.2.1 = some (tyX8 k) := by decide +kernel
abbrev cX8_thrown : ByteArray := prog_10_method_1_code
def yX8_thrown : MethodName := ⟨RX8, "thrown", "()I"⟩
abbrev cX8_init : ByteArray := prog_10_method_2_code
def yX8_init : MethodName := ⟨RX8, "<init>", "()V"⟩
abbrev cX8_turned : ByteArray := prog_10_method_3_code
def yX8_turned : MethodName := ⟨RX8, "turned", "(JI)J"⟩
abbrev cX8_digestOf : ByteArray := prog_10_method_4_code
def yX8_digestOf : MethodName := ⟨RX8, "digestOf", "(I)V"⟩
abbrev cX8_block : ByteArray := prog_10_method_5_code
def yX8_block : MethodName := ⟨RX8, "block", "(I)V"⟩
abbrev cX8_octetsOf : ByteArray := prog_10_method_6_code
def yX8_octetsOf : MethodName := ⟨RX8, "octetsOf", "()V"⟩
abbrev cX8_say : ByteArray := prog_10_method_7_code
def yX8_say : MethodName := ⟨RX8, "say", "(I)V"⟩
abbrev cX8_sayNumber : ByteArray := prog_10_method_8_code
def yX8_sayNumber : MethodName := ⟨RX8, "sayNumber", "(J)V"⟩
abbrev cX8_at : ByteArray := prog_10_method_9_code
def yX8_at : MethodName := ⟨RX8, "at", "(II)I"⟩
abbrev cX8_blank : ByteArray := prog_10_method_10_code
def yX8_blank : MethodName := ⟨RX8, "blank", "()I"⟩
abbrev cX8_isPoint : ByteArray := prog_10_method_11_code
def yX8_isPoint : MethodName := ⟨RX8, "isPoint", "(I)Z"⟩
abbrev cX8_find : ByteArray := prog_10_method_12_code
def yX8_find : MethodName := ⟨RX8, "find", "(IIII)I"⟩
abbrev cX8_triple : ByteArray := prog_10_method_13_code
def yX8_triple : MethodName := ⟨RX8, "triple", "(III)I"⟩
abbrev cX8_drop : ByteArray := prog_10_method_14_code
def yX8_drop : MethodName := ⟨RX8, "drop", "(III)I"⟩
abbrev cX8_describe : ByteArray := prog_10_method_15_code
def yX8_describe : MethodName := ⟨RX8, "describe", "(II)V"⟩
abbrev cX8_isBefore : ByteArray := prog_10_method_16_code
def yX8_isBefore : MethodName := ⟨RX8, "isBefore", "(II)Z"⟩
abbrev cX8_next : ByteArray := prog_10_method_17_code
def yX8_next : MethodName := ⟨RX8, "next", "(I)V"⟩
abbrev cX8_compare : ByteArray := prog_10_method_18_code
def yX8_compare : MethodName := ⟨RX8, "compare", "([JII)I"⟩
abbrev cX8_different : ByteArray := prog_10_method_19_code
def yX8_different : MethodName := ⟨RX8, "different", "([J)I"⟩
abbrev cX8_makeHashes : ByteArray := prog_10_method_20_code
def yX8_makeHashes : MethodName := ⟨RX8, "makeHashes", "()V"⟩
abbrev cX8_makeGroups : ByteArray := prog_10_method_21_code
def yX8_makeGroups : MethodName := ⟨RX8, "makeGroups", "(I)V"⟩
abbrev cX8_hash : ByteArray := prog_10_method_22_code
def yX8_hash : MethodName := ⟨RX8, "hash", "(II)I"⟩
abbrev cX8_rounds : ByteArray := prog_10_method_23_code
def yX8_rounds : MethodName := ⟨RX8, "rounds", "()I"⟩
abbrev cX8_first : ByteArray := prog_10_method_24_code
def yX8_first : MethodName := ⟨RX8, "first", "(II)I"⟩
abbrev cX8_turn : ByteArray := prog_10_method_25_code
def yX8_turn : MethodName := ⟨RX8, "turn", "(I)Z"⟩
abbrev cX8_change : ByteArray := prog_10_method_26_code
def yX8_change : MethodName := ⟨RX8, "change", "(II)V"⟩
abbrev cX8_begin : ByteArray := prog_10_method_27_code
def yX8_begin : MethodName := ⟨RX8, "begin", "(I)V"⟩
abbrev cX8_isNaming : ByteArray := prog_10_method_28_code
def yX8_isNaming : MethodName := ⟨RX8, "isNaming", "(I)Z"⟩
abbrev cX8_compareTriples : ByteArray := prog_10_method_29_code
def yX8_compareTriples : MethodName := ⟨RX8, "compareTriples", "([II[II)I"⟩
abbrev cX8_numbered : ByteArray := prog_10_method_30_code
def yX8_numbered : MethodName := ⟨RX8, "numbered", "(I)I"⟩
abbrev cX8_makeRow : ByteArray := prog_10_method_31_code
def yX8_makeRow : MethodName := ⟨RX8, "makeRow", "()V"⟩
abbrev cX8_compareForm : ByteArray := prog_10_method_32_code
def yX8_compareForm : MethodName := ⟨RX8, "compareForm", "()I"⟩
abbrev cX8_namings : ByteArray := prog_10_method_33_code
def yX8_namings : MethodName := ⟨RX8, "namings", "()J"⟩
abbrev cX8_name : ByteArray := prog_10_method_34_code
def yX8_name : MethodName := ⟨RX8, "name", "(J)I"⟩
abbrev cX8_take : ByteArray := prog_10_method_35_code
def yX8_take : MethodName := ⟨RX8, "take", "(I)V"⟩
abbrev cX8_named : ByteArray := prog_10_method_36_code
def yX8_named : MethodName := ⟨RX8, "named", "(I)I"⟩
abbrev cX8_form : ByteArray := prog_10_method_37_code
def yX8_form : MethodName := ⟨RX8, "form", "(II)I"⟩
abbrev cX8_octet : ByteArray := prog_10_method_38_code
def yX8_octet : MethodName := ⟨RX8, "octet", "(I)B"⟩
abbrev cX8_keep : ByteArray := prog_10_method_39_code
def yX8_keep : MethodName := ⟨RX8, "keep", "()I"⟩
abbrev cX8_isKept : ByteArray := prog_10_method_40_code
def yX8_isKept : MethodName := ⟨RX8, "isKept", "(I)Z"⟩
abbrev cX8_becomes : ByteArray := prog_10_method_41_code
def yX8_becomes : MethodName := ⟨RX8, "becomes", "(I)Z"⟩
abbrev cX8_ways : ByteArray := prog_10_method_42_code
def yX8_ways : MethodName := ⟨RX8, "ways", "(I)I"⟩
abbrev cX8_isomorphic : ByteArray := prog_10_method_43_code
def yX8_isomorphic : MethodName := ⟨RX8, "isomorphic", "(I)I"⟩
abbrev cX8_equal : ByteArray := prog_10_method_44_code
def yX8_equal : MethodName := ⟨RX8, "equal", "(I)I"⟩
abbrev cX8_triples : ByteArray := prog_10_method_45_code
def yX8_triples : MethodName := ⟨RX8, "triples", "()I"⟩
abbrev cX8_blanks : ByteArray := prog_10_method_46_code
def yX8_blanks : MethodName := ⟨RX8, "blanks", "()I"⟩
def RJx00060 : String := "java/lang/ArrayIndexOutOfBoundsException"
def TJx00060 : u_T := fun k => match k with
  | 0 => ("java/lang/Throwable", "cause", "Ljava/lang/Throwable;", false)
  | 1 => ("java/lang/Throwable", "stackTrace", "[Ljava/lang/StackTraceElement;", false)
  | 2 => ("java/lang/Throwable", "suppressedExceptions", "Ljava/util/List;", false)
  | 3 => ("java/lang/Throwable", "detailMessage", "Ljava/lang/String;", false)
  | 4 => ("java/lang/Throwable", "backtrace", "Ljava/lang/Object;", false)
  | _ => ("java/lang/Throwable", "depth", "I", false)
def tyJx00060 : Nat → FieldType := fun k => match k with
  | 0 => .object "java/lang/Throwable"
  | 1 => .array (.object "java/lang/StackTraceElement")
  | 2 => .object "java/util/List"
  | 3 => .object "java/lang/String"
  | 4 => .object "java/lang/Object"
  | _ => .int
abbrev wsJx000600 : List Cond := u_ws RJx00060 TJx00060 6
theorem nmJx00060 : ∀ a, a < 6 → ∀ b, b < 6 → a ≠ b → (TJx00060 a).2.1 ≠ (TJx00060 b).2.1 := by decide +kernel
theorem tyJx00060_ok : ∀ k, k < 6 → parseFieldDescriptor (TJx00060 k).2.2.1 = some (tyJx00060 k) := by decide +kernel
abbrev cJx00060_init_a7421 : ByteArray := prog_11_method_2_code
def yJx00060_init_a7421 : MethodName := ⟨RJx00060, "<init>", "(Ljava/lang/String;)V"⟩
def RJ9 : String := "java/lang/Math"
def TJ9 : u_T := fun k => match k with
  | _ => ("", "", "", false)
def tyJ9 : Nat → FieldType := fun k => match k with
  | _ => .int
abbrev wsJ90 : List Cond := u_ws RJ9 TJ9 0
theorem nmJ9 : ∀ a, a < 0 → ∀ b, b < 0 → a ≠ b → (TJ9 a).2.1 ≠ (TJ9 b).2.1 := by decide +kernel
theorem tyJ9_ok : ∀ k, k < 0 → parseFieldDescriptor (TJ9 k).2.2.1 = some (tyJ9 k) := by decide +kernel
abbrev cJ9_max_7cf53 : ByteArray := prog_14_method_65_code
def yJ9_max_7cf53 : MethodName := ⟨RJ9, "max", "(II)I"⟩
abbrev cJ9_min_7cf53 : ByteArray := prog_14_method_69_code
def yJ9_min_7cf53 : MethodName := ⟨RJ9, "min", "(II)I"⟩
def RJ0 : String := "java/lang/String"
def TJ0 : u_T := fun k => match k with
  | _ => ("", "", "", false)
def tyJ0 : Nat → FieldType := fun k => match k with
  | _ => .int
abbrev wsJ00 : List Cond := u_ws RJ0 TJ0 0
theorem nmJ0 : ∀ a, a < 0 → ∀ b, b < 0 → a ≠ b → (TJ0 a).2.1 ≠ (TJ0 b).2.1 := by decide +kernel
theorem tyJ0_ok : ∀ k, k < 0 → parseFieldDescriptor (TJ0 k).2.2.1 = some (tyJ0 k) := by decide +kernel
def RJ10 : String := "java/lang/System"
def TJ10 : u_T := fun k => match k with
  | _ => ("", "", "", false)
def tyJ10 : Nat → FieldType := fun k => match k with
  | _ => .int
abbrev wsJ100 : List Cond := u_ws RJ10 TJ10 0
theorem nmJ10 : ∀ a, a < 0 → ∀ b, b < 0 → a ≠ b → (TJ10 a).2.1 ≠ (TJ10 b).2.1 := by decide +kernel
theorem tyJ10_ok : ∀ k, k < 0 → parseFieldDescriptor (TJ10 k).2.2.1 = some (tyJ10 k) := by decide +kernel
def RL : String := "CanonNamesLaw"
abbrev cL_octet : ByteArray := method_3_code
def yL_octet : MethodName := ⟨RL, "octet", "(LCanonNames;I[J)I"⟩
abbrev cL_law : ByteArray := code
def yL_law : MethodName := ⟨RL, "law", "([I)Z"⟩
abbrev vwCl : List vw_C := [(RJx00060, TJx00060, 6), (RX0, TX0, 6), (RX1, TX1, 5), (RX2, TX2, 3), (RX3, TX3, 4), (RX4, TX4, 2), (RX5, TX5, 4), (RX6, TX6, 4), (RX7, TX7, 8), (RX8, TX8, 27)]
end
section
/-! THE ABSTRACT LAYER. A state of a method: pc, locals, operand stack, world; references are TOKENS: 0, 1, 2 the three static arrays, 3 the script, 4 .. 99 cells that the method doesn't open, j + 100 the world's cell j. 'G' is the machine's judgement W over such states, 'Con' a contract. -/
abbrev ab_M : Type := String × MethodName × ByteArray × Nat × Option FieldType
abbrev ab_C : Type := (Nat × vp_A) ⊕ (Nat × List Value)
def ab_v (ad : Nat → Nat) (v : Value) : Value := match v with
  | .ref k => .ref (ad k)
  | v => v
def ab_a (ad : Nat → Nat) (a : vp_A) : vp_A := match a with
  | (n, .inr (.inr (.inr (.inr f)))) => (n, .inr (.inr (.inr (.inr (fun j => (f j).map ad)))))
  | a => a
def ab_e (tc : Nat → ClassId) (ad : Nat → Nat) (c : ab_C) : va_E := match c with
  | .inl (t, a) => .inl (tc t, ab_a ad a)
  | .inr (ci, fs) => .inr (ci, fs.map (ab_v ad))
def ab_w (tc : Nat → ClassId) (ad : Nat → Nat) : Nat → List ab_C → va_W
  | _, [] => []
  | i, c :: w => (ad i, ab_e tc ad c) :: ab_w tc ad (i + 1) w
theorem ab_w_at (tc : Nat → ClassId) (ad : Nat → Nat) : ∀ (w : List ab_C) (i k : Nat), (ab_w tc ad i w)[k]? = (w[k]?).map (fun c => (ad (k + i), ab_e tc ad c))
  | [], i, k => by simp [ab_w]
  | c :: w, i, 0 => by simp [ab_w]
  | c :: w, i, k + 1 => by
    rw [ab_w, List.getElem?_cons_succ, List.getElem?_cons_succ, ab_w_at tc ad w (i + 1) k, Nat.add_right_comm k 1 i, Nat.add_assoc k i 1]
theorem ab_w_len (tc : Nat → ClassId) (ad : Nat → Nat) : ∀ (w : List ab_C) (i : Nat), (ab_w tc ad i w).length = w.length
  | [], i => rfl
  | c :: w, i => by simp [ab_w, ab_w_len tc ad w (i + 1)]
theorem ab_w_set (tc : Nat → ClassId) (ad : Nat → Nat) (w : List ab_C) (i k : Nat) (c : ab_C) : ab_w tc ad i (w.set k c) = (ab_w tc ad i w).set k (ad (k + i), ab_e tc ad c) := by
  apply List.ext_getElem?
  intro j
  rw [ab_w_at, List.getElem?_set, List.getElem?_set, ab_w_len, ab_w_at]
  by_cases h : k = j
  · subst h
    by_cases hl : k < w.length <;> simp [hl]
  · simp [h]
theorem ab_w_app (tc : Nat → ClassId) (ad : Nat → Nat) : ∀ (w v : List ab_C) (i : Nat), ab_w tc ad i (w ++ v) = ab_w tc ad i w ++ ab_w tc ad (w.length + i) v
  | [], v, i => by simp [ab_w]
  | c :: w, v, i => by
    rw [List.cons_append, ab_w, ab_w, ab_w_app tc ad w v (i + 1), List.cons_append, List.length_cons, Nat.add_right_comm w.length 1 i, Nat.add_assoc w.length i 1]
/-- the array classes -/
def ab_tys (tc : Nat → ClassId) : List (ClassId × FieldType) := [(tc 0, .int), (tc 1, .long), (tc 2, .byte), (tc 3, .boolean), (tc 4, .object RX0)]
/-- the words that hold everywhere -/
def ab_U : List Cond := lw_tbl.filter goodWord
def ab_isN (w : Cond) : Bool := match w with
  | .methodLinkNest .. => true
  | _ => false
def ab_N : List Cond := lw_tbl.filter ab_isN
theorem ab_goodU : GoodIn ab_U ab_U := fun w h => ⟨h, good_of_word (List.mem_filter.mp h).2⟩
/-- the statics: three arrays of ints that nobody writes -/
def ab_l (l : List Int32) : Nat → Int32 := fun j => l.getD j 0
def ab_noBytes : List Int32 := [0xe3b0c442, 0x98fc1c14, 0x9afbf4c8, 0x996fb924, 0x27ae41e4, 0x649b934c, 0xa495991b, 0x7852b855]
def ab_start : List Int32 := [0x6a09e667, 0xbb67ae85, 0x3c6ef372, 0xa54ff53a, 0x510e527f, 0x9b05688c, 0x1f83d9ab, 0x5be0cd19]
def ab_steps : List Int32 := [0x428a2f98, 0x71374491, 0xb5c0fbcf, 0xe9b5dba5, 0x3956c25b, 0x59f111f1, 0x923f82a4, 0xab1c5ed5,
  0xd807aa98, 0x12835b01, 0x243185be, 0x550c7dc3, 0x72be5d74, 0x80deb1fe, 0x9bdc06a7, 0xc19bf174,
  0xe49b69c1, 0xefbe4786, 0x0fc19dc6, 0x240ca1cc, 0x2de92c6f, 0x4a7484aa, 0x5cb0a9dc, 0x76f988da,
  0x983e5152, 0xa831c66d, 0xb00327c8, 0xbf597fc7, 0xc6e00bf3, 0xd5a79147, 0x06ca6351, 0x14292967,
  0x27b70a85, 0x2e1b2138, 0x4d2c6dfc, 0x53380d13, 0x650a7354, 0x766a0abb, 0x81c2c92e, 0x92722c85,
  0xa2bfe8a1, 0xa81a664b, 0xc24b8b70, 0xc76c51a3, 0xd192e819, 0xd6990624, 0xf40e3585, 0x106aa070,
  0x19a4c116, 0x1e376c08, 0x2748774c, 0x34b0bcb5, 0x391c0cb3, 0x4ed8aa4a, 0x5b9cca4f, 0x682e6ff3,
  0x748f82ee, 0x78a5636f, 0x84c87814, 0x8cc70208, 0x90befffa, 0xa4506ceb, 0xbef9a3f7, 0xc67178f2]
abbrev ab_XO : Type := List (Nat × (Nat → Int32))
def ab_x0 : ab_XO := [(8, ab_l ab_noBytes), (8, ab_l ab_start), (64, ab_l ab_steps)]
def ab_sn : List (String × String) := [(RX2, "NO_BYTES"), (RX6, "START"), (RX6, "STEPS")]
/-- what lies outside the world: read-only arrays, the statics that hold them, the nest mates' links -/
def ab_O (xo : ab_XO) (ad : Nat → Nat) (A : Nat → Prop) (U : State) (H : Heap) : Prop :=
  (∀ (i : Nat) (q : Nat × (Nat → Int32)), xo[i]? = some q → va_T .int (ad i) q.1 (fun j => .int (q.2 j)) A U H) ∧
  (∀ (i : Nat) (q : String × String), ab_sn[i]? = some q → va_Z q.1 q.2 "[I" (.ref (ad i)) A U H) ∧ (∀ w ∈ ab_N, va_Nw w U) ∧ va_AO RX0 U ∧ xo.length ≤ 100
theorem ab_O.moved {xo : ab_XO} {ad : Nat → Nat} {A : Nat → Prop} {s U : State} {H : Heap} (hW : s.WarmedH U.vm) (h : ab_O xo ad A s H) : ab_O xo ad A U H := by
  refine ⟨fun i q hq => (h.1 i q hq).moved hW.alike, fun i q hq => (h.2.1 i q hq).moved hW.alike, fun w hw => ?_, h.2.2.2.1.moved hW.alike, h.2.2.2.2⟩
  have h1 := h.2.2.1 w hw
  have h2 := (List.mem_filter.mp hw).2
  cases w <;> first | exact va_Nw.warmM hW h1 | (simp [ab_isN] at h2)
theorem ab_O.kept {xo : ab_XO} {ad : Nat → Nat} {A : Nat → Prop} {U : State} {H H1 : Heap} (h : ab_O xo ad A U H) (hq : ∀ a : Nat, a < H.size → ¬ A a → H1[a]? = H[a]?) : ab_O xo ad A U H1 :=
  ⟨fun i q hi => (h.1 i q hi).kept hq, fun i q hi => (h.2.1 i q hi).kept hq, h.2.2⟩
theorem ab_O.narrow {xo : ab_XO} {ad : Nat → Nat} {A B : Nat → Prop} {U : State} {H : Heap} (h : ab_O xo ad A U H) (hq : ∀ q, B q → A q) : ab_O xo ad B U H :=
  ⟨fun i q hi => (h.1 i q hi).narrow hq, fun i q hi => (h.2.1 i q hi).narrow hq, h.2.2⟩
theorem ab_O.re {xo : ab_XO} {ad ad' : Nat → Nat} {A : Nat → Prop} {U : State} {H : Heap} (h : ab_O xo ad A U H) (hq : ∀ t, t < 100 → ad' t = ad t) : ab_O xo ad' A U H := by
  refine ⟨fun i q hi => ?_, fun i q hi => ?_, h.2.2⟩
  · rw [hq i (Nat.lt_of_lt_of_le (List.getElem?_eq_some_iff.mp hi).1 h.2.2.2.2)]
    exact h.1 i q hi
  · rw [hq i (Nat.lt_of_lt_of_le (List.getElem?_eq_some_iff.mp hi).1 (by decide))]
    exact h.2.1 i q hi
/-- the locals -/
def ab_L (ad : Nat → Nat) (ls : Array Slot) (L : List (Option Value)) : Prop := ls.size = L.length ∧ lv_wf ls ∧ ∀ (i : Nat) (v : Value), L[i]? = some (some v) → ls[i]? = some (.val (ab_v ad v))
/-- a method's fixed context -/
def ab_X (xo : ab_XO) (M : ab_M) (d : Nat) (p : Program) (R : Room) (s : State) (m : MethodId) (args : Array Value) (meth : Method) (c : Code) (D : va_G) (tc : Nat → ClassId) (ad : Nat → Nat) (A : Nat → Prop) : Prop :=
  (p.tables.exec = Jvm.exec ∧ c.code = M.2.2.1 ∧ c.maxLocals = M.2.2.2.1 ∧ s.vm.findClass M.1 = some m.cls) ∧ (meth.sig.returnType = M.2.2.2.2 ∧ meth.locks = false ∧ meth.name = M.2.1.name) ∧ (∀ w ∈ ab_U, w.before args s = true) ∧ va_K D vwCl (ab_tys tc) s ∧ (∀ q : Nat, s.heap.size ≤ q → A q) ∧ (d ≤ R.frames ∧ 64 * d ≤ R.locals) ∧ ab_O xo ad A s s.heap
/-- the heap holds the world; nothing else has changed -/
def ab_R (D : va_G) (tc : Nat → ClassId) (ad : Nat → Nat) (A : Nat → Prop) (s : State) (H : Heap) (locs : List Loc) (w : List ab_C) : Prop :=
  va_P D vwCl (ab_w tc ad 100 w) H ∧ va_D A (ab_w tc ad 100 w) ∧ va_S A s.heap H locs
/-- a return that is due: its instruction, the answer's kind -/
def ab_ret (M : ab_M) (pc : Nat) (v : Option Value) : Prop := match v with
  | none => decode M.2.2.1 pc = .ok (.return_, 1) ∧ M.2.2.2.2 = none
  | some (.int x) => decode M.2.2.1 pc = .ok (.ireturn, 1) ∧ ∃ ty : FieldType, M.2.2.2.2 = some ty ∧ narrow ty (.int x) = .int x
  | some (.long _) => decode M.2.2.1 pc = .ok (.lreturn, 1) ∧ M.2.2.2.2 = some .long
  | some (.ref _) => decode M.2.2.1 pc = .ok (.areturn, 1) ∧ ∃ n : String, M.2.2.2.2 = some (.object n)
  | some .null => decode M.2.2.1 pc = .ok (.areturn, 1) ∧ ∃ n : String, M.2.2.2.2 = some (.object n)
  | _ => False
/-- the tokens' addresses go on; where no cell was made they are the same -/
def ab_ext (w : List ab_C) (ad : Nat → Nat) (w' : List ab_C) (ad' : Nat → Nat) : Prop := (∀ t, t < w.length + 100 → ad' t = ad t) ∧ w.length ≤ w'.length ∧ (w'.length = w.length → ad' = ad)
/-- THE JUDGEMENT: from this state on method M comes to a return with Q; at most k cells and n slots are made, calls go at most d deep -/
def G (xo : ab_XO) (M : ab_M) (d k n : Nat) (Q : List ab_C → Option Value → Prop) (pc : Nat) (L : List (Option Value)) (st : List Value) (w : List ab_C) : Prop :=
  ∀ (p : Program) (l : Launch) (e : Env) (R : Room) (s : State) (m : MethodId) (args : Array Value) (below : List Frame) (meth : Method) (c : Code) (Z : State → Prop) (D : va_G) (tc : Nat → ClassId) (ad : Nat → Nat) (A : Nat → Prop) (H : Heap) (locs : List Loc) (cells slots : Nat) (ls : Array Slot),
    ab_X xo M d p R s m args meth c D tc ad A → ab_R D tc ad A s H locs w → ab_L ad ls L → cells + k ≤ R.cells → slots + n ≤ R.slots →
    (∀ (pc' : Nat) (ad' : Nat → Nat) (H' : Heap) (locs' : List Loc) (cells' slots' : Nat) (ls' : Array Slot) (w' : List ab_C) (v : Option Value),
      ab_ret M pc' v → ab_ext w ad w' ad' → ab_R D tc ad' A s H' locs' w' → cells' ≤ cells + k → slots' ≤ slots + n → Q w' v →
      W p l e R s m args below meth c H' locs' cells' slots' Z (F0 m pc' ls' (v.toList.map (ab_v ad')))) →
    W p l e R s m args below meth c H locs cells slots Z (F0 m pc ls (st.map (ab_v ad)))
end
section
section AB
variable {xo : ab_XO} {M : ab_M} {d k n : Nat} {Q : List ab_C → Option Value → Prop} {pc : Nat} {L L' : List (Option Value)} {st : List Value} {w : List ab_C}
theorem G_iadd {x y : Int32} (hd : decode M.2.2.1 pc = .ok (.iadd, 1)) (kk : G xo M d k n Q (pc + 1) L (.int (x + y) :: st) w) : G xo M d k n Q pc L (.int y :: .int x :: st) w := by
  intro p l e R s m args below meth c Z D tc ad A H locs cells slots ls X hR hL hc hs fin
  exact lv_iadd X.1.1 X.1.2.1 hd  (kk p l e R s m args below meth c Z D tc ad A H locs cells slots ls X hR hL hc hs fin)
theorem G_isub {x y : Int32} (hd : decode M.2.2.1 pc = .ok (.isub, 1)) (kk : G xo M d k n Q (pc + 1) L (.int (x - y) :: st) w) : G xo M d k n Q pc L (.int y :: .int x :: st) w := by
  intro p l e R s m args below meth c Z D tc ad A H locs cells slots ls X hR hL hc hs fin
  exact lv_isub X.1.1 X.1.2.1 hd  (kk p l e R s m args below meth c Z D tc ad A H locs cells slots ls X hR hL hc hs fin)
theorem G_imul {x y : Int32} (hd : decode M.2.2.1 pc = .ok (.imul, 1)) (kk : G xo M d k n Q (pc + 1) L (.int (x * y) :: st) w) : G xo M d k n Q pc L (.int y :: .int x :: st) w := by
  intro p l e R s m args below meth c Z D tc ad A H locs cells slots ls X hR hL hc hs fin
  exact lv_imul X.1.1 X.1.2.1 hd  (kk p l e R s m args below meth c Z D tc ad A H locs cells slots ls X hR hL hc hs fin)
theorem G_iand {x y : Int32} (hd : decode M.2.2.1 pc = .ok (.iand, 1)) (kk : G xo M d k n Q (pc + 1) L (.int (x &&& y) :: st) w) : G xo M d k n Q pc L (.int y :: .int x :: st) w := by
  intro p l e R s m args below meth c Z D tc ad A H locs cells slots ls X hR hL hc hs fin
  exact lv_iand X.1.1 X.1.2.1 hd  (kk p l e R s m args below meth c Z D tc ad A H locs cells slots ls X hR hL hc hs fin)
theorem G_ior {x y : Int32} (hd : decode M.2.2.1 pc = .ok (.ior, 1)) (kk : G xo M d k n Q (pc + 1) L (.int (x ||| y) :: st) w) : G xo M d k n Q pc L (.int y :: .int x :: st) w := by
  intro p l e R s m args below meth c Z D tc ad A H locs cells slots ls X hR hL hc hs fin
  exact lv_ior X.1.1 X.1.2.1 hd  (kk p l e R s m args below meth c Z D tc ad A H locs cells slots ls X hR hL hc hs fin)
theorem G_ixor {x y : Int32} (hd : decode M.2.2.1 pc = .ok (.ixor, 1)) (kk : G xo M d k n Q (pc + 1) L (.int (x ^^^ y) :: st) w) : G xo M d k n Q pc L (.int y :: .int x :: st) w := by
  intro p l e R s m args below meth c Z D tc ad A H locs cells slots ls X hR hL hc hs fin
  exact lv_ixor X.1.1 X.1.2.1 hd  (kk p l e R s m args below meth c Z D tc ad A H locs cells slots ls X hR hL hc hs fin)
theorem G_ishl {x y : Int32} (hd : decode M.2.2.1 pc = .ok (.ishl, 1)) (kk : G xo M d k n Q (pc + 1) L (.int (x <<< (y &&& 31)) :: st) w) : G xo M d k n Q pc L (.int y :: .int x :: st) w := by
  intro p l e R s m args below meth c Z D tc ad A H locs cells slots ls X hR hL hc hs fin
  exact lv_ishl X.1.1 X.1.2.1 hd  (kk p l e R s m args below meth c Z D tc ad A H locs cells slots ls X hR hL hc hs fin)
theorem G_ishr {x y : Int32} (hd : decode M.2.2.1 pc = .ok (.ishr, 1)) (kk : G xo M d k n Q (pc + 1) L (.int (x >>> (y &&& 31)) :: st) w) : G xo M d k n Q pc L (.int y :: .int x :: st) w := by
  intro p l e R s m args below meth c Z D tc ad A H locs cells slots ls X hR hL hc hs fin
  exact lv_ishr X.1.1 X.1.2.1 hd  (kk p l e R s m args below meth c Z D tc ad A H locs cells slots ls X hR hL hc hs fin)
theorem G_idiv {x y : Int32} (hd : decode M.2.2.1 pc = .ok (.idiv, 1)) (hne : ¬ y = 0) (kk : G xo M d k n Q (pc + 1) L (.int (x / y) :: st) w) : G xo M d k n Q pc L (.int y :: .int x :: st) w := by
  intro p l e R s m args below meth c Z D tc ad A H locs cells slots ls X hR hL hc hs fin
  exact lv_idiv X.1.1 X.1.2.1 hd hne (kk p l e R s m args below meth c Z D tc ad A H locs cells slots ls X hR hL hc hs fin)
theorem G_irem {x y : Int32} (hd : decode M.2.2.1 pc = .ok (.irem, 1)) (hne : ¬ y = 0) (kk : G xo M d k n Q (pc + 1) L (.int (x - x / y * y) :: st) w) : G xo M d k n Q pc L (.int y :: .int x :: st) w := by
  intro p l e R s m args below meth c Z D tc ad A H locs cells slots ls X hR hL hc hs fin
  exact lv_irem X.1.1 X.1.2.1 hd hne (kk p l e R s m args below meth c Z D tc ad A H locs cells slots ls X hR hL hc hs fin)
theorem G_iushr {x y : Int32} (hd : decode M.2.2.1 pc = .ok (.iushr, 1)) (kk : G xo M d k n Q (pc + 1) L (.int (x.toUInt32 >>> (y.toUInt32 &&& Int32.toUInt32 31)).toInt32 :: st) w) : G xo M d k n Q pc L (.int y :: .int x :: st) w := by
  intro p l e R s m args below meth c Z D tc ad A H locs cells slots ls X hR hL hc hs fin
  exact lv_iushr X.1.1 X.1.2.1 hd rfl (kk p l e R s m args below meth c Z D tc ad A H locs cells slots ls X hR hL hc hs fin)
theorem G_ineg {x : Int32} (hd : decode M.2.2.1 pc = .ok (.ineg, 1)) (kk : G xo M d k n Q (pc + 1) L (.int (-x) :: st) w) : G xo M d k n Q pc L (.int x :: st) w := by
  intro p l e R s m args below meth c Z D tc ad A H locs cells slots ls X hR hL hc hs fin
  exact lv_ineg X.1.1 X.1.2.1 hd  (kk p l e R s m args below meth c Z D tc ad A H locs cells slots ls X hR hL hc hs fin)
theorem G_ladd {x y : Int64} (hd : decode M.2.2.1 pc = .ok (.ladd, 1)) (kk : G xo M d k n Q (pc + 1) L (.long (x + y) :: st) w) : G xo M d k n Q pc L (.long y :: .long x :: st) w := by
  intro p l e R s m args below meth c Z D tc ad A H locs cells slots ls X hR hL hc hs fin
  exact lv_ladd X.1.1 X.1.2.1 hd  (kk p l e R s m args below meth c Z D tc ad A H locs cells slots ls X hR hL hc hs fin)
theorem G_lsub {x y : Int64} (hd : decode M.2.2.1 pc = .ok (.lsub, 1)) (kk : G xo M d k n Q (pc + 1) L (.long (x - y) :: st) w) : G xo M d k n Q pc L (.long y :: .long x :: st) w := by
  intro p l e R s m args below meth c Z D tc ad A H locs cells slots ls X hR hL hc hs fin
  exact lv_lsub X.1.1 X.1.2.1 hd  (kk p l e R s m args below meth c Z D tc ad A H locs cells slots ls X hR hL hc hs fin)
theorem G_lmul {x y : Int64} (hd : decode M.2.2.1 pc = .ok (.lmul, 1)) (kk : G xo M d k n Q (pc + 1) L (.long (x * y) :: st) w) : G xo M d k n Q pc L (.long y :: .long x :: st) w := by
  intro p l e R s m args below meth c Z D tc ad A H locs cells slots ls X hR hL hc hs fin
  exact lv_lmul X.1.1 X.1.2.1 hd  (kk p l e R s m args below meth c Z D tc ad A H locs cells slots ls X hR hL hc hs fin)
theorem G_land {x y : Int64} (hd : decode M.2.2.1 pc = .ok (.land, 1)) (kk : G xo M d k n Q (pc + 1) L (.long (x &&& y) :: st) w) : G xo M d k n Q pc L (.long y :: .long x :: st) w := by
  intro p l e R s m args below meth c Z D tc ad A H locs cells slots ls X hR hL hc hs fin
  exact lv_land X.1.1 X.1.2.1 hd  (kk p l e R s m args below meth c Z D tc ad A H locs cells slots ls X hR hL hc hs fin)
theorem G_lor {x y : Int64} (hd : decode M.2.2.1 pc = .ok (.lor, 1)) (kk : G xo M d k n Q (pc + 1) L (.long (x ||| y) :: st) w) : G xo M d k n Q pc L (.long y :: .long x :: st) w := by
  intro p l e R s m args below meth c Z D tc ad A H locs cells slots ls X hR hL hc hs fin
  exact lv_lor X.1.1 X.1.2.1 hd  (kk p l e R s m args below meth c Z D tc ad A H locs cells slots ls X hR hL hc hs fin)
theorem G_lxor {x y : Int64} (hd : decode M.2.2.1 pc = .ok (.lxor, 1)) (kk : G xo M d k n Q (pc + 1) L (.long (x ^^^ y) :: st) w) : G xo M d k n Q pc L (.long y :: .long x :: st) w := by
  intro p l e R s m args below meth c Z D tc ad A H locs cells slots ls X hR hL hc hs fin
  exact lv_lxor X.1.1 X.1.2.1 hd  (kk p l e R s m args below meth c Z D tc ad A H locs cells slots ls X hR hL hc hs fin)
theorem G_lshl {x : Int64} {y : Int32} (hd : decode M.2.2.1 pc = .ok (.lshl, 1)) (kk : G xo M d k n Q (pc + 1) L (.long (x <<< (y.toInt64 &&& 63)) :: st) w) : G xo M d k n Q pc L (.int y :: .long x :: st) w := by
  intro p l e R s m args below meth c Z D tc ad A H locs cells slots ls X hR hL hc hs fin
  exact lv_lshl X.1.1 X.1.2.1 hd rfl (kk p l e R s m args below meth c Z D tc ad A H locs cells slots ls X hR hL hc hs fin)
theorem G_lshr {x : Int64} {y : Int32} (hd : decode M.2.2.1 pc = .ok (.lshr, 1)) (kk : G xo M d k n Q (pc + 1) L (.long (x >>> (y.toInt64 &&& 63)) :: st) w) : G xo M d k n Q pc L (.int y :: .long x :: st) w := by
  intro p l e R s m args below meth c Z D tc ad A H locs cells slots ls X hR hL hc hs fin
  exact lv_lshr X.1.1 X.1.2.1 hd rfl (kk p l e R s m args below meth c Z D tc ad A H locs cells slots ls X hR hL hc hs fin)
theorem G_i2l {x : Int32} (hd : decode M.2.2.1 pc = .ok (.i2l, 1)) (kk : G xo M d k n Q (pc + 1) L (.long x.toInt64 :: st) w) : G xo M d k n Q pc L (.int x :: st) w := by
  intro p l e R s m args below meth c Z D tc ad A H locs cells slots ls X hR hL hc hs fin
  exact lv_i2l X.1.1 X.1.2.1 hd rfl (kk p l e R s m args below meth c Z D tc ad A H locs cells slots ls X hR hL hc hs fin)
theorem G_l2i {x : Int64} (hd : decode M.2.2.1 pc = .ok (.l2i, 1)) (kk : G xo M d k n Q (pc + 1) L (.int x.toInt32 :: st) w) : G xo M d k n Q pc L (.long x :: st) w := by
  intro p l e R s m args below meth c Z D tc ad A H locs cells slots ls X hR hL hc hs fin
  exact lv_l2i X.1.1 X.1.2.1 hd rfl (kk p l e R s m args below meth c Z D tc ad A H locs cells slots ls X hR hL hc hs fin)
theorem G_i2b {x : Int32} (hd : decode M.2.2.1 pc = .ok (.i2b, 1)) (kk : G xo M d k n Q (pc + 1) L (.int x.toInt8.toInt32 :: st) w) : G xo M d k n Q pc L (.int x :: st) w := by
  intro p l e R s m args below meth c Z D tc ad A H locs cells slots ls X hR hL hc hs fin
  exact lv_i2b X.1.1 X.1.2.1 hd rfl (kk p l e R s m args below meth c Z D tc ad A H locs cells slots ls X hR hL hc hs fin)
theorem G_lcmp {x y : Int64} (hd : decode M.2.2.1 pc = .ok (.lcmp, 1)) (kk : G xo M d k n Q (pc + 1) L (.int (lg_cmp x y) :: st) w) : G xo M d k n Q pc L (.long y :: .long x :: st) w := by
  intro p l e R s m args below meth c Z D tc ad A H locs cells slots ls X hR hL hc hs fin
  exact W.lcmp X.1.1 X.1.2.1 hd  (kk p l e R s m args below meth c Z D tc ad A H locs cells slots ls X hR hL hc hs fin)
theorem G_iconst {i : Int} {v : Int32} (hd : decode M.2.2.1 pc = .ok (.iconst i, 1)) (hv : Int32.ofInt i = v) (kk : G xo M d k n Q (pc + 1) L (.int v :: st) w) : G xo M d k n Q pc L (st) w := by
  intro p l e R s m args below meth c Z D tc ad A H locs cells slots ls X hR hL hc hs fin
  exact lv_iconst X.1.1 X.1.2.1 hd hv (kk p l e R s m args below meth c Z D tc ad A H locs cells slots ls X hR hL hc hs fin)
theorem G_bipush {i : Int} {v : Int32} (hd : decode M.2.2.1 pc = .ok (.bipush i, 2)) (hv : (Int8.ofInt i).toInt32 = v) (kk : G xo M d k n Q (pc + 2) L (.int v :: st) w) : G xo M d k n Q pc L (st) w := by
  intro p l e R s m args below meth c Z D tc ad A H locs cells slots ls X hR hL hc hs fin
  exact lv_bipush X.1.1 X.1.2.1 hd hv (kk p l e R s m args below meth c Z D tc ad A H locs cells slots ls X hR hL hc hs fin)
theorem G_sipush {i : Int} {v : Int32} (hd : decode M.2.2.1 pc = .ok (.sipush i, 3)) (hv : (Int16.ofInt i).toInt32 = v) (kk : G xo M d k n Q (pc + 3) L (.int v :: st) w) : G xo M d k n Q pc L (st) w := by
  intro p l e R s m args below meth c Z D tc ad A H locs cells slots ls X hR hL hc hs fin
  exact lv_sipush X.1.1 X.1.2.1 hd hv (kk p l e R s m args below meth c Z D tc ad A H locs cells slots ls X hR hL hc hs fin)
theorem G_lconst {i : Fin 2} {v : Int64} (hd : decode M.2.2.1 pc = .ok (.lconst i, 1)) (hv : Int64.ofNat (i : Nat) = v) (kk : G xo M d k n Q (pc + 1) L (.long v :: st) w) : G xo M d k n Q pc L (st) w := by
  intro p l e R s m args below meth c Z D tc ad A H locs cells slots ls X hR hL hc hs fin
  exact lv_lconst X.1.1 X.1.2.1 hd hv (kk p l e R s m args below meth c Z D tc ad A H locs cells slots ls X hR hL hc hs fin)
theorem G_null  (hd : decode M.2.2.1 pc = .ok (.aconst_null, 1)) (kk : G xo M d k n Q (pc + 1) L (.null :: st) w) : G xo M d k n Q pc L (st) w := by
  intro p l e R s m args below meth c Z D tc ad A H locs cells slots ls X hR hL hc hs fin
  exact lv_null X.1.1 X.1.2.1 hd  (kk p l e R s m args below meth c Z D tc ad A H locs cells slots ls X hR hL hc hs fin)
theorem G_ldc {i : Nat} {v : Int32} (hd : decode M.2.2.1 pc = .ok (.ldc i, 2)) (hw : Jvm.Cond.constant M.1 i v ∈ ab_U) (kk : G xo M d k n Q (pc + 2) L (.int v :: st) w) : G xo M d k n Q pc L st w := by
  intro p l e R s m args below meth c Z D tc ad A H locs cells slots ls X hR hL hc hs fin
  exact lv_ldc X.1.1 X.1.2.1 X.1.2.2.2 (X.2.2.1 _ hw) hd (kk p l e R s m args below meth c Z D tc ad A H locs cells slots ls X hR hL hc hs fin)
theorem G_ldc2 {i : Nat} {v : Int64} (hd : decode M.2.2.1 pc = .ok (.ldc2_w i, 3)) (hw : Jvm.Cond.constantLong M.1 i v ∈ ab_U) (kk : G xo M d k n Q (pc + 3) L (.long v :: st) w) : G xo M d k n Q pc L st w := by
  intro p l e R s m args below meth c Z D tc ad A H locs cells slots ls X hR hL hc hs fin
  exact lv_ldc2 X.1.1 X.1.2.1 X.1.2.2.2 (X.2.2.1 _ hw) hd (kk p l e R s m args below meth c Z D tc ad A H locs cells slots ls X hR hL hc hs fin)
theorem ab_cat (ad : Nat → Nat) (v : Value) : (ab_v ad v).category = v.category := by cases v <;> rfl
theorem G_dup {v : Value} (hd : decode M.2.2.1 pc = .ok (.dup, 1)) (hv : v.category = 1) (kk : G xo M d k n Q (pc + 1) L (v :: v :: st) w) : G xo M d k n Q pc L (v :: st) w := by
  intro p l e R s m args below meth c Z D tc ad A H locs cells slots ls X hR hL hc hs fin
  exact lv_dup X.1.1 X.1.2.1 hd ((ab_cat ad v).trans hv) (kk p l e R s m args below meth c Z D tc ad A H locs cells slots ls X hR hL hc hs fin)
theorem G_dup2 {v u : Value} (hd : decode M.2.2.1 pc = .ok (.dup2, 1)) (hv : v.category = 1) (hu : u.category = 1) (kk : G xo M d k n Q (pc + 1) L (v :: u :: v :: u :: st) w) : G xo M d k n Q pc L (v :: u :: st) w := by
  intro p l e R s m args below meth c Z D tc ad A H locs cells slots ls X hR hL hc hs fin
  exact lv_dup2_11 X.1.1 X.1.2.1 hd ((ab_cat ad v).trans hv) ((ab_cat ad u).trans hu) (kk p l e R s m args below meth c Z D tc ad A H locs cells slots ls X hR hL hc hs fin)
theorem G_pop {v : Value} (hd : decode M.2.2.1 pc = .ok (.pop, 1)) (hv : v.category = 1) (kk : G xo M d k n Q (pc + 1) L st w) : G xo M d k n Q pc L (v :: st) w := by
  intro p l e R s m args below meth c Z D tc ad A H locs cells slots ls X hR hL hc hs fin
  exact lv_pop X.1.1 X.1.2.1 hd ((ab_cat ad v).trans hv) (kk p l e R s m args below meth c Z D tc ad A H locs cells slots ls X hR hL hc hs fin)
theorem G_iload {i : Nat} {x : Int32} (hd : decode M.2.2.1 pc = .ok (.iload i, 2)) (hl : L[i]? = some (some (.int x))) (kk : G xo M d k n Q (pc + 2) L (.int x :: st) w) : G xo M d k n Q pc L st w := by
  intro p l e R s m args below meth c Z D tc ad A H locs cells slots ls X hR hL hc hs fin
  exact lv_iload X.1.1 X.1.2.1 hd (hL.2.2 _ _ hl) (kk p l e R s m args below meth c Z D tc ad A H locs cells slots ls X hR hL hc hs fin)
theorem G_iload_n {i : Fin 4} {x : Int32} (hd : decode M.2.2.1 pc = .ok (.iload_n i, 1)) (hl : L[(i : Nat)]? = some (some (.int x))) (kk : G xo M d k n Q (pc + 1) L (.int x :: st) w) : G xo M d k n Q pc L st w := by
  intro p l e R s m args below meth c Z D tc ad A H locs cells slots ls X hR hL hc hs fin
  exact lv_iload_n X.1.1 X.1.2.1 hd rfl (hL.2.2 _ _ hl) (kk p l e R s m args below meth c Z D tc ad A H locs cells slots ls X hR hL hc hs fin)
theorem G_lload {i : Nat} {x : Int64} (hd : decode M.2.2.1 pc = .ok (.lload i, 2)) (hl : L[i]? = some (some (.long x))) (kk : G xo M d k n Q (pc + 2) L (.long x :: st) w) : G xo M d k n Q pc L st w := by
  intro p l e R s m args below meth c Z D tc ad A H locs cells slots ls X hR hL hc hs fin
  exact lv_lload X.1.1 X.1.2.1 hd (hL.2.2 _ _ hl) (kk p l e R s m args below meth c Z D tc ad A H locs cells slots ls X hR hL hc hs fin)
theorem G_lload_n {i : Fin 4} {x : Int64} (hd : decode M.2.2.1 pc = .ok (.lload_n i, 1)) (hl : L[(i : Nat)]? = some (some (.long x))) (kk : G xo M d k n Q (pc + 1) L (.long x :: st) w) : G xo M d k n Q pc L st w := by
  intro p l e R s m args below meth c Z D tc ad A H locs cells slots ls X hR hL hc hs fin
  exact lv_lload_n X.1.1 X.1.2.1 hd rfl (hL.2.2 _ _ hl) (kk p l e R s m args below meth c Z D tc ad A H locs cells slots ls X hR hL hc hs fin)
theorem G_aload {i : Nat} {x : Nat} (hd : decode M.2.2.1 pc = .ok (.aload i, 2)) (hl : L[i]? = some (some (.ref x))) (kk : G xo M d k n Q (pc + 2) L (.ref x :: st) w) : G xo M d k n Q pc L st w := by
  intro p l e R s m args below meth c Z D tc ad A H locs cells slots ls X hR hL hc hs fin
  exact lv_aload X.1.1 X.1.2.1 hd (hL.2.2 _ _ hl) (kk p l e R s m args below meth c Z D tc ad A H locs cells slots ls X hR hL hc hs fin)
theorem G_aload_n {i : Fin 4} {x : Nat} (hd : decode M.2.2.1 pc = .ok (.aload_n i, 1)) (hl : L[(i : Nat)]? = some (some (.ref x))) (kk : G xo M d k n Q (pc + 1) L (.ref x :: st) w) : G xo M d k n Q pc L st w := by
  intro p l e R s m args below meth c Z D tc ad A H locs cells slots ls X hR hL hc hs fin
  exact lv_aload_n X.1.1 X.1.2.1 hd rfl (hL.2.2 _ _ hl) (kk p l e R s m args below meth c Z D tc ad A H locs cells slots ls X hR hL hc hs fin)
/-- the locals behind a store: the slot before it is cleared where a long stood there -/
def ab_cl (L : List (Option Value)) (i : Nat) : List (Option Value) := match i with
  | 0 => L
  | j + 1 => match L[j]? with
    | some (some (.long _)) => L.set j none
    | some (some (.double _)) => L.set j none
    | _ => L
def ab_s1 (L : List (Option Value)) (i : Nat) (v : Value) : List (Option Value) := (ab_cl L i).set i (some v)
def ab_s2 (L : List (Option Value)) (i : Nat) (v : Value) : List (Option Value) := ((ab_cl L i).set i (some v)).set (i + 1) none
theorem ab_cl_len (L : List (Option Value)) (i : Nat) : (ab_cl L i).length = L.length := by
  unfold ab_cl
  split
  · rfl
  · split <;> simp
theorem ab_cl_at {L : List (Option Value)} {i j : Nat} {v : Value} (h : (ab_cl L i)[j]? = some (some v)) : L[j]? = some (some v) ∧ ¬ (j + 1 = i ∧ v.category = 2) := by
  unfold ab_cl at h
  split at h
  · exact ⟨h, fun q => by omega⟩
  · rename_i i' a
    have key : ∀ u : Value, u.category = 2 → L[a]? = some (some u) → (L.set a none)[j]? = some (some v) → L[j]? = some (some v) ∧ ¬ (j + 1 = a + 1 ∧ v.category = 2) := by
      intro u hu h1 h2
      rw [List.getElem?_set] at h2
      by_cases e : a = j
      · subst e
        rw [if_pos rfl] at h2
        split at h2 <;> simp at h2
      · rw [if_neg e] at h2
        exact ⟨h2, fun q => e (by omega)⟩
    split at h
    · rename_i u hu
      exact key _ rfl hu h
    · rename_i u hu
      exact key _ rfl hu h
    · rename_i n1 n2
      refine ⟨h, fun q => ?_⟩
      have e : j = a := by omega
      subst e
      cases v <;> simp [Value.category] at q
      · exact n1 _ h
      · exact n2 _ h
/-- the locals as the kit lists them -/
def ab_al (ad : Nat → Nat) (L : List (Option Value)) : List (Nat × Value) := (List.range L.length).filterMap (fun i => match L[i]? with
  | some (some v) => some (i, ab_v ad v)
  | _ => none)
theorem ab_al_mem {ad : Nat → Nat} {L : List (Option Value)} {q : Nat × Value} : q ∈ ab_al ad L ↔ ∃ v, L[q.1]? = some (some v) ∧ q.2 = ab_v ad v := by
  unfold ab_al
  rw [List.mem_filterMap]
  constructor
  · rintro ⟨i, -, h⟩
    split at h
    · rename_i v hv
      cases h
      exact ⟨v, hv, rfl⟩
    · cases h
  · rintro ⟨v, hv, e⟩
    refine ⟨q.1, List.mem_range.mpr (List.getElem?_eq_some_iff.mp hv).1, ?_⟩
    rw [hv]
    show some (q.1, ab_v ad v) = some q
    rw [← e]
theorem ab_L.has {ad : Nat → Nat} {ls : Array Slot} {L : List (Option Value)} (h : ab_L ad ls L) : lv_has ls L.length (ab_al ad L) :=
  ⟨h.1, h.2.1, fun q hq => by
    obtain ⟨v, h1, h2⟩ := ab_al_mem.mp hq
    rw [h2]
    exact h.2.2 _ _ h1⟩
theorem ab_L.st1 {ad : Nat → Nat} {ls' : Array Slot} {L : List (Option Value)} {i : Nat} {v : Value} (h : lv_has ls' L.length ((i, ab_v ad v) :: (ab_al ad L).filter (fun q => !(q.1 == i) && !(q.1 + 1 == i && q.2.category == 2)))) : ab_L ad ls' (ab_s1 L i v) := by
  refine ⟨h.1.trans (by rw [ab_s1, List.length_set, ab_cl_len]), h.2.1, fun j u hj => ?_⟩
  rw [ab_s1, List.getElem?_set] at hj
  by_cases e : i = j
  · subst e
    rw [if_pos rfl] at hj
    split at hj
    · cases hj
      exact h.2.2 (i, ab_v ad v) List.mem_cons_self
    · cases hj
  · rw [if_neg e] at hj
    obtain ⟨h1, h2⟩ := ab_cl_at hj
    refine h.2.2 (j, ab_v ad u) (List.mem_cons_of_mem _ (List.mem_filter.mpr ⟨ab_al_mem.mpr ⟨u, h1, rfl⟩, ?_⟩))
    have e2 : ¬ j = i := fun q => e q.symm
    simp only [Bool.and_eq_true, Bool.not_eq_true', beq_eq_false_iff_ne, ne_eq, Bool.and_eq_false_iff, ab_cat]
    refine ⟨e2, ?_⟩
    by_cases q : j + 1 = i
    · exact Or.inr (fun q2 => h2 ⟨q, q2⟩)
    · exact Or.inl q
theorem ab_L.st2 {ad : Nat → Nat} {ls' : Array Slot} {L : List (Option Value)} {i : Nat} {v : Value} (h : lv_has ls' L.length ((i, ab_v ad v) :: (ab_al ad L).filter (fun q => !(q.1 == i) && (!(q.1 == i + 1) && !(q.1 + 1 == i && q.2.category == 2))))) : ab_L ad ls' (ab_s2 L i v) := by
  refine ⟨h.1.trans (by rw [ab_s2, List.length_set, List.length_set, ab_cl_len]), h.2.1, fun j u hj => ?_⟩
  rw [ab_s2, List.getElem?_set] at hj
  by_cases e1 : i + 1 = j
  · rw [if_pos e1] at hj
    split at hj <;> simp at hj
  rw [if_neg e1, List.getElem?_set] at hj
  by_cases e : i = j
  · subst e
    rw [if_pos rfl] at hj
    split at hj
    · cases hj
      exact h.2.2 (i, ab_v ad v) List.mem_cons_self
    · cases hj
  · rw [if_neg e] at hj
    obtain ⟨h1, h2⟩ := ab_cl_at hj
    refine h.2.2 (j, ab_v ad u) (List.mem_cons_of_mem _ (List.mem_filter.mpr ⟨ab_al_mem.mpr ⟨u, h1, rfl⟩, ?_⟩))
    have e2 : ¬ j = i := fun q => e q.symm
    have e3 : ¬ j = i + 1 := fun q => e1 q.symm
    simp only [Bool.and_eq_true, Bool.not_eq_true', beq_eq_false_iff_ne, ne_eq, Bool.and_eq_false_iff, ab_cat]
    refine ⟨e2, e3, ?_⟩
    by_cases q : j + 1 = i
    · exact Or.inr (fun q2 => h2 ⟨q, q2⟩)
    · exact Or.inl q
theorem G_istore {i : Nat} {x : Int32} (hd : decode M.2.2.1 pc = .ok (.istore i, 2)) (hi : i < L.length) (hL' : ab_s1 L i (.int x) = L') (kk : G xo M d k n Q (pc + 2) L' st w) : G xo M d k n Q pc L (.int x :: st) w := by
  intro p l e R s m args below meth c Z D tc ad A H locs cells slots ls X hR hL hc hs fin
  exact lv_istore X.1.1 X.1.2.1 hd hL.has hi rfl (fun ls' hl => kk p l e R s m args below meth c Z D tc ad A H locs cells slots ls' X hR (hL' ▸ ab_L.st1 (v := .int x) hl) hc hs fin)
theorem G_istore_n {i : Fin 4} {x : Int32} (hd : decode M.2.2.1 pc = .ok (.istore_n i, 1)) (hi : (i : Nat) < L.length) (hL' : ab_s1 L i (.int x) = L') (kk : G xo M d k n Q (pc + 1) L' st w) : G xo M d k n Q pc L (.int x :: st) w := by
  intro p l e R s m args below meth c Z D tc ad A H locs cells slots ls X hR hL hc hs fin
  exact lv_istore_n X.1.1 X.1.2.1 hd rfl hL.has hi rfl (fun ls' hl => kk p l e R s m args below meth c Z D tc ad A H locs cells slots ls' X hR (hL' ▸ ab_L.st1 (v := .int x) hl) hc hs fin)
theorem G_lstore {i : Nat} {x : Int64} (hd : decode M.2.2.1 pc = .ok (.lstore i, 2)) (hi : i + 1 < L.length) (hL' : ab_s2 L i (.long x) = L') (kk : G xo M d k n Q (pc + 2) L' st w) : G xo M d k n Q pc L (.long x :: st) w := by
  intro p l e R s m args below meth c Z D tc ad A H locs cells slots ls X hR hL hc hs fin
  exact lv_lstore X.1.1 X.1.2.1 hd hL.has hi rfl (fun ls' hl => kk p l e R s m args below meth c Z D tc ad A H locs cells slots ls' X hR (hL' ▸ ab_L.st2 (v := .long x) hl) hc hs fin)
theorem G_lstore_n {i : Fin 4} {x : Int64} (hd : decode M.2.2.1 pc = .ok (.lstore_n i, 1)) (hi : (i : Nat) + 1 < L.length) (hL' : ab_s2 L i (.long x) = L') (kk : G xo M d k n Q (pc + 1) L' st w) : G xo M d k n Q pc L (.long x :: st) w := by
  intro p l e R s m args below meth c Z D tc ad A H locs cells slots ls X hR hL hc hs fin
  exact lv_lstore_n X.1.1 X.1.2.1 hd rfl hL.has hi rfl (fun ls' hl => kk p l e R s m args below meth c Z D tc ad A H locs cells slots ls' X hR (hL' ▸ ab_L.st2 (v := .long x) hl) hc hs fin)
theorem G_astore {i : Nat} {x : Nat} (hd : decode M.2.2.1 pc = .ok (.astore i, 2)) (hi : i < L.length) (hL' : ab_s1 L i (.ref x) = L') (kk : G xo M d k n Q (pc + 2) L' st w) : G xo M d k n Q pc L (.ref x :: st) w := by
  intro p l e R s m args below meth c Z D tc ad A H locs cells slots ls X hR hL hc hs fin
  exact lv_astore X.1.1 X.1.2.1 hd hL.has hi rfl (fun ls' hl => kk p l e R s m args below meth c Z D tc ad A H locs cells slots ls' X hR (hL' ▸ ab_L.st1 (v := .ref x) hl) hc hs fin)
theorem G_astore_n {i : Fin 4} {x : Nat} (hd : decode M.2.2.1 pc = .ok (.astore_n i, 1)) (hi : (i : Nat) < L.length) (hL' : ab_s1 L i (.ref x) = L') (kk : G xo M d k n Q (pc + 1) L' st w) : G xo M d k n Q pc L (.ref x :: st) w := by
  intro p l e R s m args below meth c Z D tc ad A H locs cells slots ls X hR hL hc hs fin
  exact lv_astore_n X.1.1 X.1.2.1 hd rfl hL.has hi rfl (fun ls' hl => kk p l e R s m args below meth c Z D tc ad A H locs cells slots ls' X hR (hL' ▸ ab_L.st1 (v := .ref x) hl) hc hs fin)
theorem G_iinc {i : Nat} {z : Int} {x v : Int32} (hd : decode M.2.2.1 pc = .ok (.iinc i z, 3)) (hl : L[i]? = some (some (.int x))) (hv : x + Int32.ofInt z = v) (hL' : ab_s1 L i (.int v) = L') (kk : G xo M d k n Q (pc + 3) L' st w) : G xo M d k n Q pc L st w := by
  intro p l e R s m args below meth c Z D tc ad A H locs cells slots ls X hR hL hc hs fin
  have hm : (i, Value.int x) ∈ ab_al ad L := ab_al_mem.mpr ⟨_, hl, rfl⟩
  obtain ⟨j, hj⟩ := List.getElem?_of_mem hm
  exact lv_iinc X.1.1 X.1.2.1 hd hL.has hj hv (List.getElem?_eq_some_iff.mp hl).1 rfl (fun ls' hl => kk p l e R s m args below meth c Z D tc ad A H locs cells slots ls' X hR (hL' ▸ ab_L.st1 (v := .int v) hl) hc hs fin)
theorem G_if_eq {x : Int32} {off : Int} {tgt : Nat} (hd : decode M.2.2.1 pc = .ok (.ifCond .eq off, 3)) (ht : (pc : Int) + off = (tgt : Int)) (kt : x = 0 → G xo M d k n Q tgt L st w) (kf : ¬ x = 0 → G xo M d k n Q (pc + 3) L st w) : G xo M d k n Q pc L (.int x :: st) w := by
  intro p l e R s m args below meth c Z D tc ad A H locs cells slots ls X hR hL hc hs fin
  exact lv_if_eq X.1.1 X.1.2.1 hd ht (fun h => kt h p l e R s m args below meth c Z D tc ad A H locs cells slots ls X hR hL hc hs fin) (fun h => kf h p l e R s m args below meth c Z D tc ad A H locs cells slots ls X hR hL hc hs fin)
theorem G_icmp_eq {x y : Int32} {off : Int} {tgt : Nat} (hd : decode M.2.2.1 pc = .ok (.if_icmp .eq off, 3)) (ht : (pc : Int) + off = (tgt : Int)) (kt : x = y → G xo M d k n Q tgt L st w) (kf : ¬ x = y → G xo M d k n Q (pc + 3) L st w) : G xo M d k n Q pc L (.int y :: .int x :: st) w := by
  intro p l e R s m args below meth c Z D tc ad A H locs cells slots ls X hR hL hc hs fin
  exact lv_icmp_eq X.1.1 X.1.2.1 hd ht (fun h => kt h p l e R s m args below meth c Z D tc ad A H locs cells slots ls X hR hL hc hs fin) (fun h => kf h p l e R s m args below meth c Z D tc ad A H locs cells slots ls X hR hL hc hs fin)
theorem G_if_ne {x : Int32} {off : Int} {tgt : Nat} (hd : decode M.2.2.1 pc = .ok (.ifCond .ne off, 3)) (ht : (pc : Int) + off = (tgt : Int)) (kt : ¬ x = 0 → G xo M d k n Q tgt L st w) (kf : x = 0 → G xo M d k n Q (pc + 3) L st w) : G xo M d k n Q pc L (.int x :: st) w := by
  intro p l e R s m args below meth c Z D tc ad A H locs cells slots ls X hR hL hc hs fin
  exact lv_if_ne X.1.1 X.1.2.1 hd ht (fun h => kt h p l e R s m args below meth c Z D tc ad A H locs cells slots ls X hR hL hc hs fin) (fun h => kf h p l e R s m args below meth c Z D tc ad A H locs cells slots ls X hR hL hc hs fin)
theorem G_icmp_ne {x y : Int32} {off : Int} {tgt : Nat} (hd : decode M.2.2.1 pc = .ok (.if_icmp .ne off, 3)) (ht : (pc : Int) + off = (tgt : Int)) (kt : ¬ x = y → G xo M d k n Q tgt L st w) (kf : x = y → G xo M d k n Q (pc + 3) L st w) : G xo M d k n Q pc L (.int y :: .int x :: st) w := by
  intro p l e R s m args below meth c Z D tc ad A H locs cells slots ls X hR hL hc hs fin
  exact lv_icmp_ne X.1.1 X.1.2.1 hd ht (fun h => kt h p l e R s m args below meth c Z D tc ad A H locs cells slots ls X hR hL hc hs fin) (fun h => kf h p l e R s m args below meth c Z D tc ad A H locs cells slots ls X hR hL hc hs fin)
theorem G_if_lt {x : Int32} {off : Int} {tgt : Nat} (hd : decode M.2.2.1 pc = .ok (.ifCond .lt off, 3)) (ht : (pc : Int) + off = (tgt : Int)) (kt : x < 0 → G xo M d k n Q tgt L st w) (kf : ¬ x < 0 → G xo M d k n Q (pc + 3) L st w) : G xo M d k n Q pc L (.int x :: st) w := by
  intro p l e R s m args below meth c Z D tc ad A H locs cells slots ls X hR hL hc hs fin
  exact lv_if_lt X.1.1 X.1.2.1 hd ht (fun h => kt h p l e R s m args below meth c Z D tc ad A H locs cells slots ls X hR hL hc hs fin) (fun h => kf h p l e R s m args below meth c Z D tc ad A H locs cells slots ls X hR hL hc hs fin)
theorem G_icmp_lt {x y : Int32} {off : Int} {tgt : Nat} (hd : decode M.2.2.1 pc = .ok (.if_icmp .lt off, 3)) (ht : (pc : Int) + off = (tgt : Int)) (kt : x < y → G xo M d k n Q tgt L st w) (kf : ¬ x < y → G xo M d k n Q (pc + 3) L st w) : G xo M d k n Q pc L (.int y :: .int x :: st) w := by
  intro p l e R s m args below meth c Z D tc ad A H locs cells slots ls X hR hL hc hs fin
  exact lv_icmp_lt X.1.1 X.1.2.1 hd ht (fun h => kt h p l e R s m args below meth c Z D tc ad A H locs cells slots ls X hR hL hc hs fin) (fun h => kf h p l e R s m args below meth c Z D tc ad A H locs cells slots ls X hR hL hc hs fin)
theorem G_if_ge {x : Int32} {off : Int} {tgt : Nat} (hd : decode M.2.2.1 pc = .ok (.ifCond .ge off, 3)) (ht : (pc : Int) + off = (tgt : Int)) (kt : 0 ≤ x → G xo M d k n Q tgt L st w) (kf : ¬ 0 ≤ x → G xo M d k n Q (pc + 3) L st w) : G xo M d k n Q pc L (.int x :: st) w := by
  intro p l e R s m args below meth c Z D tc ad A H locs cells slots ls X hR hL hc hs fin
  exact lv_if_ge X.1.1 X.1.2.1 hd ht (fun h => kt h p l e R s m args below meth c Z D tc ad A H locs cells slots ls X hR hL hc hs fin) (fun h => kf h p l e R s m args below meth c Z D tc ad A H locs cells slots ls X hR hL hc hs fin)
theorem G_icmp_ge {x y : Int32} {off : Int} {tgt : Nat} (hd : decode M.2.2.1 pc = .ok (.if_icmp .ge off, 3)) (ht : (pc : Int) + off = (tgt : Int)) (kt : y ≤ x → G xo M d k n Q tgt L st w) (kf : ¬ y ≤ x → G xo M d k n Q (pc + 3) L st w) : G xo M d k n Q pc L (.int y :: .int x :: st) w := by
  intro p l e R s m args below meth c Z D tc ad A H locs cells slots ls X hR hL hc hs fin
  exact lv_icmp_ge X.1.1 X.1.2.1 hd ht (fun h => kt h p l e R s m args below meth c Z D tc ad A H locs cells slots ls X hR hL hc hs fin) (fun h => kf h p l e R s m args below meth c Z D tc ad A H locs cells slots ls X hR hL hc hs fin)
theorem G_if_gt {x : Int32} {off : Int} {tgt : Nat} (hd : decode M.2.2.1 pc = .ok (.ifCond .gt off, 3)) (ht : (pc : Int) + off = (tgt : Int)) (kt : 0 < x → G xo M d k n Q tgt L st w) (kf : ¬ 0 < x → G xo M d k n Q (pc + 3) L st w) : G xo M d k n Q pc L (.int x :: st) w := by
  intro p l e R s m args below meth c Z D tc ad A H locs cells slots ls X hR hL hc hs fin
  exact lv_if_gt X.1.1 X.1.2.1 hd ht (fun h => kt h p l e R s m args below meth c Z D tc ad A H locs cells slots ls X hR hL hc hs fin) (fun h => kf h p l e R s m args below meth c Z D tc ad A H locs cells slots ls X hR hL hc hs fin)
theorem G_icmp_gt {x y : Int32} {off : Int} {tgt : Nat} (hd : decode M.2.2.1 pc = .ok (.if_icmp .gt off, 3)) (ht : (pc : Int) + off = (tgt : Int)) (kt : y < x → G xo M d k n Q tgt L st w) (kf : ¬ y < x → G xo M d k n Q (pc + 3) L st w) : G xo M d k n Q pc L (.int y :: .int x :: st) w := by
  intro p l e R s m args below meth c Z D tc ad A H locs cells slots ls X hR hL hc hs fin
  exact lv_icmp_gt X.1.1 X.1.2.1 hd ht (fun h => kt h p l e R s m args below meth c Z D tc ad A H locs cells slots ls X hR hL hc hs fin) (fun h => kf h p l e R s m args below meth c Z D tc ad A H locs cells slots ls X hR hL hc hs fin)
theorem G_if_le {x : Int32} {off : Int} {tgt : Nat} (hd : decode M.2.2.1 pc = .ok (.ifCond .le off, 3)) (ht : (pc : Int) + off = (tgt : Int)) (kt : x ≤ 0 → G xo M d k n Q tgt L st w) (kf : ¬ x ≤ 0 → G xo M d k n Q (pc + 3) L st w) : G xo M d k n Q pc L (.int x :: st) w := by
  intro p l e R s m args below meth c Z D tc ad A H locs cells slots ls X hR hL hc hs fin
  exact lv_if_le X.1.1 X.1.2.1 hd ht (fun h => kt h p l e R s m args below meth c Z D tc ad A H locs cells slots ls X hR hL hc hs fin) (fun h => kf h p l e R s m args below meth c Z D tc ad A H locs cells slots ls X hR hL hc hs fin)
theorem G_icmp_le {x y : Int32} {off : Int} {tgt : Nat} (hd : decode M.2.2.1 pc = .ok (.if_icmp .le off, 3)) (ht : (pc : Int) + off = (tgt : Int)) (kt : x ≤ y → G xo M d k n Q tgt L st w) (kf : ¬ x ≤ y → G xo M d k n Q (pc + 3) L st w) : G xo M d k n Q pc L (.int y :: .int x :: st) w := by
  intro p l e R s m args below meth c Z D tc ad A H locs cells slots ls X hR hL hc hs fin
  exact lv_icmp_le X.1.1 X.1.2.1 hd ht (fun h => kt h p l e R s m args below meth c Z D tc ad A H locs cells slots ls X hR hL hc hs fin) (fun h => kf h p l e R s m args below meth c Z D tc ad A H locs cells slots ls X hR hL hc hs fin)
theorem G_goto {off : Int} {tgt : Nat} (hd : decode M.2.2.1 pc = .ok (.goto off, 3)) (ht : (pc : Int) + off = (tgt : Int)) (kk : G xo M d k n Q tgt L st w) : G xo M d k n Q pc L st w := by
  intro p l e R s m args below meth c Z D tc ad A H locs cells slots ls X hR hL hc hs fin
  exact lv_goto X.1.1 X.1.2.1 hd ht (kk p l e R s m args below meth c Z D tc ad A H locs cells slots ls X hR hL hc hs fin)
theorem G_ifnn {x : Nat} {off : Int} {tgt : Nat} (hd : decode M.2.2.1 pc = .ok (.ifnonnull off, 3)) (ht : (pc : Int) + off = (tgt : Int)) (kk : G xo M d k n Q tgt L st w) : G xo M d k n Q pc L (.ref x :: st) w := by
  intro p l e R s m args below meth c Z D tc ad A H locs cells slots ls X hR hL hc hs fin
  exact lv_ifnonnull X.1.1 X.1.2.1 hd ht (kk p l e R s m args below meth c Z D tc ad A H locs cells slots ls X hR hL hc hs fin)
theorem G_ifnnN {off : Int} (hd : decode M.2.2.1 pc = .ok (.ifnonnull off, 3)) (kk : G xo M d k n Q (pc + 3) L st w) : G xo M d k n Q pc L (.null :: st) w := by
  intro p l e R s m args below meth c Z D tc ad A H locs cells slots ls X hR hL hc hs fin
  exact lv_ifnonnullN X.1.1 X.1.2.1 hd (kk p l e R s m args below meth c Z D tc ad A H locs cells slots ls X hR hL hc hs fin)
/-- a return -/
theorem G_ret {v : Option Value} (hr : ab_ret M pc v) (hq : Q w v) : G xo M d k n Q pc L v.toList w := by
  intro p l e R s m args below meth c Z D tc ad A H locs cells slots ls X hR hL hc hs fin
  exact fin pc ad H locs cells slots ls w v hr ⟨fun _ _ => rfl, Nat.le_refl _, fun _ => rfl⟩ hR (Nat.le_add_right _ _) (Nat.le_add_right _ _) hq
theorem G_mono {Q' : List ab_C → Option Value → Prop} {k' n' : Nat} (h : G xo M d k n Q pc L st w) (hk : k ≤ k') (hn : n ≤ n') (hQ : ∀ w' v, Q w' v → Q' w' v) : G xo M d k' n' Q' pc L st w := by
  intro p l e R s m args below meth c Z D tc ad A H locs cells slots ls X hR hL hc hs fin
  exact h p l e R s m args below meth c Z D tc ad A H locs cells slots ls X hR hL (by omega) (by omega) (fun pc' ad' H' locs' cells' slots' ls' w' v h1 h2 h4 h5 h6 h7 => fin pc' ad' H' locs' cells' slots' ls' w' v h1 h2 h4 (by omega) (by omega) (hQ _ _ h7))
end AB
end
section
/-! Rules of G: fields, arrays, statics, what is made. -/
/-- a class of the worlds, by its place in vwCl -/
def ab_kc (ci : Nat) (C : String) (T : u_T) (N : Nat) (ty : Nat → FieldType) : Prop := vwCl[ci]? = some (C, T, N) ∧ (∀ w ∈ u_ws C T N, w ∈ ab_U) ∧ (∀ k, k < N → parseFieldDescriptor (T k).2.2.1 = some (ty k)) ∧ (∀ a, a < N → ∀ b, b < N → a ≠ b → (T a).2.1 ≠ (T b).2.1)
theorem ab_nar {ad : Nat → Nat} {ty : FieldType} {v : Value} (h : narrow ty v = v) : narrow ty (ab_v ad v) = ab_v ad v := by
  cases v with
  | ref k => cases ty <;> rfl
  | _ => exact h
theorem ab_fit {ad : Nat → Nat} {ty : FieldType} {v : Value} (h : fits ty v = true) : fits ty (ab_v ad v) = true := by
  cases v with
  | ref k => cases ty <;> first | rfl | exact h
  | _ => exact h
/-- tokens in scope -/
def ab_sc (N : Nat) (v : Value) : Prop := match v with
  | .ref t => t < N
  | _ => True
def ab_scC (N : Nat) (c : ab_C) : Prop := match c with
  | .inl (_, _, .inr (.inr (.inr (.inr f)))) => ∀ j t, f j = some t → t < N
  | .inl _ => True
  | .inr (_, fs) => ∀ v ∈ fs, ab_sc N v
def ab_scS (N : Nat) (L : List (Option Value)) (st : List Value) (w : List ab_C) : Prop := (∀ v, some v ∈ L → ab_sc N v) ∧ (∀ v ∈ st, ab_sc N v) ∧ ∀ c ∈ w, ab_scC N c
theorem ab_v_re {ad ad' : Nat → Nat} {N : Nat} (h : ∀ t, t < N → ad' t = ad t) {v : Value} (hv : ab_sc N v) : ab_v ad' v = ab_v ad v := by
  cases v with
  | ref k => show Value.ref (ad' k) = Value.ref (ad k); rw [h k hv]
  | _ => rfl
theorem ab_st_re {ad ad' : Nat → Nat} {N : Nat} (h : ∀ t, t < N → ad' t = ad t) {st : List Value} (hv : ∀ v ∈ st, ab_sc N v) : st.map (ab_v ad') = st.map (ab_v ad) := List.map_congr_left fun v hm => ab_v_re h (hv v hm)
theorem ab_e_re {tc : Nat → ClassId} {ad ad' : Nat → Nat} {N : Nat} (h : ∀ t, t < N → ad' t = ad t) {c : ab_C} (hv : ab_scC N c) : ab_e tc ad' c = ab_e tc ad c := by
  match c, hv with
  | .inl (t, n, .inl f), _ => rfl
  | .inl (t, n, .inr (.inl f)), _ => rfl
  | .inl (t, n, .inr (.inr (.inl f))), _ => rfl
  | .inl (t, n, .inr (.inr (.inr (.inl f)))), _ => rfl
  | .inl (t, n, .inr (.inr (.inr (.inr f)))), hv =>
    have e : (fun j => (f j).map ad') = (fun j => (f j).map ad) := by
      funext j
      cases hf : f j with
      | none => rfl
      | some q => show some (ad' q) = some (ad q); rw [h q (hv j q hf)]
    show (Sum.inl (tc t, n, .inr (.inr (.inr (.inr (fun j => (f j).map ad'))))) : va_E) = _
    rw [e]
    rfl
  | .inr (ci, fs), hv =>
    show (Sum.inr (ci, fs.map (ab_v ad')) : va_E) = .inr (ci, fs.map (ab_v ad))
    rw [ab_st_re h hv]
theorem ab_w_re {tc : Nat → ClassId} {ad ad' : Nat → Nat} {w : List ab_C} (h : ∀ t, t < w.length + 100 → ad' t = ad t) (hv : ∀ c ∈ w, ab_scC (w.length + 100) c) : ab_w tc ad' 100 w = ab_w tc ad 100 w := by
  apply List.ext_getElem?
  intro k
  rw [ab_w_at, ab_w_at]
  cases hk : w[k]? with
  | none => rfl
  | some c =>
    show some (ad' (k + 100), ab_e tc ad' c) = some (ad (k + 100), ab_e tc ad c)
    rw [h _ (by have := (List.getElem?_eq_some_iff.mp hk).1; omega), ab_e_re h (hv c (List.mem_of_getElem? hk))]
theorem ab_L.re {ad ad' : Nat → Nat} {N : Nat} {ls : Array Slot} {L : List (Option Value)} (hL : ab_L ad ls L) (h : ∀ t, t < N → ad' t = ad t) (hv : ∀ v, some v ∈ L → ab_sc N v) : ab_L ad' ls L :=
  ⟨hL.1, hL.2.1, fun i v hi => by rw [ab_v_re h (hv v (List.mem_of_getElem? hi))]; exact hL.2.2 i v hi⟩
theorem ab_X.re {xo : ab_XO} {M : ab_M} {d : Nat} {p : Program} {R : Room} {s : State} {m : MethodId} {args : Array Value} {meth : Method} {c : Code} {D : va_G} {tc : Nat → ClassId} {ad ad' : Nat → Nat} {A : Nat → Prop} (X : ab_X xo M d p R s m args meth c D tc ad A) (h : ∀ t, t < 100 → ad' t = ad t) : ab_X xo M d p R s m args meth c D tc ad' A :=
  ⟨X.1, X.2.1, X.2.2.1, X.2.2.2.1, X.2.2.2.2.1, X.2.2.2.2.2.1, X.2.2.2.2.2.2.re h⟩
section AB
variable {xo : ab_XO} {M : ab_M} {d k n : Nat} {Q : List ab_C → Option Value → Prop} {pc : Nat} {L : List (Option Value)} {st : List Value} {w w' : List ab_C}
theorem G_get {idx ci j f N : Nat} {C : String} {T : u_T} {ty : Nat → FieldType} {fs : List Value} {v : Value} (hc : ab_kc ci C T N ty) (hd : decode M.2.2.1 pc = .ok (.getfield idx, 3)) (hl : Cond.fieldLink M.1 idx (T f).1 (T f).2.1 (T f).2.2.1 ∈ ab_U) (hf : f < N) (hw : w[j]? = some (.inr (ci, fs))) (hv : fs[f]? = some v) (kk : G xo M d k n Q (pc + 3) L (v :: st) w) : G xo M d k n Q pc L (.ref (j + 100) :: st) w := by
  intro p l e R s m args below meth c Z D tc ad A H locs cells slots ls X hR hL hcc hss fin
  exact va_get X.1.1 X.1.2.1 X.2.2.1 hc.2.1 X.1.2.2.2 X.2.2.2.1 hR.1 j (fs := fs.map (ab_v ad)) (by rw [ab_w_at, hw]; rfl) hc.1 f hf (X.2.2.1 _ hl) (fun _ h => h) (by rw [List.getElem?_map, hv]; rfl) hd (kk p l e R s m args below meth c Z D tc ad A H locs cells slots ls X hR hL hcc hss fin)
/-- how the world goes on behind a write -/
theorem ab_R.put {D : va_G} {tc : Nat → ClassId} {ad : Nat → Nat} {A : Nat → Prop} {s : State} {H : Heap} {locs : List Loc} {w : List ab_C} {j : Nat} {c : ab_C} (h1 : va_P D vwCl ((ab_w tc ad 100 w).set j (ad (j + 100), ab_e tc ad c)) H) (h2 : va_D A ((ab_w tc ad 100 w).set j (ad (j + 100), ab_e tc ad c))) (h3 : va_S A s.heap H locs) : ab_R D tc ad A s H locs (w.set j c) := by
  rw [← ab_w_set] at h1 h2
  exact ⟨h1, h2, h3⟩
theorem G_put {idx ci j f N : Nat} {C : String} {T : u_T} {ty : Nat → FieldType} {fs : List Value} {v : Value} (hc : ab_kc ci C T N ty) (hd : decode M.2.2.1 pc = .ok (.putfield idx, 3)) (hl : Cond.fieldLink M.1 idx (T f).1 (T f).2.1 (T f).2.2.1 ∈ ab_U) (hf : f < N) (hfin : (T f).2.2.2 = false) (hn : narrow (ty f) v = v) (hfit : fits (ty f) v = true) (hw : w[j]? = some (.inr (ci, fs))) (hlen : f < fs.length) (hw' : w.set j (.inr (ci, fs.set f v)) = w') (kk : G xo M d k n Q (pc + 3) L st w') : G xo M d k n Q pc L (v :: .ref (j + 100) :: st) w := by
  intro p l e R s m args below meth c Z D tc ad A H locs cells slots ls X hR hL hcc hss fin
  subst hw'
  refine va_put X.1.1 X.1.2.1 X.2.2.1 hc.2.1 ty hc.2.2.1 hc.2.2.2 X.1.2.2.2 X.2.2.2.1 hR.1 hR.2.1 hR.2.2 j (fs := fs.map (ab_v ad)) (by rw [ab_w_at, hw]; rfl) hc.1 f hf (X.2.2.1 _ hl) (fun _ h => h) hfin (hc.2.2.1 f hf) (ab_nar hn) (ab_fit hfit) (by rw [List.length_map]; exact hlen) hd (fun H1 locs1 h1 h2 h3 => ?_)
  rw [← List.map_set] at h1 h2
  exact kk p l e R s m args below meth c Z D tc ad A H1 locs1 cells slots ls X (ab_R.put (c := .inr (ci, fs.set f v)) h1 h2 h3) hL hcc hss (by simp only [ab_ext, List.length_set] at fin ⊢; exact fin)
theorem G_putF {idx ci j f N : Nat} {C : String} {T : u_T} {ty : Nat → FieldType} {fs : List Value} {v : Value} (hc : ab_kc ci C T N ty) (hd : decode M.2.2.1 pc = .ok (.putfield idx, 3)) (hl : Cond.fieldLink M.1 idx (T f).1 (T f).2.1 (T f).2.2.1 ∈ ab_U) (hf : f < N) (hfin : (T f).2.2.2 = true) (hin : M.2.1.name = "<init>") (hown : (T f).1 = M.1) (hn : narrow (ty f) v = v) (hfit : fits (ty f) v = true) (hw : w[j]? = some (.inr (ci, fs))) (hlen : f < fs.length) (hw' : w.set j (.inr (ci, fs.set f v)) = w') (kk : G xo M d k n Q (pc + 3) L st w') : G xo M d k n Q pc L (v :: .ref (j + 100) :: st) w := by
  intro p l e R s m args below meth c Z D tc ad A H locs cells slots ls X hR hL hcc hss fin
  subst hw'
  refine va_putF X.1.1 X.1.2.1 X.2.2.1 hc.2.1 ty hc.2.2.1 hc.2.2.2 X.1.2.2.2 X.2.2.2.1 hR.1 hR.2.1 hR.2.2 j (fs := fs.map (ab_v ad)) (by rw [ab_w_at, hw]; rfl) hc.1 f hf (X.2.2.1 _ hl) (fun _ h => h) hfin (X.2.1.2.2.trans hin) hown (hc.2.2.1 f hf) (ab_nar hn) (ab_fit hfit) (by rw [List.length_map]; exact hlen) hd (fun H1 locs1 h1 h2 h3 => ?_)
  rw [← List.map_set] at h1 h2
  exact kk p l e R s m args below meth c Z D tc ad A H1 locs1 cells slots ls X (ab_R.put (c := .inr (ci, fs.set f v)) h1 h2 h3) hL hcc hss (by simp only [ab_ext, List.length_set] at fin ⊢; exact fin)
theorem G_iald {j N : Nat} {f : Nat → Int32} {i : Int32} (hd : decode M.2.2.1 pc = .ok (.iaload, 1)) (hw : w[j]? = some (.inl (0, N, .inl f))) (hin : vp_in i N) (kk : G xo M d k n Q (pc + 1) L (.int (f i.toNatClampNeg) :: st) w) : G xo M d k n Q pc L (.int i :: .ref (j + 100) :: st) w := by
  intro p l e R s m args below meth c Z D tc ad A H locs cells slots ls X hR hL hcc hss fin
  exact va_iald X.1.1 X.1.2.1 X.2.2.2.1 hR.1 j 0 (cA := tc 0) (f := f) (by rw [ab_w_at, hw]; rfl) rfl hin hd (kk p l e R s m args below meth c Z D tc ad A H locs cells slots ls X hR hL hcc hss fin)
theorem G_lald {j N : Nat} {f : Nat → Int64} {i : Int32} (hd : decode M.2.2.1 pc = .ok (.laload, 1)) (hw : w[j]? = some (.inl (1, N, .inr (.inl f)))) (hin : vp_in i N) (kk : G xo M d k n Q (pc + 1) L (.long (f i.toNatClampNeg) :: st) w) : G xo M d k n Q pc L (.int i :: .ref (j + 100) :: st) w := by
  intro p l e R s m args below meth c Z D tc ad A H locs cells slots ls X hR hL hcc hss fin
  exact va_lald X.1.1 X.1.2.1 X.2.2.2.1 hR.1 j 1 (cA := tc 1) (f := f) (by rw [ab_w_at, hw]; rfl) rfl hin hd (kk p l e R s m args below meth c Z D tc ad A H locs cells slots ls X hR hL hcc hss fin)
theorem G_bald {j N : Nat} {f : Nat → Int32} {i : Int32} (hd : decode M.2.2.1 pc = .ok (.baload, 1)) (hw : w[j]? = some (.inl (2, N, .inl f))) (hin : vp_in i N) (kk : G xo M d k n Q (pc + 1) L (.int (f i.toNatClampNeg) :: st) w) : G xo M d k n Q pc L (.int i :: .ref (j + 100) :: st) w := by
  intro p l e R s m args below meth c Z D tc ad A H locs cells slots ls X hR hL hcc hss fin
  exact va_bald X.1.1 X.1.2.1 X.2.2.2.1 hR.1 j 2 (cA := tc 2) (f := f) (by rw [ab_w_at, hw]; rfl) rfl hin hd (kk p l e R s m args below meth c Z D tc ad A H locs cells slots ls X hR hL hcc hss fin)
theorem G_zald {j N : Nat} {f : Nat → Int32} {i : Int32} (hd : decode M.2.2.1 pc = .ok (.baload, 1)) (hw : w[j]? = some (.inl (3, N, .inl f))) (hin : vp_in i N) (kk : G xo M d k n Q (pc + 1) L (.int (f i.toNatClampNeg) :: st) w) : G xo M d k n Q pc L (.int i :: .ref (j + 100) :: st) w := by
  intro p l e R s m args below meth c Z D tc ad A H locs cells slots ls X hR hL hcc hss fin
  exact va_zald X.1.1 X.1.2.1 X.2.2.2.1 hR.1 j 3 (cA := tc 3) (f := f) (by rw [ab_w_at, hw]; rfl) rfl hin hd (kk p l e R s m args below meth c Z D tc ad A H locs cells slots ls X hR hL hcc hss fin)
theorem G_iast {j N : Nat} {f : Nat → Int32} {i : Int32} {x : Int32} (hd : decode M.2.2.1 pc = .ok (.iastore, 1)) (hw : w[j]? = some (.inl (0, N, .inl f))) (hin : vp_in i N) (hw' : w.set j (.inl (0, N, .inl (upd f i.toNatClampNeg x))) = w') (kk : G xo M d k n Q (pc + 1) L st w') : G xo M d k n Q pc L (.int x :: .int i :: .ref (j + 100) :: st) w := by
  intro p l e R s m args below meth c Z D tc ad A H locs cells slots ls X hR hL hcc hss fin
  subst hw'
  refine va_iast X.1.1 X.1.2.1 X.2.2.2.1 hR.1 hR.2.1 hR.2.2 j 0 (cA := tc 0) (f := f) (by rw [ab_w_at, hw]; rfl) rfl hin hd (fun H1 locs1 h1 h2 h3 => ?_)
  exact kk p l e R s m args below meth c Z D tc ad A H1 locs1 cells slots ls X (ab_R.put (c := .inl (0, N, .inl (upd f i.toNatClampNeg x))) h1 h2 h3) hL hcc hss (by simp only [ab_ext, List.length_set] at fin ⊢; exact fin)
theorem G_last {j N : Nat} {f : Nat → Int64} {i : Int32} {x : Int64} (hd : decode M.2.2.1 pc = .ok (.lastore, 1)) (hw : w[j]? = some (.inl (1, N, .inr (.inl f)))) (hin : vp_in i N) (hw' : w.set j (.inl (1, N, .inr (.inl (vp_updL f i.toNatClampNeg x)))) = w') (kk : G xo M d k n Q (pc + 1) L st w') : G xo M d k n Q pc L (.long x :: .int i :: .ref (j + 100) :: st) w := by
  intro p l e R s m args below meth c Z D tc ad A H locs cells slots ls X hR hL hcc hss fin
  subst hw'
  refine va_last X.1.1 X.1.2.1 X.2.2.2.1 hR.1 hR.2.1 hR.2.2 j 1 (cA := tc 1) (f := f) (by rw [ab_w_at, hw]; rfl) rfl hin hd (fun H1 locs1 h1 h2 h3 => ?_)
  exact kk p l e R s m args below meth c Z D tc ad A H1 locs1 cells slots ls X (ab_R.put (c := .inl (1, N, .inr (.inl (vp_updL f i.toNatClampNeg x)))) h1 h2 h3) hL hcc hss (by simp only [ab_ext, List.length_set] at fin ⊢; exact fin)
theorem G_bast {j N : Nat} {f : Nat → Int32} {i : Int32} {x : Int32} (hd : decode M.2.2.1 pc = .ok (.bastore, 1)) (hw : w[j]? = some (.inl (2, N, .inl f))) (hin : vp_in i N) (hw' : w.set j (.inl (2, N, .inl (upd f i.toNatClampNeg (vp_nar .byte x)))) = w') (kk : G xo M d k n Q (pc + 1) L st w') : G xo M d k n Q pc L (.int x :: .int i :: .ref (j + 100) :: st) w := by
  intro p l e R s m args below meth c Z D tc ad A H locs cells slots ls X hR hL hcc hss fin
  subst hw'
  refine va_bast X.1.1 X.1.2.1 X.2.2.2.1 hR.1 hR.2.1 hR.2.2 j 2 (cA := tc 2) (f := f) (by rw [ab_w_at, hw]; rfl) rfl hin hd (fun H1 locs1 h1 h2 h3 => ?_)
  exact kk p l e R s m args below meth c Z D tc ad A H1 locs1 cells slots ls X (ab_R.put (c := .inl (2, N, .inl (upd f i.toNatClampNeg (vp_nar .byte x)))) h1 h2 h3) hL hcc hss (by simp only [ab_ext, List.length_set] at fin ⊢; exact fin)
theorem G_zast {j N : Nat} {f : Nat → Int32} {i : Int32} {x : Int32} (hd : decode M.2.2.1 pc = .ok (.bastore, 1)) (hw : w[j]? = some (.inl (3, N, .inl f))) (hin : vp_in i N) (hw' : w.set j (.inl (3, N, .inl (upd f i.toNatClampNeg (vp_nar .boolean x)))) = w') (kk : G xo M d k n Q (pc + 1) L st w') : G xo M d k n Q pc L (.int x :: .int i :: .ref (j + 100) :: st) w := by
  intro p l e R s m args below meth c Z D tc ad A H locs cells slots ls X hR hL hcc hss fin
  subst hw'
  refine va_zast X.1.1 X.1.2.1 X.2.2.2.1 hR.1 hR.2.1 hR.2.2 j 3 (cA := tc 3) (f := f) (by rw [ab_w_at, hw]; rfl) rfl hin hd (fun H1 locs1 h1 h2 h3 => ?_)
  exact kk p l e R s m args below meth c Z D tc ad A H1 locs1 cells slots ls X (ab_R.put (c := .inl (3, N, .inl (upd f i.toNatClampNeg (vp_nar .boolean x)))) h1 h2 h3) hL hcc hss (by simp only [ab_ext, List.length_set] at fin ⊢; exact fin)
/-- an element of an array outside the world -/
theorem G_xald {j N : Nat} {f : Nat → Int32} {i : Int32} (hd : decode M.2.2.1 pc = .ok (.iaload, 1)) (hx : xo[j]? = some (N, f)) (hin : vp_in i N) (kk : G xo M d k n Q (pc + 1) L (.int (f i.toNatClampNeg) :: st) w) : G xo M d k n Q pc L (.int i :: .ref j :: st) w := by
  intro p l e R s m args below meth c Z D tc ad A H locs cells slots ls X hR hL hcc hss fin
  exact va_ti X.1.1 X.1.2.1 (X.2.2.2.2.2.2.1 j _ hx) hR.2.2 hin rfl hd (kk p l e R s m args below meth c Z D tc ad A H locs cells slots ls X hR hL hcc hss fin)
theorem G_xlen {j N : Nat} {f : Nat → Int32} (hd : decode M.2.2.1 pc = .ok (.arraylength, 1)) (hx : xo[j]? = some (N, f)) (kk : G xo M d k n Q (pc + 1) L (.int (Int32.ofNat N) :: st) w) : G xo M d k n Q pc L (.ref j :: st) w := by
  intro p l e R s m args below meth c Z D tc ad A H locs cells slots ls X hR hL hcc hss fin
  exact va_tlen X.1.1 X.1.2.1 (X.2.2.2.2.2.2.1 j _ hx) hR.2.2 rfl hd (kk p l e R s m args below meth c Z D tc ad A H locs cells slots ls X hR hL hcc hss fin)
theorem G_gets {j idx : Nat} {C f : String} (hd : decode M.2.2.1 pc = .ok (.getstatic idx, 3)) (hx : ab_sn[j]? = some (C, f)) (hl : Cond.fieldLink M.1 idx C f "[I" ∈ ab_U) (kk : G xo M d k n Q (pc + 3) L (.ref j :: st) w) : G xo M d k n Q pc L st w := by
  intro p l e R s m args below meth c Z D tc ad A H locs cells slots ls X hR hL hcc hss fin
  exact va_gets X.1.1 X.1.2.1 (X.2.2.2.2.2.2.2.1 j _ hx) hR.2.2 X.1.2.2.2 (X.2.2.1 _ hl) (fun _ h => h) hd (kk p l e R s m args below meth c Z D tc ad A H locs cells slots ls X hR hL hcc hss fin)
theorem ab_rf (ad : Nat → Nat) (r : Option Nat) : ab_v ad (va_rf r) = va_rf (r.map ad) := by cases r <;> rfl
theorem G_aald {j N : Nat} {f : Nat → Option Nat} {i : Int32} (hd : decode M.2.2.1 pc = .ok (.aaload, 1)) (hw : w[j]? = some (.inl (4, N, .inr (.inr (.inr (.inr f)))))) (hin : vp_in i N) (kk : G xo M d k n Q (pc + 1) L (va_rf (f i.toNatClampNeg) :: st) w) : G xo M d k n Q pc L (.int i :: .ref (j + 100) :: st) w := by
  intro p l e R s m args below meth c Z D tc ad A H locs cells slots ls X hR hL hcc hss fin
  refine va_aldq X.1.1 X.1.2.1 X.2.2.2.1 hR.1 j 4 (cA := tc 4) (C := RX0) (f := fun q => (f q).map ad) (by rw [ab_w_at, hw]; rfl) rfl hin hd ?_
  have h1 := kk p l e R s m args below meth c Z D tc ad A H locs cells slots ls X hR hL hcc hss fin
  rw [List.map_cons, ab_rf] at h1
  exact h1
theorem G_aast {j q N : Nat} {f : Nat → Option Nat} {i : Int32} {fs : List Value} (hd : decode M.2.2.1 pc = .ok (.aastore, 1)) (hw : w[j]? = some (.inl (4, N, .inr (.inr (.inr (.inr f)))))) (hq : w[q]? = some (.inr (1, fs))) (hin : vp_in i N) (hw' : w.set j (.inl (4, N, .inr (.inr (.inr (.inr (va_up f i.toNatClampNeg (some (q + 100)))))))) = w') (kk : G xo M d k n Q (pc + 1) L st w') : G xo M d k n Q pc L (.ref (q + 100) :: .int i :: .ref (j + 100) :: st) w := by
  intro p l e R s m args below meth c Z D tc ad A H locs cells slots ls X hR hL hcc hss fin
  subst hw'
  refine va_astq X.1.1 X.1.2.1 X.2.2.2.1 hR.1 hR.2.1 hR.2.2 j 4 q 1 (cA := tc 4) (r := (RX0, TX0, 6)) (vs := fs.map (ab_v ad)) (f := fun q => (f q).map ad) (by rw [ab_w_at, hw]; rfl) rfl (by rw [ab_w_at, hq]; rfl) rfl hin hd (fun H1 locs1 h1 h2 h3 => ?_)
  have ee : va_up (fun q => (f q).map ad) i.toNatClampNeg (some (ad (q + 100))) = (fun z => (va_up f i.toNatClampNeg (some (q + 100)) z).map ad) := by
    funext z
    by_cases hz : z = i.toNatClampNeg
    · simp [va_up, hz]
    · simp [va_up, hz]
  rw [ee] at h1 h2
  exact kk p l e R s m args below meth c Z D tc ad A H1 locs1 cells slots ls X (ab_R.put (c := .inl (4, N, .inr (.inr (.inr (.inr (va_up f i.toNatClampNeg (some (q + 100)))))))) h1 h2 h3) hL hcc hss (by simp only [ab_ext, List.length_set] at fin ⊢; exact fin)
/-- the rest of a state behind something made -/
theorem G_made {c0 : ab_C} {q N : Nat} {pc' : Nat} (hsc : ab_scS (w.length + 100) L st w) {p : Program} {l : Launch} {e : Env} {R : Room} {s : State} {m : MethodId} {args : Array Value} {below : List Frame} {meth : Method} {c : Code} {Z : State → Prop} {D : va_G} {tc : Nat → ClassId} {ad : Nat → Nat} {A : Nat → Prop} {H : Heap} {locs : List Loc} {cells slots : Nat} {ls : Array Slot}
    (X : ab_X xo M d p R s m args meth c D tc ad A) (hL : ab_L ad ls L) (hcc : cells + (k + 1) ≤ R.cells) (hss : slots + (n + N) ≤ R.slots)
    (fin : ∀ (pc' : Nat) (ad' : Nat → Nat) (H' : Heap) (locs' : List Loc) (cells' slots' : Nat) (ls' : Array Slot) (w' : List ab_C) (v : Option Value),
      ab_ret M pc' v → ab_ext w ad w' ad' → ab_R D tc ad' A s H' locs' w' → cells' ≤ cells + (k + 1) → slots' ≤ slots + (n + N) → Q w' v →
      W p l e R s m args below meth c H' locs' cells' slots' Z (F0 m pc' ls' (v.toList.map (ab_v ad'))))
    (hE : ∀ f : Nat → Nat, ab_e tc f c0 = ab_e tc ad c0) (h1 : va_P D vwCl (ab_w tc ad 100 w ++ [(q, ab_e tc ad c0)]) H) (h2 : va_D A (ab_w tc ad 100 w ++ [(q, ab_e tc ad c0)])) (h3 : va_S A s.heap H locs)
    (kk : G xo M d k n Q pc' L (.ref (w.length + 100) :: st) (w ++ [c0])) : W p l e R s m args below meth c H locs (cells + 1) (slots + N) Z (F0 m pc' ls (.ref q :: st.map (ab_v ad))) := by
  have hre : ∀ t, t < w.length + 100 → va_up ad (w.length + 100) q t = ad t := fun t ht => by
    have : ¬ t = w.length + 100 := by omega
    simp [va_up, this]
  have hq : va_up ad (w.length + 100) q (w.length + 100) = q := by simp [va_up]
  have hw : ab_w tc (va_up ad (w.length + 100) q) 100 (w ++ [c0]) = ab_w tc ad 100 w ++ [(q, ab_e tc ad c0)] := by
    rw [ab_w_app, ab_w_re hre hsc.2.2]
    show _ ++ [(va_up ad (w.length + 100) q (w.length + 100), ab_e tc _ c0)] = _
    rw [hq, hE]
  have h := kk p l e R s m args below meth c Z D tc (va_up ad (w.length + 100) q) A H locs (cells + 1) (slots + N) ls (X.re (fun t ht => hre t (by omega))) ⟨by rw [hw]; exact h1, by rw [hw]; exact h2, h3⟩ (hL.re hre hsc.1) (by omega) (by omega)
    (fun pc' ad' H' locs' cells' slots' ls' w' v a1 a2 a4 a5 a6 a7 => fin pc' ad' H' locs' cells' slots' ls' w' v a1 (by
      have a3 := a2.2.1
      rw [List.length_append, List.length_singleton] at a3
      exact ⟨fun t ht => (a2.1 t (by rw [List.length_append]; omega)).trans (hre t ht), by omega, fun h => by omega⟩) a4 (by omega) (by omega) a7)
  rw [List.map_cons, ab_st_re hre hsc.2.1] at h
  have e : ab_v (va_up ad (w.length + 100) q) (.ref (w.length + 100)) = .ref q := by
    show Value.ref (va_up ad (w.length + 100) q (w.length + 100)) = .ref q
    rw [hq]
  rw [e] at h
  exact h
theorem ab_dv (f : Nat → Nat) (ty : FieldType) : ab_v f (defaultValue ty) = defaultValue ty := by cases ty <;> rfl
theorem G_new {idx ci N t : Nat} {C : String} {T : u_T} {ty : Nat → FieldType} {fs : List Value} (hc : ab_kc ci C T N ty) (hd : decode M.2.2.1 pc = .ok (.new idx, 3)) (hl : Cond.classLink M.1 idx C ∈ ab_U) (hi : Cond.instantiable C N ∈ ab_U) (hini : Cond.initialized C ∈ ab_U) (hfs : (List.range N).map (fun j => defaultValue (ty j)) = fs) (hsc : ab_scS (w.length + 100) L st w) (ht : w.length + 100 = t) (hw' : w ++ [.inr (ci, fs)] = w') (kk : G xo M d k n Q (pc + 3) L (.ref t :: st) w') : G xo M d (k + 1) (n + N) Q pc L st w := by
  intro p l e R s m args below meth c Z D tc ad A H locs cells slots ls X hR hL hcc hss fin
  subst hw'
  subst ht
  have hE : ∀ f : Nat → Nat, fs.map (ab_v f) = fs := by
    intro f
    rw [← hfs, List.map_map]
    exact List.map_congr_left fun j _ => ab_dv f _
  refine va_new X.1.1 X.1.2.1 X.2.2.1 hc.2.1 ty hc.2.2.1 X.1.2.2.2 (X.2.2.1 _ hl) (X.2.2.1 _ hi) (X.2.2.1 _ hini) X.2.2.2.1 hR.1 hR.2.1 hR.2.2 X.2.2.2.2.1 hc.1 (fs := fs) (fun j hj => by rw [← hfs]; simp [vp_V, hj]) (by omega) (by omega) hd (fun q H1 h1 h2 h3 => ?_)
  have e : ab_e tc ad (.inr (ci, fs)) = .inr (ci, fs) := by
    show (Sum.inr (ci, fs.map (ab_v ad)) : va_E) = _
    rw [hE]
  rw [← e] at h1 h2
  exact G_made hsc X hL hcc hss fin (fun f => by show (Sum.inr (ci, fs.map (ab_v f)) : va_E) = .inr (ci, fs.map (ab_v ad)); rw [hE, hE]) h1 h2 h3 kk
theorem G_newi {t N : Nat} {x : Int32} (hd : decode M.2.2.1 pc = .ok (.newarray .int, 2)) (hl : Cond.arrayClass .int ∈ ab_U) (hx : ¬ x < 0) (hN : x.toNatClampNeg = N) (hb : N * 8 ≤ 536870912) (hsc : ab_scS (w.length + 100) L st w) (ht : w.length + 100 = t) (hw' : w ++ [.inl (0, N, .inl (fun _ => 0))] = w') (kk : G xo M d k n Q (pc + 2) L (.ref t :: st) w') : G xo M d (k + 1) (n + N) Q pc L (.int x :: st) w := by
  intro p l e R s m args below meth c Z D tc ad A H locs cells slots ls X hR hL hcc hss fin
  subst hw'
  subst ht
  refine va_newa (atype := .int) (ty := .int) X.1.1 X.1.2.1 (X.2.2.1 _ hl) rfl X.2.2.2.1 hR.1 hR.2.1 hR.2.2 X.2.2.2.2.1 (a0 := (N, .inl (fun _ => 0))) (fun _ => rfl) hx hN (show N * 4 ≤ 536870912 by omega) (by omega) (by omega) hd (fun q cA H1 hK1 h1 h2 h3 => ?_)
  have e : cA = tc 0 := Option.some.inj ((va_nm_int (hK1.2 5 _ rfl).2).symm.trans (va_nm_int (hK1.2 0 _ rfl).2))
  subst e
  exact G_made (c0 := .inl (0, N, .inl (fun _ => 0))) hsc X hL hcc hss fin (fun _ => rfl) h1 h2 h3 kk
theorem G_newl {t N : Nat} {x : Int32} (hd : decode M.2.2.1 pc = .ok (.newarray .long, 2)) (hl : Cond.arrayClass .long ∈ ab_U) (hx : ¬ x < 0) (hN : x.toNatClampNeg = N) (hb : N * 8 ≤ 536870912) (hsc : ab_scS (w.length + 100) L st w) (ht : w.length + 100 = t) (hw' : w ++ [.inl (1, N, .inr (.inl (fun _ => 0)))] = w') (kk : G xo M d k n Q (pc + 2) L (.ref t :: st) w') : G xo M d (k + 1) (n + N) Q pc L (.int x :: st) w := by
  intro p l e R s m args below meth c Z D tc ad A H locs cells slots ls X hR hL hcc hss fin
  subst hw'
  subst ht
  refine va_newa (atype := .long) (ty := .long) X.1.1 X.1.2.1 (X.2.2.1 _ hl) rfl X.2.2.2.1 hR.1 hR.2.1 hR.2.2 X.2.2.2.2.1 (a0 := (N, .inr (.inl (fun _ => 0)))) (fun _ => rfl) hx hN (show N * 8 ≤ 536870912 by omega) (by omega) (by omega) hd (fun q cA H1 hK1 h1 h2 h3 => ?_)
  have e : cA = tc 1 := Option.some.inj ((va_nm_long (hK1.2 5 _ rfl).2).symm.trans (va_nm_long (hK1.2 1 _ rfl).2))
  subst e
  exact G_made (c0 := .inl (1, N, .inr (.inl (fun _ => 0)))) hsc X hL hcc hss fin (fun _ => rfl) h1 h2 h3 kk
theorem G_newb {t N : Nat} {x : Int32} (hd : decode M.2.2.1 pc = .ok (.newarray .byte, 2)) (hl : Cond.arrayClass .byte ∈ ab_U) (hx : ¬ x < 0) (hN : x.toNatClampNeg = N) (hb : N * 8 ≤ 536870912) (hsc : ab_scS (w.length + 100) L st w) (ht : w.length + 100 = t) (hw' : w ++ [.inl (2, N, .inl (fun _ => 0))] = w') (kk : G xo M d k n Q (pc + 2) L (.ref t :: st) w') : G xo M d (k + 1) (n + N) Q pc L (.int x :: st) w := by
  intro p l e R s m args below meth c Z D tc ad A H locs cells slots ls X hR hL hcc hss fin
  subst hw'
  subst ht
  refine va_newa (atype := .byte) (ty := .byte) X.1.1 X.1.2.1 (X.2.2.1 _ hl) rfl X.2.2.2.1 hR.1 hR.2.1 hR.2.2 X.2.2.2.2.1 (a0 := (N, .inl (fun _ => 0))) (fun _ => rfl) hx hN (show N * 1 ≤ 536870912 by omega) (by omega) (by omega) hd (fun q cA H1 hK1 h1 h2 h3 => ?_)
  have e : cA = tc 2 := Option.some.inj ((va_nm_byte (hK1.2 5 _ rfl).2).symm.trans (va_nm_byte (hK1.2 2 _ rfl).2))
  subst e
  exact G_made (c0 := .inl (2, N, .inl (fun _ => 0))) hsc X hL hcc hss fin (fun _ => rfl) h1 h2 h3 kk
theorem G_newz {t N : Nat} {x : Int32} (hd : decode M.2.2.1 pc = .ok (.newarray .boolean, 2)) (hl : Cond.arrayClass .boolean ∈ ab_U) (hx : ¬ x < 0) (hN : x.toNatClampNeg = N) (hb : N * 8 ≤ 536870912) (hsc : ab_scS (w.length + 100) L st w) (ht : w.length + 100 = t) (hw' : w ++ [.inl (3, N, .inl (fun _ => 0))] = w') (kk : G xo M d k n Q (pc + 2) L (.ref t :: st) w') : G xo M d (k + 1) (n + N) Q pc L (.int x :: st) w := by
  intro p l e R s m args below meth c Z D tc ad A H locs cells slots ls X hR hL hcc hss fin
  subst hw'
  subst ht
  refine va_newa (atype := .boolean) (ty := .boolean) X.1.1 X.1.2.1 (X.2.2.1 _ hl) rfl X.2.2.2.1 hR.1 hR.2.1 hR.2.2 X.2.2.2.2.1 (a0 := (N, .inl (fun _ => 0))) (fun _ => rfl) hx hN (show N * 1 ≤ 536870912 by omega) (by omega) (by omega) hd (fun q cA H1 hK1 h1 h2 h3 => ?_)
  have e : cA = tc 3 := Option.some.inj ((va_nm_boolean (hK1.2 5 _ rfl).2).symm.trans (va_nm_boolean (hK1.2 3 _ rfl).2))
  subst e
  exact G_made (c0 := .inl (3, N, .inl (fun _ => 0))) hsc X hL hcc hss fin (fun _ => rfl) h1 h2 h3 kk
theorem G_newq {idx t N : Nat} {x : Int32} (hd : decode M.2.2.1 pc = .ok (.anewarray idx, 3)) (hl : Cond.classLink M.1 idx RX0 ∈ ab_U) (hx : ¬ x < 0) (hN : x.toNatClampNeg = N) (hb : N * 4 ≤ 536870912) (hsc : ab_scS (w.length + 100) L st w) (ht : w.length + 100 = t) (hw' : w ++ [.inl (4, N, .inr (.inr (.inr (.inr (fun _ => none)))))] = w') (kk : G xo M d k n Q (pc + 3) L (.ref t :: st) w') : G xo M d (k + 1) (n + N) Q pc L (.int x :: st) w := by
  intro p l e R s m args below meth c Z D tc ad A H locs cells slots ls X hR hL hcc hss fin
  subst hw'
  subst ht
  refine va_newq X.1.1 X.1.2.1 X.1.2.2.2 (X.2.2.1 _ hl) X.2.2.2.2.2.2.2.2.2.1 X.2.2.2.1 hR.1 hR.2.1 hR.2.2 X.2.2.2.2.1 hx hN hb (by omega) (by omega) hd (fun q cA H1 hK1 h1 h2 h3 => ?_)
  obtain ⟨-, -, -, -, -, e1⟩ := (hK1.2 5 _ rfl).2
  obtain ⟨-, -, -, -, -, e2⟩ := (hK1.2 4 _ rfl).2
  have e : cA = tc 4 := Option.some.inj (e1.symm.trans e2)
  subst e
  exact G_made (c0 := .inl (4, N, .inr (.inr (.inr (.inr (fun _ => none)))))) hsc X hL hcc hss fin (fun _ => rfl) h1 h2 h3 kk
end AB
end
section
/-! Contracts (Con) and rules of G for calls. -/
/-- the locals at a method's entry -/
def ab_en : List Value → List (Option Value)
  | [] => []
  | v :: vs => match v with
    | .long x => some (.long x) :: none :: ab_en vs
    | .double x => some (.double x) :: none :: ab_en vs
    | v => some v :: ab_en vs
def ab_ent (vs : List Value) (n : Nat) : List (Option Value) := ab_en vs ++ List.replicate (n - (ab_en vs).length) none
theorem ab_en_len (ad : Nat → Nat) : ∀ vs : List Value, (lg_sl (vs.map (ab_v ad))).length = (ab_en vs).length
  | [] => rfl
  | v :: vs => by
    have ih := ab_en_len ad vs
    have h : lg_sl ((v :: vs).map (ab_v ad)) = (if (ab_v ad v).category = 2 then [.val (ab_v ad v), .second] else [.val (ab_v ad v)]) ++ lg_sl (vs.map (ab_v ad)) := rfl
    rw [h, List.length_append, ih]
    cases v <;> simp [ab_en, ab_v, Value.category] <;> omega
theorem ab_en_at (ad : Nat → Nat) : ∀ (vs : List Value) (i j : Nat) (v : Value), (ab_en vs)[j]? = some (some v) → (i + j, ab_v ad v) ∈ lv_args i (vs.map (ab_v ad))
  | [], i, j, v, h => by simp [ab_en] at h
  | u :: vs, i, j, v, h => by
    rw [List.map_cons, lv_args]
    have one : ∀ (hu : ¬ u.category = 2) (h : (some u :: ab_en vs)[j]? = some (some v)), (i + j, ab_v ad v) ∈ (i, ab_v ad u) :: lv_args (if (ab_v ad u).category = 2 then i + 2 else i + 1) (vs.map (ab_v ad)) := by
      intro hu h
      rw [ab_cat, if_neg hu]
      cases j with
      | zero =>
        rw [List.getElem?_cons_zero] at h
        cases h
        exact List.mem_cons_self
      | succ j =>
        rw [List.getElem?_cons_succ] at h
        have := ab_en_at ad vs (i + 1) j v h
        rw [show i + 1 + j = i + (j + 1) by omega] at this
        exact List.mem_cons_of_mem _ this
    have two : ∀ (hu : u.category = 2) (h : (some u :: none :: ab_en vs)[j]? = some (some v)), (i + j, ab_v ad v) ∈ (i, ab_v ad u) :: lv_args (if (ab_v ad u).category = 2 then i + 2 else i + 1) (vs.map (ab_v ad)) := by
      intro hu h
      rw [ab_cat, if_pos hu]
      match j, h with
      | 0, h =>
        rw [List.getElem?_cons_zero] at h
        cases h
        exact List.mem_cons_self
      | 1, h => simp at h
      | j + 2, h =>
        rw [List.getElem?_cons_succ, List.getElem?_cons_succ] at h
        have := ab_en_at ad vs (i + 2) j v h
        rw [show i + 2 + j = i + (j + 2) by omega] at this
        exact List.mem_cons_of_mem _ this
    cases u with
    | long x => exact two rfl h
    | double x => exact two rfl h
    | int x => exact one (fun q => by cases q) h
    | float x => exact one (fun q => by cases q) h
    | null => exact one (fun q => by cases q) h
    | ref x => exact one (fun q => by cases q) h
    | retAddr x => exact one (fun q => by cases q) h
/-- what a method leaves -/
def ab_Q (D : va_G) (tc : Nat → ClassId) (ad : Nat → Nat) (w : List ab_C) (sz : Nat) (Q : List ab_C → Option Value → Prop) : Array Value → State → Outcome → State → Prop := fun _ st oc t =>
  (∃ (w' : List ab_C) (ad' : Nat → Nat) (v : Option Value), oc = .returned (v.map (ab_v ad')) ∧ Q w' v ∧ ab_ext w ad w' ad' ∧ va_P D vwCl (ab_w tc ad' 100 w') t.heap ∧ va_D (va_A (ab_w tc ad 100 w) sz) (ab_w tc ad' 100 w')) ∧ va_F (va_A (ab_w tc ad 100 w) sz) st t
def ab_pre (D : va_G) (tc : Nat → ClassId) (ad : Nat → Nat) (w : List ab_C) (sz : Nat) (U : State) : Prop :=
  U.heap.size = sz ∧ va_P D vwCl (ab_w tc ad 100 w) U.heap ∧ va_K D vwCl (ab_tys tc) U ∧ va_D (fun _ => True) (ab_w tc ad 100 w) ∧ ab_O ab_x0 ad (va_A (ab_w tc ad 100 w) sz) U U.heap
abbrev ab_rm (d mc ms : Nat) : Room := { frames := d, cells := mc, slots := ms, locals := 64 * d }
abbrev ab_ws (M : ab_M) : List Cond := Cond.code M.2.1 M.2.2.1 M.2.2.2.1 M.2.2.2.2 :: ab_U
/-- A CONTRACT: from the world w and the arguments, with calls at most d deep, at most mc cells of ms slots are made, and Q holds of the world and the answer -/
def Con (M : ab_M) (d mc ms : Nat) (w : List ab_C) (as : List Value) (Q : List ab_C → Option Value → Prop) : Prop :=
  ∀ (l : Launch) (D : va_G) (tc : Nat → ClassId) (ad : Nat → Nat) (sz : Nat),
    Met l M.2.1 (ab_ws M) (ab_rm d mc ms) (va_Pc (as.map (ab_v ad)) (ab_pre D tc ad w sz)) (ab_Q D tc ad w sz Q) mc ms (va_A (ab_w tc ad 100 w) sz)
/-- a method of ours -/
def ab_ok (M : ab_M) : Prop := plainName M.2.1.cls = true ∧ M.1 = M.2.1.cls
set_option maxHeartbeats 4000000 in
theorem Con.of {M : ab_M} {d mc ms : Nat} {w : List ab_C} {as : List Value} {Q : List ab_C → Option Value → Prop} (hM : ab_ok M) (hlen : (ab_en as).length ≤ M.2.2.2.1) (h : G ab_x0 M d mc ms Q 0 (ab_ent as M.2.2.2.1) [] w) : Con M d mc ms w as Q := by
  intro l D tc ad sz
  refine Met.ofW (cc := M.2.2.1) (maxL := M.2.2.2.1) (ret := M.2.2.2.2) hM.1 rfl ?_
  intro p e s m args below meth c s₁ B hml hv
  obtain ⟨rfl, rfl, hP, hK, hD0, hO⟩ := hv
  have hts := atoms_spec (ws := ab_ws M) B.pre
  have hown : s.vm.findClass M.1 = some m.cls := by rw [hM.2]; exact findClass_of_methodNamed B.named
  have hD := hD0.self (sz := s.heap.size)
  have hl := lv_entry (as.map (ab_v ad)) (n := M.2.2.2.1) (by rw [ab_en_len]; exact hlen)
  rw [lg_entry_eq]
  generalize (lg_sl (as.map (ab_v ad)) ++ List.replicate (M.2.2.2.1 - (lg_sl (as.map (ab_v ad))).length) Slot.unset).toArray = ls at hl ⊢
  have hL : ab_L ad ls (ab_ent as M.2.2.2.1) := by
    refine ⟨hl.1.trans ?_, hl.2.1, fun i v hi => ?_⟩
    · rw [ab_ent, List.length_append, List.length_replicate]
      omega
    · by_cases hi2 : i < (ab_en as).length
      · rw [ab_ent, List.getElem?_append_left hi2] at hi
        have := ab_en_at ad as 0 i v hi
        rw [Nat.zero_add] at this
        exact hl.2.2 _ this
      · rw [ab_ent, List.getElem?_append_right (by omega), List.getElem?_replicate] at hi
        split at hi <;> simp at hi
  have hA : ∀ q : Nat, s.heap.size ≤ q → va_A (ab_w tc ad 100 w) s.heap.size q := fun q h => Or.inr h
  refine h p l e (ab_rm d mc ms) s m (as.map (ab_v ad)).toArray below meth c (MQ below (ab_Q D tc ad w s.heap.size Q) (as.map (ab_v ad)).toArray s mc ms (va_A (ab_w tc ad 100 w) s.heap.size)) D tc ad (va_A (ab_w tc ad 100 w) s.heap.size) s.heap [] 0 0 ls
    ⟨⟨B.exec, B.bytes, hml, hown⟩, ⟨B.returns, B.notSynchronized, (name_of_methodNamed B.named B.method).1⟩, fun w hw => hts w (List.mem_cons_of_mem _ hw), hK, hA, ⟨Nat.le_refl _, Nat.le_refl _⟩, hO⟩ ⟨hP, hD, va_S.rf⟩ hL (by show 0 + mc ≤ mc; omega) (by show 0 + ms ≤ ms; omega) ?_
  intro pc' ad' H' locs' cells' slots' ls' w' v hr hx hR hc hs hq
  refine W.widen (k := mc) (n := ms) (by omega) (by omega) ?_
  have hlocks := B.notSynchronized
  have key : ∀ (t : State), t.heap = H' → ab_Q D tc ad w s.heap.size Q (as.map (ab_v ad)).toArray s (.returned (v.map (ab_v ad'))) t := fun t ht =>
    ⟨⟨w', ad', v, rfl, hq, hx, by rw [ht]; exact hR.1, hR.2.1⟩, hR.2.2.F ht⟩
  match v, hr, key with
  | none, hr, key => exact W.vret B.exec B.bytes (B.returns.trans hr.2) (fun t ht _ => key t ht) hR.2.2.2.2 hr.1
  | some (.int x), hr, key =>
    obtain ⟨hr, ty, h1, h2⟩ := hr
    exact W.zret B.exec B.bytes (B.returns.trans h1) h2 (fun t ht _ => key t ht) hR.2.2.2.2 hr
  | some (.long x), hr, key => exact W.lret B.exec B.bytes (B.returns.trans hr.2) (fun t ht _ => key t ht) hR.2.2.2.2 hr.1
  | some (.ref x), hr, key =>
    obtain ⟨hr, nm, h1⟩ := hr
    exact W.aret B.exec B.bytes (B.returns.trans h1) (Or.inl ⟨nm, rfl⟩) (Or.inr ⟨_, rfl⟩) (fun t ht _ => key t ht) hR.2.2.2.2 hr
  | some .null, hr, key =>
    obtain ⟨hr, nm, h1⟩ := hr
    exact W.aret B.exec B.bytes (B.returns.trans h1) (Or.inl ⟨nm, rfl⟩) (Or.inl rfl) (fun t ht _ => key t ht) hR.2.2.2.2 hr
  | some (.float x), hr, key => exact hr.elim
  | some (.double x), hr, key => exact hr.elim
  | some (.retAddr x), hr, key => exact hr.elim
/-! calls -/
/-- a cell with its tokens renamed -/
def ab_rc (r : Nat → Nat) (c : ab_C) : ab_C := match c with
  | .inl (t, a) => .inl (t, ab_a r a)
  | .inr (ci, fs) => .inr (ci, fs.map (ab_v r))
theorem ab_v_v (ad r : Nat → Nat) (v : Value) : ab_v ad (ab_v r v) = ab_v (fun t => ad (r t)) v := by cases v <;> rfl
theorem ab_e_rc (tc : Nat → ClassId) (ad r : Nat → Nat) (c : ab_C) : ab_e tc ad (ab_rc r c) = ab_e tc (fun t => ad (r t)) c := by
  match c with
  | .inl (t, n, .inl f) => rfl
  | .inl (t, n, .inr (.inl f)) => rfl
  | .inl (t, n, .inr (.inr (.inl f))) => rfl
  | .inl (t, n, .inr (.inr (.inr (.inl f)))) => rfl
  | .inl (t, n, .inr (.inr (.inr (.inr f)))) =>
    show (Sum.inl (tc t, n, .inr (.inr (.inr (.inr (fun j => ((f j).map r).map ad))))) : va_E) = .inl (tc t, n, .inr (.inr (.inr (.inr (fun j => (f j).map (fun t => ad (r t)))))))
    have e : (fun j => ((f j).map r).map ad) = (fun j => (f j).map (fun t => ad (r t))) := by
      funext j
      cases f j <;> rfl
    rw [e]
  | .inr (ci, fs) =>
    show (Sum.inr (ci, (fs.map (ab_v r)).map (ab_v ad)) : va_E) = .inr (ci, fs.map (ab_v (fun t => ad (r t))))
    rw [List.map_map]
    have e : (ab_v ad ∘ ab_v r) = ab_v (fun t => ad (r t)) := by
      funext v
      exact ab_v_v ad r v
    rw [e]
/-- the callee's tokens: is: where its world's cells stand in the caller's; fo: its foreign tokens 4, 5 ..; n: how many cells the caller's world has -/
def ab_rho (is fo : List Nat) (n t : Nat) : Nat := if t < 4 then t else if t < 100 then fo.getD (t - 4) 0 else match is[t - 100]? with
  | some j => j + 100
  | none => t - is.length + n
theorem ab_rho_lo {is fo : List Nat} {n t : Nat} (h : t < 4) : ab_rho is fo n t = t := by simp [ab_rho, h]
theorem ab_rho_at {is fo : List Nat} {n j i : Nat} (h : is[j]? = some i) : ab_rho is fo n (j + 100) = i + 100 := by
  have h1 : ¬ j + 100 < 4 := by omega
  have h2 : ¬ j + 100 < 100 := by omega
  have h3 : j + 100 - 100 = j := by omega
  simp [ab_rho, h1, h2, h3, h]
def ab_put : List ab_C → List Nat → List ab_C → List ab_C
  | w, i :: is, c :: cs => ab_put (w.set i c) is cs
  | w, _, _ => w
theorem ab_put_len : ∀ (is : List Nat) (w cs : List ab_C), (ab_put w is cs).length = w.length
  | [], w, cs => by simp [ab_put]
  | i :: is, w, [] => by simp [ab_put]
  | i :: is, w, c :: cs => by rw [ab_put, ab_put_len is, List.length_set]
theorem ab_put_out : ∀ (is : List Nat) (w cs : List ab_C) (k : Nat), k ∉ is → (ab_put w is cs)[k]? = w[k]?
  | [], w, cs, k, _ => by simp [ab_put]
  | i :: is, w, [], k, _ => by simp [ab_put]
  | i :: is, w, c :: cs, k, h => by
    rw [ab_put, ab_put_out is _ cs k (fun q => h (List.mem_cons_of_mem _ q)), List.getElem?_set_ne (fun q => h (by rw [q]; exact List.mem_cons_self))]
theorem ab_put_in : ∀ (is : List Nat) (w cs : List ab_C), va_nd is = true → ∀ (j i : Nat) (c : ab_C), is[j]? = some i → cs[j]? = some c → i < w.length → (ab_put w is cs)[i]? = some c
  | [], w, cs, _, j, i, c, h, _, _ => by simp at h
  | i0 :: is, w, [], _, j, i, c, _, h, _ => by simp at h
  | i0 :: is, w, c0 :: cs, hn, j, i, c, h1, h2, hl => by
    simp only [va_nd, Bool.and_eq_true, decide_eq_true_eq] at hn
    rw [ab_put]
    cases j with
    | zero =>
      rw [List.getElem?_cons_zero] at h1 h2
      have h1 := Option.some.inj h1
      have h2 := Option.some.inj h2
      subst h1
      subst h2
      rw [ab_put_out is _ cs _ hn.1, List.getElem?_set_self hl]
    | succ j =>
      rw [List.getElem?_cons_succ] at h1 h2
      exact ab_put_in is _ cs hn.2 j i c h1 h2 (by rw [List.length_set]; exact hl)
theorem ab_fm {α β : Type} {f : α → Option β} : ∀ {is : List α} {l : List β}, is.map f = l.map some → is.filterMap f = l
  | [], [], _ => rfl
  | [], b :: l, h => by simp at h
  | a :: is, [], h => by simp at h
  | a :: is, b :: l, h => by
    rw [List.map_cons, List.map_cons] at h
    injection h with h1 h2
    rw [List.filterMap_cons, h1, ab_fm h2]
/-- the callee's world in the caller's -/
def ab_fits (is fo : List Nat) (wc w : List ab_C) : Prop := (wc.map (ab_rc (ab_rho is fo w.length))).map some = is.map (fun i => w[i]?)
theorem ab_fits.len {is fo : List Nat} {wc w : List ab_C} (h : ab_fits is fo wc w) : wc.length = is.length := by
  have := congrArg List.length h
  simpa using this
theorem ab_fits.at {is fo : List Nat} {wc w : List ab_C} (h : ab_fits is fo wc w) {j : Nat} {c : ab_C} (hc : wc[j]? = some c) : ∃ i, is[j]? = some i ∧ w[i]? = some (ab_rc (ab_rho is fo w.length) c) := by
  have h1 := congrArg (fun l => l[j]?) h
  simp only [List.getElem?_map, hc, Option.map_some] at h1
  cases hi : is[j]? with
  | none => rw [hi] at h1; cases h1
  | some i =>
    rw [hi] at h1
    exact ⟨i, rfl, (Option.some.inj h1).symm⟩
theorem ab_fits.ws {is fo : List Nat} {wc w : List ab_C} (h : ab_fits is fo wc w) (tc : Nat → ClassId) (ad : Nat → Nat) : is.map (fun i => (ab_w tc ad 100 w)[i]?) = (ab_w tc (fun t => ad (ab_rho is fo w.length t)) 100 wc).map some := by
  apply List.ext_getElem?
  intro j
  rw [List.getElem?_map, List.getElem?_map, ab_w_at]
  cases hc : wc[j]? with
  | none =>
    have h1 : is[j]? = none := by
      rw [List.getElem?_eq_none_iff] at hc ⊢
      rw [← h.len]
      exact hc
    rw [h1]
    rfl
  | some c =>
    obtain ⟨i, h1, h2⟩ := h.at hc
    rw [h1]
    show some ((ab_w tc ad 100 w)[i]?) = some (some (ad (ab_rho is fo w.length (j + 100)), ab_e tc _ c))
    rw [ab_w_at, h2, ab_rho_at h1]
    show some (some (ad (i + 100), ab_e tc ad (ab_rc _ c))) = _
    rw [ab_e_rc]
theorem ab_O.less {xo : ab_XO} {ad ad' : Nat → Nat} {A : Nat → Prop} {U : State} {H : Heap} (h : ab_O xo ad A U H) (hx : ∀ (i : Nat) (q : Nat × (Nat → Int32)), ab_x0[i]? = some q → xo[i]? = some q) (hq : ∀ t, t < 4 → ad' t = ad t) : ab_O ab_x0 ad' A U H := by
  refine ⟨fun i q hi => ?_, fun i q hi => ?_, h.2.2.1, h.2.2.2.1, by decide⟩
  · have hl : i < 4 := Nat.lt_of_lt_of_le (List.getElem?_eq_some_iff.mp hi).1 (by decide)
    rw [hq i hl]
    exact h.1 i q (hx i q hi)
  · have hl : i < 4 := Nat.lt_of_lt_of_le (List.getElem?_eq_some_iff.mp hi).1 (by decide)
    rw [hq i hl]
    exact h.2.1 i q hi
theorem ab_O.calls {xo : ab_XO} {ad : Nat → Nat} {A : Nat → Prop} {U : State} {H : Heap} (g : JFrame) (mk : MethodId) (a : Array Value) (h : ab_O xo ad A U H) : ab_O xo ad A (U.calling g mk a) H := by
  refine ⟨fun i q hq => (h.1 i q hq).moved (U := U.calling g mk a) (Vm.Alike.refl U.vm), fun i q hq => (h.2.1 i q hq).moved (U := U.calling g mk a) (Vm.Alike.refl U.vm), fun w hw => ?_, h.2.2.2.1.moved (U := U.calling g mk a) (Vm.Alike.refl U.vm), h.2.2.2.2⟩
  have h1 := h.2.2.1 w hw
  have h2 := (List.mem_filter.mp hw).2
  cases w <;> first | exact va_Nw.same rfl rfl h1 | (simp [ab_isN] at h2)
theorem ab_blind {av : List Value} {D : va_G} {tc : Nat → ClassId} {ad : Nat → Nat} {w : List ab_C} {sz : Nat} : FrameBlind (va_Pc av (ab_pre D tc ad w sz)) := by
  intro a U g mk h
  obtain ⟨h1, h2, h3, h4, h5, h6⟩ := h
  exact ⟨h1, h2, h3, va_K.moved (u := U) (U := U.calling g mk a) (Vm.Alike.refl U.vm) h4, h5, h6.calls g mk a⟩
section ABC
variable {xo : ab_XO} {M N : ab_M} {d k n mc ms : Nat} {Q Qc : List ab_C → Option Value → Prop} {pc : Nat} {L : List (Option Value)} {st : List Value} {w wc : List ab_C} {is fo : List Nat}
variable {p : Program} {l : Launch} {e : Env} {R : Room} {s : State} {m : MethodId} {args : Array Value} {below : List Frame} {meth : Method} {c : Code} {Z : State → Prop} {D : va_G} {tc : Nat → ClassId} {ad : Nat → Nat} {A : Nat → Prop} {H : Heap} {locs : List Loc} {cells slots : Nat} {ls : Array Slot}
theorem ab_pre.of (X : ab_X xo M d p R s m args meth c D tc ad A) (hR : ab_R D tc ad A s H locs w) (hx : ∀ (i : Nat) (q : Nat × (Nat → Int32)), ab_x0[i]? = some q → xo[i]? = some q) (hf : ab_fits is fo wc w) (hn : va_nd is = true) (U : State) (hU : U.heap = H) (hW : s.WarmedH U.vm) : ab_pre D tc (fun t => ad (ab_rho is fo w.length t)) wc H.size U := by
  have hC := hf.ws tc ad
  refine ⟨by rw [hU], by rw [hU]; exact hR.1.sub is (ab_fm hC), va_K.moved hW.alike X.2.2.2.1, (hR.2.1.sub is hn hC).weaken (fun _ _ _ _ => trivial), ?_⟩
  rw [hU]
  refine ab_O.narrow (A := A) (ab_O.less (ab_O.kept (ab_O.moved hW X.2.2.2.2.2.2) (fun a h1 h2 => hR.2.2.2.1 a h1 h2)) hx (fun t ht => ?_)) (va_free hR.2.1 hR.2.2 X.2.2.2.2.1 is hC)
  show ad (ab_rho is fo w.length t) = ad t
  rw [ab_rho_lo ht]
theorem ab_D_iff {w : List ab_C} : va_D A (ab_w tc ad 100 w) ↔ (∀ i j, i < w.length → j < w.length → ad (i + 100) = ad (j + 100) → i = j) ∧ ∀ i, i < w.length → A (ad (i + 100)) := by
  have at' : ∀ i, i < w.length → ∃ ce, (ab_w tc ad 100 w)[i]? = some (ad (i + 100), ce) := fun i hi => by
    rw [ab_w_at, List.getElem?_eq_getElem hi]
    exact ⟨_, rfl⟩
  have of' : ∀ (i : Nat) (q : Nat × va_E), (ab_w tc ad 100 w)[i]? = some q → i < w.length ∧ q.1 = ad (i + 100) := fun i q h => by
    rw [ab_w_at] at h
    cases hw : w[i]? with
    | none => rw [hw] at h; cases h
    | some ce =>
      rw [hw] at h
      cases h
      exact ⟨(List.getElem?_eq_some_iff.mp hw).1, rfl⟩
  constructor
  · intro h
    refine ⟨fun i j hi hj hij => ?_, fun i hi => ?_⟩
    · obtain ⟨a, ha⟩ := at' i hi
      obtain ⟨b, hb⟩ := at' j hj
      exact h.1 i j _ _ ha hb hij
    · obtain ⟨a, ha⟩ := at' i hi
      exact h.2 i _ ha
  · intro h
    refine ⟨fun i j x y hi hj hxy => ?_, fun i x hi => ?_⟩
    · obtain ⟨a1, a2⟩ := of' i x hi
      obtain ⟨b1, b2⟩ := of' j y hj
      exact h.1 i j a1 b1 (by rw [← a2, ← b2, hxy])
    · obtain ⟨a1, a2⟩ := of' i x hi
      rw [a2]
      exact h.2 i a1
/-- the world behind a call that makes nothing -/
theorem ab_R.back {w' : List ab_C} {H1 : Heap} {locs1 : List Loc} (hR : ab_R D tc ad A s H locs w) (hf : ab_fits is fo wc w) (hn : va_nd is = true) (hl : w'.length = wc.length) (hS : va_S A s.heap H1 locs1)
    (hk : ∀ q : Nat, q < H.size → ¬ va_A (ab_w tc (fun t => ad (ab_rho is fo w.length t)) 100 wc) H.size q → H1[q]? = H[q]?) (hP1 : va_P D vwCl (ab_w tc (fun t => ad (ab_rho is fo w.length t)) 100 w') H1) : ab_R D tc ad A s H1 locs1 (ab_put w is (w'.map (ab_rc (ab_rho is fo w.length)))) := by
  refine ⟨fun x q hx => ?_, ab_D_iff.mpr (by rw [ab_put_len]; exact ab_D_iff.mp hR.2.1), hS⟩
  rw [ab_w_at] at hx
  by_cases hin : x ∈ is
  · obtain ⟨j, hj⟩ := List.getElem?_of_mem hin
    have hjl : j < w'.length := by
      rw [hl, hf.len]
      exact (List.getElem?_eq_some_iff.mp hj).1
    have hw' : w'[j]? = some w'[j] := List.getElem?_eq_getElem hjl
    obtain ⟨i, h1, h2⟩ := hf.at (List.getElem?_eq_getElem (by rw [← hl]; exact hjl))
    have hi : i = x := Option.some.inj (h1.symm.trans hj)
    subst hi
    rw [ab_put_in is w _ hn j i _ hj (by rw [List.getElem?_map, hw']; rfl) (List.getElem?_eq_some_iff.mp h2).1] at hx
    cases hx
    have h3 := hP1 j _ (by rw [ab_w_at, hw']; rfl)
    rw [ab_rho_at hj] at h3
    have h3 : va_at D vwCl (ad (i + 100), ab_e tc (fun t => ad (ab_rho is fo w.length t)) w'[j]) H1 := h3
    rw [← ab_e_rc] at h3
    exact h3
  · rw [ab_put_out is w _ x hin] at hx
    cases hw : w[x]? with
    | none => rw [hw] at hx; cases hx
    | some cx =>
      rw [hw] at hx
      cases hx
      have h3 := hR.1 x _ (by rw [ab_w_at, hw]; rfl)
      refine h3.kept (hk _ h3.lt (fun hA => ?_))
      rcases hA with ⟨j, ce, hj⟩ | hA
      · rw [ab_w_at] at hj
        cases hc : wc[j]? with
        | none => rw [hc] at hj; cases hj
        | some cj =>
          rw [hc] at hj
          obtain ⟨i, h4, h5⟩ := hf.at hc
          have hj := congrArg Prod.fst (Option.some.inj hj)
          have hj : ad (ab_rho is fo w.length (j + 100)) = ad (x + 100) := hj
          rw [ab_rho_at h4] at hj
          have := (ab_D_iff.mp hR.2.1).1 i x (List.getElem?_eq_some_iff.mp h5).1 (List.getElem?_eq_some_iff.mp hw).1 hj
          subst this
          exact hin (List.mem_of_getElem? h4)
      · have := h3.lt
        omega
theorem ab_vl (r : Nat → Nat) (v : Option Value) : (v.map (ab_v (fun t => ad (r t)))).toList = (v.map (ab_v r)).toList.map (ab_v ad) := by
  cases v with
  | none => rfl
  | some v => show [ab_v (fun t => ad (r t)) v] = [ab_v ad (ab_v r v)]; rw [ab_v_v]
/-- G's rule behind a call that makes nothing -/
theorem ab_run {a : Array Value} {stk : List Value} (X : ab_X xo M d p R s m args meth c D tc ad A) (hR : ab_R D tc ad A s H locs w) (hL : ab_L ad ls L) (hf : ab_fits is fo wc w) (hn : va_nd is = true) (hl : ∀ w' v, Qc w' v → w'.length = wc.length)
    (hr : va_Run p l e R s m args below meth c H locs cells slots mc ms (F0 m pc ls stk) (st.map (ab_v ad)) (ab_Q D tc (fun t => ad (ab_rho is fo w.length t)) wc H.size Qc a) (va_A (ab_w tc (fun t => ad (ab_rho is fo w.length t)) 100 wc) H.size))
    (hcc : cells + (k + mc) ≤ R.cells) (hss : slots + (n + ms) ≤ R.slots)
    (fin : ∀ (pc' : Nat) (ad' : Nat → Nat) (H' : Heap) (locs' : List Loc) (cells' slots' : Nat) (ls' : Array Slot) (w' : List ab_C) (v : Option Value),
      ab_ret M pc' v → ab_ext w ad w' ad' → ab_R D tc ad' A s H' locs' w' → cells' ≤ cells + (k + mc) → slots' ≤ slots + (n + ms) → Q w' v →
      W p l e R s m args below meth c H' locs' cells' slots' Z (F0 m pc' ls' (v.toList.map (ab_v ad'))))
    (kk : ∀ w' v, Qc w' v → G xo M d k n Q (pc + 3) L ((v.map (ab_v (ab_rho is fo w.length))).toList ++ st) (ab_put w is (w'.map (ab_rc (ab_rho is fo w.length))))) :
    W p l e R s m args below meth c H locs cells slots Z (F0 m pc ls stk) := by
  intro T hT Y
  obtain ⟨v0, st₀, t, T', LL, h0, Y', hLL, e1, e2, ⟨⟨w', adc, v, hv, hq, hx, hP1, hD1⟩, hz, hk⟩, go⟩ := hr T hT Y
  have hv := Outcome.returned.inj hv
  subst hv
  have hx := hx.2.2 (hl w' v hq)
  subst hx
  rw [h0] at hz hk
  have hA := va_free hR.2.1 hR.2.2 X.2.2.2.2.1 is (hf.ws tc ad)
  have hS : va_S A s.heap T'.heap (locs ++ LL) := ⟨Nat.le_trans hR.2.2.1 (by rw [e1]; exact hz), fun q h1 h2 => by rw [e1, hk q (Nat.lt_of_lt_of_le h1 hR.2.2.1) (fun z => h2 (hA q z))]; exact hR.2.2.2.1 q h1 h2, fun q hq => by
    rcases List.mem_append.mp hq with h | h
    · exact hR.2.2.2.2 q h
    · exact hA _ (hLL q h)⟩
  have hR1 := hR.back hf hn (hl w' v hq) hS (fun q h1 h2 => by rw [e1]; exact hk q h1 h2) (by rw [e1]; exact hP1)
  have g := kk w' v hq p l e R s m args below meth c Z D tc ad A T'.heap (locs ++ LL) (cells + mc) (slots + ms) ls X hR1 hL (by omega) (by omega)
    (fun pc' ad' H' locs' cells' slots' ls' w2 v2 a1 a2 a4 a5 a6 a7 => fin pc' ad' H' locs' cells' slots' ls' w2 v2 a1 (by simp only [ab_ext, ab_put_len] at a2 ⊢; exact a2) a4 (by omega) (by omega) a7)
  obtain ⟨t2, a1, b1⟩ := g T' rfl Y'
  refine ⟨t2, go t2 ?_, b1⟩
  rw [List.map_append, ← ab_vl] at a1
  exact a1
end ABC
end
section
/-! The rules of G for the kinds of calls. -/
/-- what every call needs of its callee -/
def ab_cl0 (N : ab_M) : Prop := Cond.code N.2.1 N.2.2.1 N.2.2.2.1 N.2.2.2.2 ∈ ab_U ∧ Cond.initialized N.2.1.cls ∈ ab_U ∧ N.2.2.2.1 ≤ 45 ∧ N.2.1.cls ≠ "java/lang/invoke/MethodHandle" ∧ N.2.1.cls ≠ "java/lang/invoke/VarHandle"
theorem ab_good {l : List Cond} (h : ∀ w ∈ l, w ∈ ab_U) : GoodIn ab_U l := fun w hw => ab_goodU w (h w hw)
theorem ab_wsU {N : ab_M} (h : ab_cl0 N) : ∀ w ∈ ab_ws N, w ∈ ab_U := fun w hw => by
  rcases List.mem_cons.mp hw with h1 | h1
  · rw [h1]; exact h.1
  · exact h1
theorem ab_sum (ad : Nat → Nat) (st : List Value) : ((st.map (ab_v ad)).map fun v => v.category).sum = (st.map fun v => v.category).sum := by
  rw [List.map_map]
  congr 1
  exact List.map_congr_left fun v _ => ab_cat ad v
section ABR
variable {xo : ab_XO} {M N : ab_M} {d k n mc ms : Nat} {Q Qc : List ab_C → Option Value → Prop} {pc : Nat} {L : List (Option Value)} {st stk : List Value} {w wc : List ab_C} {idx : Nat}
/-- a static method, ours or a nest mate's -/
def ab_S (M N : ab_M) (idx na : Nat) : Prop := ab_cl0 N ∧ Cond.methodLink M.1 idx N.2.1 ∈ ab_U ∧ Cond.static N.2.1 ∈ ab_U ∧ (parseMethodDescriptor N.2.1.desc).map (fun d => d.parameters.length) = some na
def ab_SN (M N : ab_M) (idx na : Nat) : Prop := ab_cl0 N ∧ Cond.methodLinkNest M.1 idx N.2.1 RX7 ∈ ab_N ∧ Cond.static N.2.1 ∈ ab_U ∧ (parseMethodDescriptor N.2.1.desc).map (fun d => d.parameters.length) = some na
def ab_V (M N : ab_M) (idx na : Nat) : Prop := ab_cl0 N ∧ (Cond.methodLink M.1 idx N.2.1 ∈ ab_U ∧ Cond.instanceMethod N.2.1 ∈ ab_U ∧ Cond.selects N.2.1.cls N.2.1 N.2.1 ∈ ab_U) ∧ (parseMethodDescriptor N.2.1.desc).map (fun d => d.parameters.length) = some na
def ab_I (M N : ab_M) (idx na : Nat) : Prop := ab_cl0 N ∧ (Cond.methodLink M.1 idx N.2.1 ∈ ab_U ∧ Cond.instanceMethod N.2.1 ∈ ab_U ∧ N.2.1.name = "<init>" ∧ N.2.2.2.2 = none) ∧ (parseMethodDescriptor N.2.1.desc).map (fun d => d.parameters.length) = some na
def ab_IN (M N : ab_M) (idx na : Nat) : Prop := ab_cl0 N ∧ (Cond.methodLinkNest M.1 idx N.2.1 RX7 ∈ ab_N ∧ Cond.instanceMethod N.2.1 ∈ ab_U ∧ N.2.1.name = "<init>" ∧ N.2.2.2.2 = none) ∧ (parseMethodDescriptor N.2.1.desc).map (fun d => d.parameters.length) = some na
variable {p : Program} {l : Launch} {e : Env} {R : Room} {s : State} {m : MethodId} {args : Array Value} {below : List Frame} {meth : Method} {c : Code} {Z : State → Prop} {D : va_G} {tc : Nat → ClassId} {ad : Nat → Nat} {A : Nat → Prop} {H : Heap} {locs : List Loc} {cells slots : Nat} {ls : Array Slot} {na : Nat}
theorem ab_vv (is fo : List Nat) (q : Nat) (as : List Value) : as.map (ab_v (fun t => ad (ab_rho is fo q t))) = (as.map (ab_v (ab_rho is fo q))).map (ab_v ad) := by
  rw [List.map_map]
  exact List.map_congr_left fun v _ => (ab_v_v ad _ v).symm
theorem ab_runS {is fo : List Nat} {as as' : List Value} (hl : ab_S M N idx na) (hC : Con N d mc ms wc as Qc) (hx : ∀ (i : Nat) (q : Nat × (Nat → Int32)), ab_x0[i]? = some q → xo[i]? = some q) (hf : ab_fits is fo wc w) (hn : va_nd is = true) (has : as.map (ab_v (ab_rho is fo w.length)) = as') (hstk : as'.reverse ++ st = stk) (hna : as.length = na) (hLl : L.length = M.2.2.2.1) (hsum : (st.map fun v => v.category).sum ≤ 8) (hd : decode M.2.2.1 pc = .ok (.invokestatic idx, 3))
    (X : ab_X xo M (d + 1) p R s m args meth c D tc ad A) (hR : ab_R D tc ad A s H locs w) (hL : ab_L ad ls L) (hcc : cells + mc ≤ R.cells) (hss : slots + ms ≤ R.slots) :
    va_Run p l e R s m args below meth c H locs cells slots mc ms (F0 m pc ls (stk.map (ab_v ad))) (st.map (ab_v ad)) (ab_Q D tc (fun t => ad (ab_rho is fo w.length t)) wc H.size Qc (as'.map (ab_v ad)).toArray) (va_A (ab_w tc (fun t => ad (ab_rho is fo w.length t)) 100 wc) H.size) := by
  have hroom : (ab_rm d mc ms).frames + 1 ≤ R.frames ∧ 8 + (N.2.2.2.1 + 11) + (ab_rm d mc ms).locals ≤ R.locals := by
    have h1 := X.2.2.2.2.2.1
    have h2 := hl.1.2.2.1
    exact ⟨h1.1, by show 8 + (N.2.2.2.1 + 11) + 64 * d ≤ R.locals; omega⟩
  have hG : GoodIn ab_U (va_wsS M.1 idx N.2.1 (ab_ws N)) := ab_good fun w hw => by
    rcases List.mem_append.mp hw with h | h
    · simp only [List.mem_cons, List.not_mem_nil, or_false] at h
      rcases h with h | h | h <;> rw [h]
      · exact hl.2.1
      · exact hl.2.2.1
      · exact hl.1.2.1
    · exact ab_wsU hl.1 w h
  have has' : as'.map (ab_v ad) = as.map (ab_v (fun t => ad (ab_rho is fo w.length t))) := by rw [← has, ab_vv]
  exact va_runS (As := as'.map (ab_v ad)) ⟨X.1.1, X.1.2.1, X.1.2.2.1, X.1.2.2.2, X.2.2.1⟩ (hC l D tc (fun t => ad (ab_rho is fo w.length t)) H.size) (va_cwS na X.2.2.1 hG rfl rfl rfl ⟨hl.1.2.2.2.1, hl.1.2.2.2.2, hl.2.2.2⟩ hroom)
    ⟨ab_blind, fun U hU hW => ⟨by rw [has'], ab_pre.of X hR hx hf hn U hU hW⟩⟩ rfl (by rw [List.length_map, ← has, List.length_map]; exact hna) (by show ls.size = _; rw [hL.1, hLl]) (by show stk.map (ab_v ad) = _; rw [← hstk, List.map_append, List.map_reverse]) (lv_room (by rw [ab_sum]; exact hsum)) hd ⟨hcc, hss⟩
theorem ab_runSN {is fo : List Nat} {as as' : List Value} (hl : ab_SN M N idx na) (hC : Con N d mc ms wc as Qc) (hx : ∀ (i : Nat) (q : Nat × (Nat → Int32)), ab_x0[i]? = some q → xo[i]? = some q) (hf : ab_fits is fo wc w) (hn : va_nd is = true) (has : as.map (ab_v (ab_rho is fo w.length)) = as') (hstk : as'.reverse ++ st = stk) (hna : as.length = na) (hLl : L.length = M.2.2.2.1) (hsum : (st.map fun v => v.category).sum ≤ 8) (hd : decode M.2.2.1 pc = .ok (.invokestatic idx, 3))
    (X : ab_X xo M (d + 1) p R s m args meth c D tc ad A) (hR : ab_R D tc ad A s H locs w) (hL : ab_L ad ls L) (hcc : cells + mc ≤ R.cells) (hss : slots + ms ≤ R.slots) :
    va_Run p l e R s m args below meth c H locs cells slots mc ms (F0 m pc ls (stk.map (ab_v ad))) (st.map (ab_v ad)) (ab_Q D tc (fun t => ad (ab_rho is fo w.length t)) wc H.size Qc (as'.map (ab_v ad)).toArray) (va_A (ab_w tc (fun t => ad (ab_rho is fo w.length t)) 100 wc) H.size) := by
  have hroom : (ab_rm d mc ms).frames + 1 ≤ R.frames ∧ 8 + (N.2.2.2.1 + 11) + (ab_rm d mc ms).locals ≤ R.locals := by
    have h1 := X.2.2.2.2.2.1
    have h2 := hl.1.2.2.1
    exact ⟨h1.1, by show 8 + (N.2.2.2.1 + 11) + 64 * d ≤ R.locals; omega⟩
  have has' : as'.map (ab_v ad) = as.map (ab_v (fun t => ad (ab_rho is fo w.length t))) := by rw [← has, ab_vv]
  exact va_runSN (As := as'.map (ab_v ad)) ⟨X.1.1, X.1.2.1, X.1.2.2.1, X.1.2.2.2, X.2.2.1⟩ (hC l D tc (fun t => ad (ab_rho is fo w.length t)) H.size) ⟨va_cnB na X.2.2.1 (ab_good (ab_wsU hl.1)) rfl rfl rfl (X.2.2.2.2.2.2.2.2.1 _ hl.2.1) (X.2.2.1 _ hl.1.2.1) ⟨hl.1.2.2.2.1, hl.1.2.2.2.2, hl.2.2.2⟩ hroom, X.2.2.1 _ hl.2.2.1, trivial⟩
    ⟨ab_blind, fun U hU hW => ⟨by rw [has'], ab_pre.of X hR hx hf hn U hU hW⟩⟩ rfl (by rw [List.length_map, ← has, List.length_map]; exact hna) (by show ls.size = _; rw [hL.1, hLl]) (by show stk.map (ab_v ad) = _; rw [← hstk, List.map_append, List.map_reverse]) (lv_room (by rw [ab_sum]; exact hsum)) hd ⟨hcc, hss⟩
theorem ab_runV {is fo : List Nat} {as as' : List Value} {j ci : Nat} {fs : List Value} {T : u_T} {nf : Nat} (hl : ab_V M N idx na) (hC : Con N d mc ms wc as Qc) (hx : ∀ (i : Nat) (q : Nat × (Nat → Int32)), ab_x0[i]? = some q → xo[i]? = some q) (hf : ab_fits is fo wc w) (hn : va_nd is = true) (has : as.map (ab_v (ab_rho is fo w.length)) = .ref (j + 100) :: as') (hrc : w[j]? = some (.inr (ci, fs))) (hcl : vwCl[ci]? = some (N.2.1.cls, T, nf)) (hstk : as'.reverse ++ .ref (j + 100) :: st = stk) (hna : as.length = na + 1) (hLl : L.length = M.2.2.2.1) (hsum : (st.map fun v => v.category).sum ≤ 8) (hd : decode M.2.2.1 pc = .ok (.invokevirtual idx, 3))
    (X : ab_X xo M (d + 1) p R s m args meth c D tc ad A) (hR : ab_R D tc ad A s H locs w) (hL : ab_L ad ls L) (hcc : cells + mc ≤ R.cells) (hss : slots + ms ≤ R.slots) :
    va_Run p l e R s m args below meth c H locs cells slots mc ms (F0 m pc ls (stk.map (ab_v ad))) (st.map (ab_v ad)) (ab_Q D tc (fun t => ad (ab_rho is fo w.length t)) wc H.size Qc (.ref (ad (j + 100)) :: as'.map (ab_v ad)).toArray) (va_A (ab_w tc (fun t => ad (ab_rho is fo w.length t)) 100 wc) H.size) := by
  have hroom : (ab_rm d mc ms).frames + 1 ≤ R.frames ∧ 8 + (N.2.2.2.1 + 11) + (ab_rm d mc ms).locals ≤ R.locals := by
    have h1 := X.2.2.2.2.2.1
    have h2 := hl.1.2.2.1
    exact ⟨h1.1, by show 8 + (N.2.2.2.1 + 11) + 64 * d ≤ R.locals; omega⟩
  have hG : GoodIn ab_U (wsV M.1 idx N.2.1.cls N.2.1 (ab_ws N)) := ab_good fun w hw => by
    rcases List.mem_append.mp hw with h | h
    · simp only [List.mem_cons, List.not_mem_nil, or_false] at h
      rcases h with h | h | h | h <;> rw [h]
      · exact hl.2.1.1
      · exact hl.2.1.2.1
      · exact hl.2.1.2.2
      · exact hl.1.2.1
    · exact ab_wsU hl.1 w h
  have has' : as.map (ab_v (fun t => ad (ab_rho is fo w.length t))) = .ref (ad (j + 100)) :: as'.map (ab_v ad) := by rw [ab_vv, has]; rfl
  have hlen : as'.length = na := by
    have := congrArg List.length has
    rw [List.length_map, List.length_cons] at this
    omega
  exact va_runV (As := as'.map (ab_v ad)) (b := ad (j + 100)) ⟨X.1.1, X.1.2.1, X.1.2.2.1, X.1.2.2.2, X.2.2.1⟩ (hC l D tc (fun t => ad (ab_rho is fo w.length t)) H.size) (cwV na X.2.2.1 hG rfl rfl rfl ⟨rfl, hl.1.2.2.2.1, hl.1.2.2.2.2, hl.2.2⟩ hroom)
    ⟨ab_blind, va_recv X.2.2.2.1 hR.1 (ci := ci) (q0 := j) (fs := fs.map (ab_v ad)) hcl (by rw [ab_w_at, hrc]; rfl), fun U hU hW => ⟨by rw [has'], ab_pre.of X hR hx hf hn U hU hW⟩⟩ rfl (by rw [List.length_map]; exact hlen) (by show ls.size = _; rw [hL.1, hLl]) (by show stk.map (ab_v ad) = _; rw [← hstk, List.map_append, List.map_reverse]; rfl) (lv_room (by rw [ab_sum]; exact hsum)) hd ⟨hcc, hss⟩
theorem ab_runI {is fo : List Nat} {as as' : List Value} {j : Nat} (hl : ab_I M N idx na) (hC : Con N d mc ms wc as Qc) (hx : ∀ (i : Nat) (q : Nat × (Nat → Int32)), ab_x0[i]? = some q → xo[i]? = some q) (hf : ab_fits is fo wc w) (hn : va_nd is = true) (has : as.map (ab_v (ab_rho is fo w.length)) = .ref (j + 100) :: as') (hstk : as'.reverse ++ .ref (j + 100) :: st = stk) (hna : as.length = na + 1) (hLl : L.length = M.2.2.2.1) (hsum : (st.map fun v => v.category).sum ≤ 8) (hd : decode M.2.2.1 pc = .ok (.invokespecial idx, 3))
    (X : ab_X xo M (d + 1) p R s m args meth c D tc ad A) (hR : ab_R D tc ad A s H locs w) (hL : ab_L ad ls L) (hcc : cells + mc ≤ R.cells) (hss : slots + ms ≤ R.slots) :
    va_Run p l e R s m args below meth c H locs cells slots mc ms (F0 m pc ls (stk.map (ab_v ad))) (st.map (ab_v ad)) (ab_Q D tc (fun t => ad (ab_rho is fo w.length t)) wc H.size Qc (.ref (ad (j + 100)) :: as'.map (ab_v ad)).toArray) (va_A (ab_w tc (fun t => ad (ab_rho is fo w.length t)) 100 wc) H.size) := by
  have hroom : (ab_rm d mc ms).frames + 1 ≤ R.frames ∧ 8 + (N.2.2.2.1 + 11) + (ab_rm d mc ms).locals ≤ R.locals := by
    have h1 := X.2.2.2.2.2.1
    have h2 := hl.1.2.2.1
    exact ⟨h1.1, by show 8 + (N.2.2.2.1 + 11) + 64 * d ≤ R.locals; omega⟩
  have has' : as.map (ab_v (fun t => ad (ab_rho is fo w.length t))) = .ref (ad (j + 100)) :: as'.map (ab_v ad) := by rw [ab_vv, has]; rfl
  have hlen : as'.length = na := by
    have := congrArg List.length has
    rw [List.length_map, List.length_cons] at this
    omega
  have hCl := hC l D tc (fun t => ad (ab_rho is fo w.length t)) H.size
  have hG := ab_good (ab_wsU hl.1)
  unfold ab_ws at hCl hG
  rw [hl.2.1.2.2.2] at hCl hG
  exact va_runI (As := as'.map (ab_v ad)) (b := ad (j + 100)) ⟨X.1.1, X.1.2.1, X.1.2.2.1, X.1.2.2.2, X.2.2.1⟩ hCl (cwI na X.2.2.1 hG rfl rfl rfl (X.2.2.1 _ hl.1.2.1) (X.2.2.1 _ hl.2.1.1) (X.2.2.1 _ hl.2.1.2.1) hl.2.1.2.2.1 ⟨hl.1.2.2.2.1, hl.1.2.2.2.2, hl.2.2⟩ hroom)
    ⟨ab_blind, fun U hU hW => ⟨by rw [has'], ab_pre.of X hR hx hf hn U hU hW⟩⟩ rfl (by rw [List.length_map]; exact hlen) (by show ls.size = _; rw [hL.1, hLl]) (by show stk.map (ab_v ad) = _; rw [← hstk, List.map_append, List.map_reverse]; rfl) (lv_room (by rw [ab_sum]; exact hsum)) hd ⟨hcc, hss⟩
theorem ab_runIN {is fo : List Nat} {as as' : List Value} {j : Nat} (hl : ab_IN M N idx na) (hC : Con N d mc ms wc as Qc) (hx : ∀ (i : Nat) (q : Nat × (Nat → Int32)), ab_x0[i]? = some q → xo[i]? = some q) (hf : ab_fits is fo wc w) (hn : va_nd is = true) (has : as.map (ab_v (ab_rho is fo w.length)) = .ref (j + 100) :: as') (hstk : as'.reverse ++ .ref (j + 100) :: st = stk) (hna : as.length = na + 1) (hLl : L.length = M.2.2.2.1) (hsum : (st.map fun v => v.category).sum ≤ 8) (hd : decode M.2.2.1 pc = .ok (.invokespecial idx, 3))
    (X : ab_X xo M (d + 1) p R s m args meth c D tc ad A) (hR : ab_R D tc ad A s H locs w) (hL : ab_L ad ls L) (hcc : cells + mc ≤ R.cells) (hss : slots + ms ≤ R.slots) :
    va_Run p l e R s m args below meth c H locs cells slots mc ms (F0 m pc ls (stk.map (ab_v ad))) (st.map (ab_v ad)) (ab_Q D tc (fun t => ad (ab_rho is fo w.length t)) wc H.size Qc (.ref (ad (j + 100)) :: as'.map (ab_v ad)).toArray) (va_A (ab_w tc (fun t => ad (ab_rho is fo w.length t)) 100 wc) H.size) := by
  have hroom : (ab_rm d mc ms).frames + 1 ≤ R.frames ∧ 8 + (N.2.2.2.1 + 11) + (ab_rm d mc ms).locals ≤ R.locals := by
    have h1 := X.2.2.2.2.2.1
    have h2 := hl.1.2.2.1
    exact ⟨h1.1, by show 8 + (N.2.2.2.1 + 11) + 64 * d ≤ R.locals; omega⟩
  have has' : as.map (ab_v (fun t => ad (ab_rho is fo w.length t))) = .ref (ad (j + 100)) :: as'.map (ab_v ad) := by rw [ab_vv, has]; rfl
  have hlen : as'.length = na := by
    have := congrArg List.length has
    rw [List.length_map, List.length_cons] at this
    omega
  have hCl := hC l D tc (fun t => ad (ab_rho is fo w.length t)) H.size
  have hG := ab_good (ab_wsU hl.1)
  unfold ab_ws at hCl hG
  rw [hl.2.1.2.2.2] at hCl hG
  exact va_runIN (As := as'.map (ab_v ad)) (b := ad (j + 100)) ⟨X.1.1, X.1.2.1, X.1.2.2.1, X.1.2.2.2, X.2.2.1⟩ hCl ⟨va_cnB na X.2.2.1 hG rfl rfl rfl (X.2.2.2.2.2.2.2.2.1 _ hl.2.1.1) (X.2.2.1 _ hl.1.2.1) ⟨hl.1.2.2.2.1, hl.1.2.2.2.2, hl.2.2⟩ hroom, hl.2.1.2.2.1, X.2.2.1 _ hl.2.1.2.1⟩
    ⟨ab_blind, fun U hU hW => ⟨by rw [has'], ab_pre.of X hR hx hf hn U hU hW⟩⟩ rfl (by rw [List.length_map]; exact hlen) (by show ls.size = _; rw [hL.1, hLl]) (by show stk.map (ab_v ad) = _; rw [← hstk, List.map_append, List.map_reverse]; rfl) (lv_room (by rw [ab_sum]; exact hsum)) hd ⟨hcc, hss⟩
theorem ab_pfx : ∀ (i : Nat) (q : Nat × (Nat → Int32)), ab_x0[i]? = some q → ab_x0[i]? = some q := fun _ _ h => h
end ABR
end
section
/-! G's rules for calls; calls that make cells; the library's methods. -/
section ABG
variable {xo : ab_XO} {M N : ab_M} {d k n mc ms : Nat} {Q Qc : List ab_C → Option Value → Prop} {pc : Nat} {L : List (Option Value)} {st stk : List Value} {w wc : List ab_C} {idx na : Nat} {is fo : List Nat} {as as' : List Value}
theorem G_S (hl : ab_S M N idx na) (hC : Con N d mc ms wc as Qc) (hx : ∀ (i : Nat) (q : Nat × (Nat → Int32)), ab_x0[i]? = some q → xo[i]? = some q) (hf : ab_fits is fo wc w) (hn : va_nd is = true) (has : as.map (ab_v (ab_rho is fo w.length)) = as') (hstk : as'.reverse ++ st = stk) (hna : as.length = na) (hLl : L.length = M.2.2.2.1) (hsum : (st.map fun v => v.category).sum ≤ 8) (hd : decode M.2.2.1 pc = .ok (.invokestatic idx, 3)) (hlen : ∀ w' v, Qc w' v → w'.length = wc.length)
    (kk : ∀ w' v, Qc w' v → G xo M (d + 1) k n Q (pc + 3) L ((v.map (ab_v (ab_rho is fo w.length))).toList ++ st) (ab_put w is (w'.map (ab_rc (ab_rho is fo w.length))))) : G xo M (d + 1) (k + mc) (n + ms) Q pc L stk w := by
  intro p l e R s m args below meth c Z D tc ad A H locs cells slots ls X hR hL hcc hss fin
  exact ab_run X hR hL hf hn hlen (ab_runS hl hC hx hf hn has hstk hna hLl hsum hd X hR hL (by omega) (by omega)) hcc hss fin kk
theorem G_SN (hl : ab_SN M N idx na) (hC : Con N d mc ms wc as Qc) (hx : ∀ (i : Nat) (q : Nat × (Nat → Int32)), ab_x0[i]? = some q → xo[i]? = some q) (hf : ab_fits is fo wc w) (hn : va_nd is = true) (has : as.map (ab_v (ab_rho is fo w.length)) = as') (hstk : as'.reverse ++ st = stk) (hna : as.length = na) (hLl : L.length = M.2.2.2.1) (hsum : (st.map fun v => v.category).sum ≤ 8) (hd : decode M.2.2.1 pc = .ok (.invokestatic idx, 3)) (hlen : ∀ w' v, Qc w' v → w'.length = wc.length)
    (kk : ∀ w' v, Qc w' v → G xo M (d + 1) k n Q (pc + 3) L ((v.map (ab_v (ab_rho is fo w.length))).toList ++ st) (ab_put w is (w'.map (ab_rc (ab_rho is fo w.length))))) : G xo M (d + 1) (k + mc) (n + ms) Q pc L stk w := by
  intro p l e R s m args below meth c Z D tc ad A H locs cells slots ls X hR hL hcc hss fin
  exact ab_run X hR hL hf hn hlen (ab_runSN hl hC hx hf hn has hstk hna hLl hsum hd X hR hL (by omega) (by omega)) hcc hss fin kk
theorem G_V {j ci : Nat} {fs : List Value} {T : u_T} {nf : Nat} (hl : ab_V M N idx na) (hC : Con N d mc ms wc as Qc) (hx : ∀ (i : Nat) (q : Nat × (Nat → Int32)), ab_x0[i]? = some q → xo[i]? = some q) (hf : ab_fits is fo wc w) (hn : va_nd is = true) (has : as.map (ab_v (ab_rho is fo w.length)) = .ref (j + 100) :: as') (hrc : w[j]? = some (.inr (ci, fs))) (hcl : vwCl[ci]? = some (N.2.1.cls, T, nf)) (hstk : as'.reverse ++ .ref (j + 100) :: st = stk) (hna : as.length = na + 1) (hLl : L.length = M.2.2.2.1) (hsum : (st.map fun v => v.category).sum ≤ 8) (hd : decode M.2.2.1 pc = .ok (.invokevirtual idx, 3)) (hlen : ∀ w' v, Qc w' v → w'.length = wc.length)
    (kk : ∀ w' v, Qc w' v → G xo M (d + 1) k n Q (pc + 3) L ((v.map (ab_v (ab_rho is fo w.length))).toList ++ st) (ab_put w is (w'.map (ab_rc (ab_rho is fo w.length))))) : G xo M (d + 1) (k + mc) (n + ms) Q pc L stk w := by
  intro p l e R s m args below meth c Z D tc ad A H locs cells slots ls X hR hL hcc hss fin
  exact ab_run X hR hL hf hn hlen (ab_runV hl hC hx hf hn has hrc hcl hstk hna hLl hsum hd X hR hL (by omega) (by omega)) hcc hss fin kk
/-- the addresses behind a call that makes cells -/
def ab_ad2 (ad adc : Nat → Nat) (lw li t : Nat) : Nat := if t < lw + 100 then ad t else adc (t - lw + li)
theorem ab_ad2_eq {ad adc : Nat → Nat} (hf : ab_fits is fo wc w) (hfo : ∀ t ∈ fo, t < w.length + 100) (hx : ∀ t, t < wc.length + 100 → adc t = ad (ab_rho is fo w.length t)) : adc = fun t => ab_ad2 ad adc w.length is.length (ab_rho is fo w.length t) := by
  funext t
  have hlen := hf.len
  unfold ab_ad2
  by_cases h1 : t < 4
  · rw [hx t (by omega), ab_rho_lo h1, if_pos (by omega)]
  · by_cases h2 : t < 100
    · have h3 : ab_rho is fo w.length t < w.length + 100 := by
        have e : ab_rho is fo w.length t = fo.getD (t - 4) 0 := by simp [ab_rho, h1, h2]
        rw [e, List.getD_eq_getElem?_getD]
        cases hg : fo[t - 4]? with
        | none => show 0 < w.length + 100; omega
        | some q => exact hfo q (List.mem_of_getElem? hg)
      rw [if_pos h3, hx t (by omega)]
    · obtain ⟨j, rfl⟩ : ∃ j, t = j + 100 := ⟨t - 100, by omega⟩
      cases hj : is[j]? with
      | some i =>
        have hjl : j < wc.length := by rw [hlen]; exact (List.getElem?_eq_some_iff.mp hj).1
        obtain ⟨i2, h4, h5⟩ := hf.at (List.getElem?_eq_getElem hjl)
        have : i2 = i := Option.some.inj (h4.symm.trans hj)
        subst this
        have := (List.getElem?_eq_some_iff.mp h5).1
        rw [hx _ (by omega), ab_rho_at hj, if_pos (by omega)]
      | none =>
        have hge : is.length ≤ j := List.getElem?_eq_none_iff.mp hj
        have e : ab_rho is fo w.length (j + 100) = j + 100 - is.length + w.length := by
          have h3 : j + 100 - 100 = j := by omega
          simp [ab_rho, h1, h2, h3, hj]
        rw [e, if_neg (by omega)]
        congr 1
        omega
variable {p : Program} {l : Launch} {e : Env} {R : Room} {s : State} {m : MethodId} {args : Array Value} {below : List Frame} {meth : Method} {c : Code} {Z : State → Prop} {D : va_G} {tc : Nat → ClassId} {ad : Nat → Nat} {A : Nat → Prop} {H : Heap} {locs : List Loc} {cells slots : Nat} {ls : Array Slot}
/-- the world behind a call that makes cells -/
theorem ab_R.backA {w' : List ab_C} {adc : Nat → Nat} {H1 : Heap} {locs1 : List Loc} (hR : ab_R D tc ad A s H locs w) (hf : ab_fits is fo wc w) (hn : va_nd is = true) (hfo : ∀ t ∈ fo, t < w.length + 100) (hsc : ∀ ce ∈ w, ab_scC (w.length + 100) ce) (hl : wc.length ≤ w'.length) (hx : ∀ t, t < wc.length + 100 → adc t = ad (ab_rho is fo w.length t)) (hS : va_S A s.heap H1 locs1)
    (hA : ∀ q, va_A (ab_w tc (fun t => ad (ab_rho is fo w.length t)) 100 wc) H.size q → A q)
    (hk : ∀ q : Nat, q < H.size → ¬ va_A (ab_w tc (fun t => ad (ab_rho is fo w.length t)) 100 wc) H.size q → H1[q]? = H[q]?) (hP1 : va_P D vwCl (ab_w tc adc 100 w') H1) (hD1 : va_D (va_A (ab_w tc (fun t => ad (ab_rho is fo w.length t)) 100 wc) H.size) (ab_w tc adc 100 w')) :
    ab_R D tc (ab_ad2 ad adc w.length is.length) A s H1 locs1 (ab_put w is ((w'.take is.length).map (ab_rc (ab_rho is fo w.length))) ++ (w'.drop is.length).map (ab_rc (ab_rho is fo w.length))) := by
  have hlen := hf.len
  have hre : ∀ t, t < w.length + 100 → ab_ad2 ad adc w.length is.length t = ad t := fun t ht => by unfold ab_ad2; rw [if_pos ht]
  have hnew : ∀ y, ab_ad2 ad adc w.length is.length (w.length + y + 100) = adc (is.length + y + 100) := fun y => by
    unfold ab_ad2
    rw [if_neg (by omega)]
    congr 1
    omega
  have hee := ab_ad2_eq hf hfo hx
  have hce : ∀ ce, ab_e tc (ab_ad2 ad adc w.length is.length) (ab_rc (ab_rho is fo w.length) ce) = ab_e tc adc ce := fun ce => by
    rw [ab_e_rc]
    exact congrArg (fun f => ab_e tc f ce) hee.symm
  have hD1' := ab_D_iff.mp hD1
  have hDw := ab_D_iff.mp hR.2.1
  have hfresh : ∀ y, is.length + y < w'.length → H.size ≤ adc (is.length + y + 100) := fun y hy => by
    rcases hD1'.2 _ hy with ⟨j, ce, hj⟩ | h
    · exfalso
      rw [ab_w_at] at hj
      cases hc : wc[j]? with
      | none => rw [hc] at hj; cases hj
      | some cj =>
        rw [hc] at hj
        have hjl := (List.getElem?_eq_some_iff.mp hc).1
        have hj := congrArg Prod.fst (Option.some.inj hj)
        have hj : ad (ab_rho is fo w.length (j + 100)) = adc (is.length + y + 100) := hj
        rw [← hx _ (by omega)] at hj
        have := hD1'.1 j (is.length + y) (by omega) hy hj
        omega
    · exact h
  refine ⟨fun x q hq => ?_, ab_D_iff.mpr ?_, hS⟩
  · rw [ab_w_at] at hq
    by_cases hxl : x < w.length
    · rw [List.getElem?_append_left (by rw [ab_put_len]; exact hxl)] at hq
      by_cases hin : x ∈ is
      · obtain ⟨j, hj⟩ := List.getElem?_of_mem hin
        have hji : j < is.length := (List.getElem?_eq_some_iff.mp hj).1
        have hjl : j < w'.length := by omega
        have hw' : w'[j]? = some w'[j] := List.getElem?_eq_getElem hjl
        rw [ab_put_in is w _ hn j x (ab_rc (ab_rho is fo w.length) w'[j]) hj (by rw [List.getElem?_map, List.getElem?_take, if_pos hji, hw']; rfl) hxl] at hq
        cases hq
        have h3 : va_at D vwCl (adc (j + 100), ab_e tc adc w'[j]) H1 := hP1 j _ (by rw [ab_w_at, hw']; rfl)
        show va_at D vwCl (ab_ad2 ad adc w.length is.length (x + 100), ab_e tc _ (ab_rc _ w'[j])) H1
        rw [hce, hre _ (by omega), ← ab_rho_at (fo := fo) (n := w.length) hj, ← hx _ (by omega)]
        exact h3
      · rw [ab_put_out is w _ x hin] at hq
        cases hw : w[x]? with
        | none => rw [hw] at hq; cases hq
        | some cx =>
          rw [hw] at hq
          cases hq
          have h3 : va_at D vwCl (ad (x + 100), ab_e tc ad cx) H := hR.1 x _ (by rw [ab_w_at, hw]; rfl)
          show va_at D vwCl (ab_ad2 ad adc w.length is.length (x + 100), ab_e tc _ cx) H1
          rw [hre _ (by omega), ab_e_re hre (hsc cx (List.mem_of_getElem? hw))]
          refine h3.kept (hk _ h3.lt (fun hA => ?_))
          rcases hA with ⟨j, ce, hj⟩ | hA
          · rw [ab_w_at] at hj
            cases hc : wc[j]? with
            | none => rw [hc] at hj; cases hj
            | some cj =>
              rw [hc] at hj
              obtain ⟨i, h4, h5⟩ := hf.at hc
              have hj := congrArg Prod.fst (Option.some.inj hj)
              have hj : ad (ab_rho is fo w.length (j + 100)) = ad (x + 100) := hj
              rw [ab_rho_at h4] at hj
              have := hDw.1 i x (List.getElem?_eq_some_iff.mp h5).1 hxl hj
              subst this
              exact hin (List.mem_of_getElem? h4)
          · have := h3.lt
            have : (ad (x + 100), ab_e tc ad cx).fst = ad (x + 100) := rfl
            omega
    · obtain ⟨y, rfl⟩ : ∃ y, x = w.length + y := ⟨x - w.length, by omega⟩
      rw [List.getElem?_append_right (by rw [ab_put_len]; omega), ab_put_len, show w.length + y - w.length = y by omega, List.getElem?_map, List.getElem?_drop] at hq
      cases hw : w'[is.length + y]? with
      | none => rw [hw] at hq; cases hq
      | some cy =>
        rw [hw] at hq
        cases hq
        have h3 : va_at D vwCl (adc (is.length + y + 100), ab_e tc adc cy) H1 := hP1 _ _ (by rw [ab_w_at, hw]; rfl)
        show va_at D vwCl (ab_ad2 ad adc w.length is.length (w.length + y + 100), ab_e tc _ (ab_rc _ cy)) H1
        rw [hce, hnew]
        exact h3
  · have hL2 : (ab_put w is ((w'.take is.length).map (ab_rc (ab_rho is fo w.length))) ++ (w'.drop is.length).map (ab_rc (ab_rho is fo w.length))).length = w.length + (w'.length - is.length) := by
      rw [List.length_append, ab_put_len, List.length_map, List.length_drop]
    rw [hL2]
    have old : ∀ i, i < w.length → ad (i + 100) < H.size := fun i hi => by
      have h3 := hR.1 i _ (by rw [ab_w_at, List.getElem?_eq_getElem hi]; rfl)
      exact h3.lt
    have cas : ∀ i, i < w.length + (w'.length - is.length) → (i < w.length ∧ ab_ad2 ad adc w.length is.length (i + 100) = ad (i + 100)) ∨ ∃ y, i = w.length + y ∧ is.length + y < w'.length ∧ ab_ad2 ad adc w.length is.length (i + 100) = adc (is.length + y + 100) := fun i hi => by
      by_cases h : i < w.length
      · exact Or.inl ⟨h, hre _ (by omega)⟩
      · exact Or.inr ⟨i - w.length, by omega, by omega, by rw [← hnew]; congr 1; omega⟩
    refine ⟨fun i j hi hj hij => ?_, fun i hi => ?_⟩
    · rcases cas i hi with ⟨a1, a2⟩ | ⟨y, a1, a2, a3⟩ <;> rcases cas j hj with ⟨b1, b2⟩ | ⟨z, b1, b2, b3⟩
      · exact hDw.1 i j a1 b1 (by rw [← a2, ← b2, hij])
      · have h1 := old i a1
        have h2 := hfresh z b2
        rw [← a2, hij, b3] at h1
        omega
      · have h1 := old j b1
        have h2 := hfresh y a2
        rw [← b2, ← hij, a3] at h1
        omega
      · have := hD1'.1 (is.length + y) (is.length + z) a2 b2 (by rw [← a3, ← b3, hij])
        omega
    · rcases cas i hi with ⟨a1, a2⟩ | ⟨y, a1, a2, a3⟩
      · rw [a2]
        exact hDw.2 i a1
      · rw [a3]
        exact hA _ (Or.inr (hfresh y a2))
theorem ab_runA {a : Array Value} (X : ab_X xo M d p R s m args meth c D tc ad A) (hR : ab_R D tc ad A s H locs w) (hL : ab_L ad ls L) (hf : ab_fits is fo wc w) (hn : va_nd is = true) (hfo : ∀ t ∈ fo, t < w.length + 100) (hsc : ab_scS (w.length + 100) L st w)
    (hr : va_Run p l e R s m args below meth c H locs cells slots mc ms (F0 m pc ls stk) (st.map (ab_v ad)) (ab_Q D tc (fun t => ad (ab_rho is fo w.length t)) wc H.size Qc a) (va_A (ab_w tc (fun t => ad (ab_rho is fo w.length t)) 100 wc) H.size))
    (hcc : cells + (k + mc) ≤ R.cells) (hss : slots + (n + ms) ≤ R.slots)
    (fin : ∀ (pc' : Nat) (ad' : Nat → Nat) (H' : Heap) (locs' : List Loc) (cells' slots' : Nat) (ls' : Array Slot) (w' : List ab_C) (v : Option Value),
      ab_ret M pc' v → ab_ext w ad w' ad' → ab_R D tc ad' A s H' locs' w' → cells' ≤ cells + (k + mc) → slots' ≤ slots + (n + ms) → Q w' v →
      W p l e R s m args below meth c H' locs' cells' slots' Z (F0 m pc' ls' (v.toList.map (ab_v ad'))))
    (hgr : ∀ w' v, Qc w' v → wc.length < w'.length)
    (kk : ∀ w' v, Qc w' v → G xo M d k n Q (pc + 3) L ((v.map (ab_v (ab_rho is fo w.length))).toList ++ st) (ab_put w is ((w'.take is.length).map (ab_rc (ab_rho is fo w.length))) ++ (w'.drop is.length).map (ab_rc (ab_rho is fo w.length)))) :
    W p l e R s m args below meth c H locs cells slots Z (F0 m pc ls stk) := by
  intro T hT Y
  obtain ⟨v0, st₀, t, T', LL, h0, Y', hLL, e1, e2, ⟨⟨w', adc, v, hv, hq, hx, hP1, hD1⟩, hz, hk⟩, go⟩ := hr T hT Y
  have hv := Outcome.returned.inj hv
  subst hv
  rw [h0] at hz hk
  have hgr := hgr w' v hq
  have hlen := hf.len
  have hA := va_free hR.2.1 hR.2.2 X.2.2.2.2.1 is (hf.ws tc ad)
  have hS : va_S A s.heap T'.heap (locs ++ LL) := ⟨Nat.le_trans hR.2.2.1 (by rw [e1]; exact hz), fun q h1 h2 => by rw [e1, hk q (Nat.lt_of_lt_of_le h1 hR.2.2.1) (fun z => h2 (hA q z))]; exact hR.2.2.2.1 q h1 h2, fun q hq => by
    rcases List.mem_append.mp hq with h | h
    · exact hR.2.2.2.2 q h
    · exact hA _ (hLL q h)⟩
  have hR1 := hR.backA hf hn hfo hsc.2.2 hx.2.1 hx.1 hS hA (fun q h1 h2 => by rw [e1]; exact hk q h1 h2) (by rw [e1]; exact hP1) hD1
  have hre : ∀ t, t < w.length + 100 → ab_ad2 ad adc w.length is.length t = ad t := fun t ht => by unfold ab_ad2; rw [if_pos ht]
  have hLn : (ab_put w is ((w'.take is.length).map (ab_rc (ab_rho is fo w.length))) ++ (w'.drop is.length).map (ab_rc (ab_rho is fo w.length))).length = w.length + (w'.length - is.length) := by
    rw [List.length_append, ab_put_len, List.length_map, List.length_drop]
  have g := kk w' v hq p l e R s m args below meth c Z D tc (ab_ad2 ad adc w.length is.length) A T'.heap (locs ++ LL) (cells + mc) (slots + ms) ls (X.re (fun t ht => hre t (by omega))) hR1 (hL.re hre hsc.1) (by omega) (by omega)
    (fun pc' ad' H' locs' cells' slots' ls' w2 v2 a1 a2 a4 a5 a6 a7 => fin pc' ad' H' locs' cells' slots' ls' w2 v2 a1 (by
      have a3 := a2.2.1
      rw [hLn] at a3
      exact ⟨fun t ht => (a2.1 t (by rw [hLn]; omega)).trans (hre t ht), by omega, fun h => by omega⟩) a4 (by omega) (by omega) a7)
  obtain ⟨t2, a1, b1⟩ := g T' rfl Y'
  refine ⟨t2, go t2 ?_, b1⟩
  rw [List.map_append, ab_st_re hre hsc.2.1, ← ab_vl, ← ab_ad2_eq hf hfo hx.1] at a1
  exact a1
end ABG
section ABH
variable {xo : ab_XO} {M N : ab_M} {d k n mc ms : Nat} {Q Qc : List ab_C → Option Value → Prop} {pc : Nat} {L : List (Option Value)} {st stk : List Value} {w wc w1 : List ab_C} {idx na : Nat} {is fo : List Nat} {as as' : List Value}
theorem G_I {j : Nat} (hl : ab_I M N idx na) (hC : Con N d mc ms wc as Qc) (hx : ∀ (i : Nat) (q : Nat × (Nat → Int32)), ab_x0[i]? = some q → xo[i]? = some q) (hf : ab_fits is fo wc w) (hn : va_nd is = true) (has : as.map (ab_v (ab_rho is fo w.length)) = .ref (j + 100) :: as') (hstk : as'.reverse ++ .ref (j + 100) :: st = stk) (hna : as.length = na + 1) (hLl : L.length = M.2.2.2.1) (hsum : (st.map fun v => v.category).sum ≤ 8) (hd : decode M.2.2.1 pc = .ok (.invokespecial idx, 3)) (hfo : ∀ t ∈ fo, t < w.length + 100) (hsc : ab_scS (w.length + 100) L st w) (hgr : ∀ w' v, Qc w' v → wc.length < w'.length)
    (kk : ∀ w' v, Qc w' v → G xo M (d + 1) k n Q (pc + 3) L ((v.map (ab_v (ab_rho is fo w.length))).toList ++ st) (ab_put w is ((w'.take is.length).map (ab_rc (ab_rho is fo w.length))) ++ (w'.drop is.length).map (ab_rc (ab_rho is fo w.length)))) : G xo M (d + 1) (k + mc) (n + ms) Q pc L stk w := by
  intro p l e R s m args below meth c Z D tc ad A H locs cells slots ls X hR hL hcc hss fin
  exact ab_runA X hR hL hf hn hfo hsc (ab_runI hl hC hx hf hn has hstk hna hLl hsum hd X hR hL (by omega) (by omega)) hcc hss fin hgr kk
theorem G_IN {j : Nat} (hl : ab_IN M N idx na) (hC : Con N d mc ms wc as Qc) (hx : ∀ (i : Nat) (q : Nat × (Nat → Int32)), ab_x0[i]? = some q → xo[i]? = some q) (hf : ab_fits is fo wc w) (hn : va_nd is = true) (has : as.map (ab_v (ab_rho is fo w.length)) = .ref (j + 100) :: as') (hstk : as'.reverse ++ .ref (j + 100) :: st = stk) (hna : as.length = na + 1) (hLl : L.length = M.2.2.2.1) (hsum : (st.map fun v => v.category).sum ≤ 8) (hd : decode M.2.2.1 pc = .ok (.invokespecial idx, 3)) (hfo : ∀ t ∈ fo, t < w.length + 100) (hsc : ab_scS (w.length + 100) L st w) (hgr : ∀ w' v, Qc w' v → wc.length < w'.length)
    (kk : ∀ w' v, Qc w' v → G xo M (d + 1) k n Q (pc + 3) L ((v.map (ab_v (ab_rho is fo w.length))).toList ++ st) (ab_put w is ((w'.take is.length).map (ab_rc (ab_rho is fo w.length))) ++ (w'.drop is.length).map (ab_rc (ab_rho is fo w.length)))) : G xo M (d + 1) (k + mc) (n + ms) Q pc L stk w := by
  intro p l e R s m args below meth c Z D tc ad A H locs cells slots ls X hR hL hcc hss fin
  exact ab_runA X hR hL hf hn hfo hsc (ab_runIN hl hC hx hf hn has hstk hna hLl hsum hd X hR hL (by omega) (by omega)) hcc hss fin hgr kk
theorem G_VA {j ci : Nat} {fs : List Value} {T : u_T} {nf : Nat} (hl : ab_V M N idx na) (hC : Con N d mc ms wc as Qc) (hx : ∀ (i : Nat) (q : Nat × (Nat → Int32)), ab_x0[i]? = some q → xo[i]? = some q) (hf : ab_fits is fo wc w) (hn : va_nd is = true) (has : as.map (ab_v (ab_rho is fo w.length)) = .ref (j + 100) :: as') (hrc : w[j]? = some (.inr (ci, fs))) (hcl : vwCl[ci]? = some (N.2.1.cls, T, nf)) (hstk : as'.reverse ++ .ref (j + 100) :: st = stk) (hna : as.length = na + 1) (hLl : L.length = M.2.2.2.1) (hsum : (st.map fun v => v.category).sum ≤ 8) (hd : decode M.2.2.1 pc = .ok (.invokevirtual idx, 3)) (hfo : ∀ t ∈ fo, t < w.length + 100) (hsc : ab_scS (w.length + 100) L st w) (hgr : ∀ w' v, Qc w' v → wc.length < w'.length)
    (kk : ∀ w' v, Qc w' v → G xo M (d + 1) k n Q (pc + 3) L ((v.map (ab_v (ab_rho is fo w.length))).toList ++ st) (ab_put w is ((w'.take is.length).map (ab_rc (ab_rho is fo w.length))) ++ (w'.drop is.length).map (ab_rc (ab_rho is fo w.length)))) : G xo M (d + 1) (k + mc) (n + ms) Q pc L stk w := by
  intro p l e R s m args below meth c Z D tc ad A H locs cells slots ls X hR hL hcc hss fin
  exact ab_runA X hR hL hf hn hfo hsc (ab_runV hl hC hx hf hn has hrc hcl hstk hna hLl hsum hd X hR hL (by omega) (by omega)) hcc hss fin hgr kk
/-- Object.<init> -/
theorem G_obj {t : Nat} (hd : decode M.2.2.1 pc = .ok (.invokespecial idx, 3)) (hl : Cond.methodLink M.1 idx Lib.objectInit ∈ ab_U ∧ Cond.instanceMethod Lib.objectInit ∈ ab_U ∧ Cond.code Lib.objectInit ⟨#[0xb1]⟩ 1 none ∈ ab_U) (hLl : L.length = M.2.2.2.1) (hsum : (st.map fun v => v.category).sum ≤ 8) (kk : G xo M (d + 1) k n Q (pc + 3) L st w) : G xo M (d + 1) k n Q pc L (.ref t :: st) w := by
  intro p l e R s m args below meth c Z D tc ad A H locs cells slots ls X hR hL hcc hss fin
  have h1 := X.2.2.2.2.2.1
  exact W.objInit X.1.1 X.1.2.1 X.1.2.2.2 (X.2.2.1 _ hl.1) (X.2.2.1 _ hl.2.1) (X.2.2.1 _ hl.2.2) rfl (by show ls.size = _; rw [hL.1, hLl, X.1.2.2.1]) (rest := st.map (ab_v ad)) rfl hd (by omega) (by
    have h2 : 2 * (F0 m pc ls (.ref (ad t) :: st.map (ab_v ad))).monitorRoom = 0 := rfl
    show 2 * (F0 m pc ls (.ref (ad t) :: st.map (ab_v ad))).monitorRoom + _ + 12 ≤ R.locals
    rw [ab_sum, h2]
    omega) (kk p l e R s m args below meth c Z D tc ad A H locs cells slots ls X hR hL hcc hss fin)
theorem G_max {x y : Int32} (hd : decode M.2.2.1 pc = .ok (.invokestatic idx, 3)) (hl : Cond.methodLink M.1 idx Lib.Math.max.name ∈ ab_U ∧ Cond.static Lib.Math.max.name ∈ ab_U ∧ Cond.initialized "java/lang/Math" ∈ ab_U ∧ Cond.code Lib.Math.max.name Lib.Math.max.code 2 (some .int) ∈ ab_U) (hLl : L.length = M.2.2.2.1) (hsum : (st.map fun v => v.category).sum ≤ 8) (kk : G xo M (d + 1) k n Q (pc + 3) L (.int (if x < y then y else x) :: st) w) : G xo M (d + 1) k n Q pc L (.int y :: .int x :: st) w := by
  intro p l e R s m args below meth c Z D tc ad A H locs cells slots ls X hR hL hcc hss fin
  have h1 := X.2.2.2.2.2.1
  exact va_mmax X.1.1 X.1.2.1 (by rw [hL.1, hLl]; exact X.1.2.2.1) X.1.2.2.2 (X.2.2.1 _ hl.1) (X.2.2.1 _ hl.2.1) (X.2.2.1 _ hl.2.2.1) (X.2.2.1 _ hl.2.2.2) (by omega) (by rw [ab_sum]; omega) (by omega) (by omega) hd (kk p l e R s m args below meth c Z D tc ad A H locs cells slots ls X hR hL hcc hss fin)
theorem G_min {x y : Int32} (hd : decode M.2.2.1 pc = .ok (.invokestatic idx, 3)) (hl : Cond.methodLink M.1 idx Lib.Math.min.name ∈ ab_U ∧ Cond.static Lib.Math.min.name ∈ ab_U ∧ Cond.initialized "java/lang/Math" ∈ ab_U ∧ Cond.code Lib.Math.min.name Lib.Math.min.code 2 (some .int) ∈ ab_U) (hLl : L.length = M.2.2.2.1) (hsum : (st.map fun v => v.category).sum ≤ 8) (kk : G xo M (d + 1) k n Q (pc + 3) L (.int (if y < x then y else x) :: st) w) : G xo M (d + 1) k n Q pc L (.int y :: .int x :: st) w := by
  intro p l e R s m args below meth c Z D tc ad A H locs cells slots ls X hR hL hcc hss fin
  have h1 := X.2.2.2.2.2.1
  exact va_mmin X.1.1 X.1.2.1 (by rw [hL.1, hLl]; exact X.1.2.2.1) X.1.2.2.2 (X.2.2.1 _ hl.1) (X.2.2.1 _ hl.2.1) (X.2.2.1 _ hl.2.2.1) (X.2.2.1 _ hl.2.2.2) (by omega) (by rw [ab_sum]; omega) (by omega) (by omega) hd (kk p l e R s m args below meth c Z D tc ad A H locs cells slots ls X hR hL hcc hss fin)
/-- System.arraycopy between two arrays of ints of the world -/
theorem G_copy {j0 j1 n0 n1 : Nat} {f g : Nat → Int32} {sp dp z : Int32} (hd : decode M.2.2.1 pc = .ok (.invokestatic idx, 3)) (hl : Cond.methodLink M.1 idx arraycopyName ∈ ab_U ∧ Cond.native arraycopyName ∈ ab_U ∧ Cond.static arraycopyName ∈ ab_U ∧ Cond.initialized "java/lang/System" ∈ ab_U) (hLl : L.length = M.2.2.2.1) (hsum : (st.map fun v => v.category).sum ≤ 8) (h0 : w[j0]? = some (.inl (0, n0, .inl f))) (h1 : w[j1]? = some (.inl (0, n1, .inl g))) (hs : ¬ sp < 0) (hp : ¬ dp < 0) (hz : ¬ z < 0) (hb0 : sp.toNatClampNeg + z.toNatClampNeg ≤ n0) (hb1 : dp.toNatClampNeg + z.toNatClampNeg ≤ n1) (hw1 : w.set j1 (.inl (0, n1, .inl (va_cpy f g sp.toNatClampNeg dp.toNatClampNeg z.toNatClampNeg))) = w1) (kk : G xo M (d + 1) k n Q (pc + 3) L st w1) : G xo M (d + 1) k n Q pc L (.int z :: .int dp :: .ref (j1 + 100) :: .int sp :: .ref (j0 + 100) :: st) w := by
  intro p l e R s m args below meth c Z D tc ad A H locs cells slots ls X hR hL hcc hss fin
  subst hw1
  have hr := X.2.2.2.2.2.1
  refine va_copyi X.1.1 X.1.2.1 (by rw [hL.1, hLl]; exact X.1.2.2.1) X.1.2.2.2 (X.2.2.1 _ hl.1) (X.2.2.1 _ hl.2.1) (X.2.2.1 _ hl.2.2.1) (X.2.2.1 _ hl.2.2.2) X.2.2.2.1 hR.1 hR.2.1 hR.2.2 j0 j1 0 0 (c0 := tc 0) (c1 := tc 0) (f := f) (g := g) (ty := .int) (by rw [ab_w_at, h0]; rfl) (by rw [ab_w_at, h1]; rfl) rfl rfl rfl hs hp hz hb0 hb1 (fun _ _ => rfl) (by omega) (by
    have : nativeFrameWords "java/lang/System" "arraycopy" 5 ≤ 40 := by decide +kernel
    rw [ab_sum]
    omega) hd (fun H1 locs1 a1 a2 a3 => ?_)
  exact kk p l e R s m args below meth c Z D tc ad A H1 locs1 cells slots ls X (ab_R.put (c := .inl (0, n1, .inl (va_cpy f g sp.toNatClampNeg dp.toNatClampNeg z.toNatClampNeg))) a1 a2 a3) hL hcc hss (by simp only [ab_ext, List.length_set] at fin ⊢; exact fin)
end ABH
end
section
/-! System.arraycopy out of a static array; tableswitch. -/
section ABX
variable {xo : ab_XO} {M : ab_M} {d k n : Nat} {Q : List ab_C → Option Value → Prop} {pc : Nat} {L : List (Option Value)} {st : List Value} {w w1 : List ab_C} {idx : Nat}
theorem G_copyX {i j1 n0 n1 : Nat} {f g : Nat → Int32} {sp dp z : Int32} (hd : decode M.2.2.1 pc = .ok (.invokestatic idx, 3)) (hl : Cond.methodLink M.1 idx arraycopyName ∈ ab_U ∧ Cond.native arraycopyName ∈ ab_U ∧ Cond.static arraycopyName ∈ ab_U ∧ Cond.initialized "java/lang/System" ∈ ab_U) (hLl : L.length = M.2.2.2.1) (hsum : (st.map fun v => v.category).sum ≤ 8) (h0 : xo[i]? = some (n0, f)) (h1 : w[j1]? = some (.inl (0, n1, .inl g))) (hs : ¬ sp < 0) (hp : ¬ dp < 0) (hz : ¬ z < 0) (hb0 : sp.toNatClampNeg + z.toNatClampNeg ≤ n0) (hb1 : dp.toNatClampNeg + z.toNatClampNeg ≤ n1) (hw1 : w.set j1 (.inl (0, n1, .inl (va_cpy f g sp.toNatClampNeg dp.toNatClampNeg z.toNatClampNeg))) = w1) (kk : G xo M (d + 1) k n Q (pc + 3) L st w1) : G xo M (d + 1) k n Q pc L (.int z :: .int dp :: .ref (j1 + 100) :: .int sp :: .ref i :: st) w := by
  intro p l e R s m args below meth c Z D tc ad A H locs cells slots ls X hR hL hcc hss fin
  subst hw1
  have hr := X.2.2.2.2.2.1
  have nat : ∀ q : Int32, ¬ q < 0 → q.toInt = (q.toNatClampNeg : Int) := fun q hq => by
    have h := Int32.le_iff_toInt_le.mp (Int32.not_lt.mp hq)
    rw [Int32.toInt_zero] at h
    show q.toInt = ((q.toInt.toNat : Nat) : Int)
    omega
  have hlo : ((st.map (ab_v ad)).map fun v => v.category).sum + (nativeFrameWords "java/lang/System" "arraycopy" 5 + 11) ≤ R.locals := by
    have : nativeFrameWords "java/lang/System" "arraycopy" 5 ≤ 40 := by decide +kernel
    rw [ab_sum]
    omega
  obtain ⟨cs, t1, ⟨t2, k0, hk0, cm0, hkk0⟩, t3, t4, -, t6, t7⟩ := X.2.2.2.2.2.2.1 i _ h0
  have hcs : H[ad i]? = some cs := by rw [hR.2.2.2.1 _ (Array.getElem?_eq_some_iff.mp t1).1 t7]; exact t1
  have ha1 : (ab_w tc ad 100 w)[j1]? = some (ad (j1 + 100), .inl (tc 0, n1, .inl g)) := by rw [ab_w_at, h1]; rfl
  have hcd : H[ad (j1 + 100)]? = some (vp_cell (tc 0) (n1, .inl g)) := hR.1 j1 _ ha1
  have hKi : ArrOfT s (tc 0) .int := (X.2.2.2.1.2 0 _ rfl).1
  obtain ⟨-, k1, hk1, cm1, hkk1⟩ := hKi n1 (fun j => .int (g j))
  have hel : ∀ q, q < z.toNatClampNeg → cs.slots.getD (sp.toNatClampNeg + q) .null = .int (f (sp.toNatClampNeg + q)) := fun q hq => by
    rw [Array.getD_eq_getD_getElem?, t6 _ (by omega)]
    rfl
  have hcop : copied cs (vp_cell (tc 0) (n1, .inl g)) sp dp z = vp_cell (tc 0) (n1, .inl (va_cpy f g sp.toNatClampNeg dp.toNatClampNeg z.toNatClampNeg)) := va_copiedX (fun q => .int q) cs (tc 0) f g t6 hb0
  have hlt : ad (j1 + 100) < H.size := (Array.getElem?_eq_some_iff.mp hcd).1
  intro T hT Y
  obtain ⟨vm', Y', go⟩ := Y.arraycopy X.1.1 X.1.2.2.2 (X.2.2.1 _ hl.1) (X.2.2.1 _ hl.2.1) (X.2.2.1 _ hl.2.2.1) (X.2.2.1 _ hl.2.2.2) (src := ad i) (dst := ad (j1 + 100)) (cs := cs) (cd := vp_cell (tc 0) (n1, .inl g)) (srcPos := sp) (destPos := dp) (n := z) (by rw [hT]; exact hcs) (by rw [hT]; exact hcd)
    t2 (fun _ h => by cases h) t3 (fun h => by cases h) hk0 hk1 hkk0 hkk1 (by simp [refKind]) hs hp hz
    (by rw [nat sp hs, nat z hz]; omega)
    (by rw [nat dp hp, nat z hz]; show ¬ _ > ((arrV (tc 0) n1 (fun j => .int (g j))).slots.size : Int); rw [arrV_size]; omega)
    (fun vm₁ _ q hq => by
      rw [hel q hq]
      exact ⟨rfl, trivial⟩)
    (g := F0 m pc ls (.int z :: .int dp :: .ref (ad (j1 + 100)) :: .int sp :: .ref (ad i) :: st.map (ab_v ad))) rfl (by show ls.size = _; rw [hL.1, hLl, X.1.2.2.1]) (rest := st.map (ab_v ad)) rfl (by rw [X.1.2.1]; exact hd) (by omega) (by show 2 * 0 + _ + _ ≤ _; omega)
  rw [hcop] at Y' go
  have hheap : ((T.setVm vm').setCell (ad (j1 + 100)) (vp_cell (tc 0) (n1, .inl (va_cpy f g sp.toNatClampNeg dp.toNatClampNeg z.toNatClampNeg)))).heap = H.setIfInBounds (ad (j1 + 100)) (vp_cell (tc 0) (n1, .inl (va_cpy f g sp.toNatClampNeg dp.toNatClampNeg z.toNatClampNeg))) := by rw [← hT]; rfl
  have off : ∀ q : Nat, q ≠ ad (j1 + 100) → (H.setIfInBounds (ad (j1 + 100)) (vp_cell (tc 0) (n1, .inl (va_cpy f g sp.toNatClampNeg dp.toNatClampNeg z.toNatClampNeg))))[q]? = H[q]? := fun q hq => by simp [Array.getElem?_setIfInBounds, Ne.symm hq]
  have hin := hR.2.1.2 j1 _ ha1
  obtain ⟨t, a1, b1⟩ := kk p l e R s m args below meth c Z D tc ad A _ _ cells slots ls X (ab_R.put (c := .inl (0, n1, .inl (va_cpy f g sp.toNatClampNeg dp.toNatClampNeg z.toNatClampNeg))) (hR.1.set hR.2.1 ha1 (show (H.setIfInBounds (ad (j1 + 100)) (vp_cell (tc 0) (n1, .inl (va_cpy f g sp.toNatClampNeg dp.toNatClampNeg z.toNatClampNeg))))[ad (j1 + 100)]? = some (vp_cell (tc 0) (n1, .inl (va_cpy f g sp.toNatClampNeg dp.toNatClampNeg z.toNatClampNeg))) by simp [Array.getElem?_setIfInBounds, hlt]) off) (hR.2.1.set ha1) ⟨by simp; exact hR.2.2.1, fun q g1 g2 => by
      rw [off q (fun e => g2 (by rw [e]; exact hin))]
      exact hR.2.2.2.1 q g1 g2, fun q hq => by
      rcases List.mem_append.mp hq with h | h
      · exact hR.2.2.2.2 q h
      · obtain ⟨y, -, hy⟩ := List.mem_map.mp h
        rw [← hy]
        exact hin⟩) hL hcc hss (by simp only [ab_ext, List.length_set] at fin ⊢; exact fin) _ hheap Y'
  exact ⟨t, go t a1, b1⟩
theorem G_table {dflt lo hi : Int} {offs : Array Int} {len : Nat} {x : Int32} {off : Int} {tgt : Nat} (hd : decode M.2.2.1 pc = .ok (.tableswitch dflt lo hi offs, len)) (h1 : ¬ x.toInt < lo) (h2 : ¬ hi < x.toInt) (ho : offs[(x.toInt - lo).toNat]? = some off) (ht : (pc : Int) + off = (tgt : Int)) (kk : G xo M d k n Q tgt L st w) : G xo M d k n Q pc L (.int x :: st) w := by
  intro p l e R s m args below meth c Z D tc ad A H locs cells slots ls X hR hL hcc hss fin
  exact lv_tableIn X.1.1 X.1.2.1 hd h1 h2 ho ht (kk p l e R s m args below meth c Z D tc ad A H locs cells slots ls X hR hL hcc hss fin)
end ABX
end
section
/-! Methods, links (by program). -/
theorem ab_t0 {w : Cond} {i : Nat} (h : (k2_sels lw_privs)[i]? = some w) (g : goodWord w = true) : w ∈ ab_U := List.mem_filter.mpr ⟨List.mem_append_left _ (List.mem_of_getElem? h), g⟩
theorem ab_t1 {w : Cond} {i : Nat} (h : tables_1_1[i]? = some w) (g : goodWord w = true) : w ∈ ab_U := List.mem_filter.mpr ⟨List.mem_append_right _ (List.mem_append_left _ (List.mem_of_getElem? h)), g⟩
theorem ab_t2 {w : Cond} {i : Nat} (h : tables_1_2[i]? = some w) (g : goodWord w = true) : w ∈ ab_U := List.mem_filter.mpr ⟨List.mem_append_right _ (List.mem_append_right _ (List.mem_append_left _ (List.mem_of_getElem? h))), g⟩
theorem ab_t3 {w : Cond} {i : Nat} (h : tables_1_3[i]? = some w) (g : goodWord w = true) : w ∈ ab_U := List.mem_filter.mpr ⟨List.mem_append_right _ (List.mem_append_right _ (List.mem_append_right _ (List.mem_append_left _ (List.mem_of_getElem? h)))), g⟩
theorem ab_t4 {w : Cond} {i : Nat} (h : tables_1_4[i]? = some w) (g : goodWord w = true) : w ∈ ab_U := List.mem_filter.mpr ⟨List.mem_append_right _ (List.mem_append_right _ (List.mem_append_right _ (List.mem_append_right _ (List.mem_of_getElem? h)))), g⟩
theorem ab_n1 {w : Cond} {i : Nat} (h : tables_1_1[i]? = some w) (g : ab_isN w = true) : w ∈ ab_N := List.mem_filter.mpr ⟨List.mem_append_right _ (List.mem_append_left _ (List.mem_of_getElem? h)), g⟩
theorem ab_n2 {w : Cond} {i : Nat} (h : tables_1_2[i]? = some w) (g : ab_isN w = true) : w ∈ ab_N := List.mem_filter.mpr ⟨List.mem_append_right _ (List.mem_append_right _ (List.mem_append_left _ (List.mem_of_getElem? h))), g⟩
theorem ab_n3 {w : Cond} {i : Nat} (h : tables_1_3[i]? = some w) (g : ab_isN w = true) : w ∈ ab_N := List.mem_filter.mpr ⟨List.mem_append_right _ (List.mem_append_right _ (List.mem_append_right _ (List.mem_append_left _ (List.mem_of_getElem? h)))), g⟩
theorem ab_n4 {w : Cond} {i : Nat} (h : tables_1_4[i]? = some w) (g : ab_isN w = true) : w ∈ ab_N := List.mem_filter.mpr ⟨List.mem_append_right _ (List.mem_append_right _ (List.mem_append_right _ (List.mem_append_right _ (List.mem_of_getElem? h)))), g⟩
abbrev mX1_init : ab_M := (RX1, yX1_init, cX1_init, 1, none)
abbrev mX0_init : ab_M := (RX0, yX0_init, cX0_init, 1, none)
abbrev mX0_isPoint : ab_M := (RX0, yX0_isPoint, cX0_isPoint, 2, (some .boolean))
abbrev mX0_hasPoints : ab_M := (RX0, yX0_hasPoints, cX0_hasPoints, 4, (some .boolean))
abbrev mX7_isIn : ab_M := (RX7, yX7_isIn, cX7_isIn, 4, (some .boolean))
abbrev mX0_holds : ab_M := (RX0, yX0_holds, cX0_holds, 2, (some .boolean))
abbrev mX0_hasSizesOf : ab_M := (RX0, yX0_hasSizesOf, cX0_hasSizesOf, 2, (some .boolean))
abbrev mX7_placeFor : ab_M := (RX7, yX7_placeFor, cX7_placeFor, 4, (some .int))
abbrev mX0_insert : ab_M := (RX0, yX0_insert, cX0_insert, 4, none)
abbrev mX0_remove : ab_M := (RX0, yX0_remove, cX0_remove, 3, none)
abbrev mX1_sizeOf : ab_M := (RX1, yX1_sizeOf, cX1_sizeOf, 2, (some .int))
abbrev mX1_compareHashes : ab_M := (RX1, yX1_compareHashes, cX1_compareHashes, 6, (some .int))
abbrev mX1_arrange : ab_M := (RX1, yX1_arrange, cX1_arrange, 4, none)
abbrev mX1_hasHashesOf : ab_M := (RX1, yX1_hasHashesOf, cX1_hasHashesOf, 5, (some .boolean))
abbrev mX1_namings : ab_M := (RX1, yX1_namings, cX1_namings, 4, (some .int))
abbrev mX2_init : ab_M := (RX2, yX2_init, cX2_init, 2, none)
abbrev mX7_partAt : ab_M := (RX7, yX7_partAt, cX7_partAt, 2, (some .int))
abbrev mX7_pointAt : ab_M := (RX7, yX7_pointAt, cX7_pointAt, 2, (some .int))
abbrev mX2_partFor : ab_M := (RX2, yX2_partFor, cX2_partFor, 3, (some .int))
abbrev mX2_describe : ab_M := (RX2, yX2_describe, cX2_describe, 9, (some .int))
abbrev mX7_sort : ab_M := (RX7, yX7_sort, cX7_sort, 5, none)
abbrev mX6_begin : ab_M := (RX6, yX6_begin, cX6_begin, 1, none)
abbrev mX6_mix : ab_M := (RX6, yX6_mix, cX6_mix, 13, none)
abbrev mX6_put : ab_M := (RX6, yX6_put, cX6_put, 5, none)
abbrev mX2_putContent : ab_M := (RX2, yX2_putContent, cX2_putContent, 5, none)
abbrev mX6_end : ab_M := (RX6, yX6_end, cX6_end, 5, none)
abbrev mX2_makesMore : ab_M := (RX2, yX2_makesMore, cX2_makesMore, 7, (some .boolean))
abbrev mX2_takeRound : ab_M := (RX2, yX2_takeRound, cX2_takeRound, 3, none)
abbrev mX2_refresh : ab_M := (RX2, yX2_refresh, cX2_refresh, 5, none)
abbrev mX3_init : ab_M := (RX3, yX3_init, cX3_init, 1, none)
abbrev mX7_renumbered : ab_M := (RX7, yX7_renumbered, cX7_renumbered, 5, (some .int))
abbrev mX3_layTrial : ab_M := (RX3, yX3_layTrial, cX3_layTrial, 6, none)
abbrev mX3_compare : ab_M := (RX3, yX3_compare, cX3_compare, 4, (some .int))
abbrev mX3_greatestDifference : ab_M := (RX3, yX3_greatestDifference, cX3_greatestDifference, 4, (some .int))
abbrev mX3_settle : ab_M := (RX3, yX3_settle, cX3_settle, 4, (some .int))
abbrev mX3_search : ab_M := (RX3, yX3_search, cX3_search, 11, (some .int))
abbrev mX3_find : ab_M := (RX3, yX3_find, cX3_find, 4, none)
abbrev mX4_init : ab_M := (RX4, yX4_init, cX4_init, 1, none)
abbrev mX4_readLasts : ab_M := (RX4, yX4_readLasts, cX4_readLasts, 4, none)
abbrev mX4_keepsTriples : ab_M := (RX4, yX4_keepsTriples, cX4_keepsTriples, 5, (some .boolean))
abbrev mX4_fits : ab_M := (RX4, yX4_fits, cX4_fits, 5, (some .boolean))
abbrev mX4_completes : ab_M := (RX4, yX4_completes, cX4_completes, 6, (some .boolean))
abbrev mX4_matches : ab_M := (RX4, yX4_matches, cX4_matches, 3, (some .boolean))
abbrev mX4_automorphisms : ab_M := (RX4, yX4_automorphisms, cX4_automorphisms, 7, (some .int))
abbrev mX5_init : ab_M := (RX5, yX5_init, cX5_init, 1, none)
abbrev mX5_adopt : ab_M := (RX5, yX5_adopt, cX5_adopt, 3, none)
abbrev mX5_refreshDigest : ab_M := (RX5, yX5_refreshDigest, cX5_refreshDigest, 4, none)
abbrev mX6_init : ab_M := (RX6, yX6_init, cX6_init, 1, none)
abbrev mX7_init : ab_M := (RX7, yX7_init, cX7_init, 1, none)
abbrev mX7_blank : ab_M := (RX7, yX7_blank, cX7_blank, 1, (some .int))
abbrev mX7_keyOf : ab_M := (RX7, yX7_keyOf, cX7_keyOf, 6, (some .int))
abbrev mX7_triple : ab_M := (RX7, yX7_triple, cX7_triple, 5, (some .int))
abbrev mX7_drop : ab_M := (RX7, yX7_drop, cX7_drop, 5, (some .int))
abbrev mX7_name : ab_M := (RX7, yX7_name, cX7_name, 3, (some .int))
abbrev mX7_named : ab_M := (RX7, yX7_named, cX7_named, 2, (some .int))
abbrev mX7_form : ab_M := (RX7, yX7_form, cX7_form, 3, (some .int))
abbrev mX7_octet : ab_M := (RX7, yX7_octet, cX7_octet, 2, (some .byte))
abbrev mX7_hash : ab_M := (RX7, yX7_hash, cX7_hash, 3, (some .int))
abbrev mX7_rounds : ab_M := (RX7, yX7_rounds, cX7_rounds, 1, (some .int))
abbrev mX7_first : ab_M := (RX7, yX7_first, cX7_first, 4, (some .int))
abbrev mX7_keep : ab_M := (RX7, yX7_keep, cX7_keep, 1, (some .int))
abbrev mX7_keptAt : ab_M := (RX7, yX7_keptAt, cX7_keptAt, 2, (some (.object "CanonNames$Graph")))
abbrev mX7_becomes : ab_M := (RX7, yX7_becomes, cX7_becomes, 2, (some .boolean))
abbrev mX7_isomorphic : ab_M := (RX7, yX7_isomorphic, cX7_isomorphic, 3, (some .int))
abbrev mX7_ways : ab_M := (RX7, yX7_ways, cX7_ways, 3, (some .int))
abbrev mX7_sameRows : ab_M := (RX7, yX7_sameRows, cX7_sameRows, 4, (some .boolean))
abbrev mX7_equal : ab_M := (RX7, yX7_equal, cX7_equal, 3, (some .int))
abbrev mX7_triples : ab_M := (RX7, yX7_triples, cX7_triples, 1, (some .int))
abbrev mX7_blanks : ab_M := (RX7, yX7_blanks, cX7_blanks, 1, (some .int))
abbrev mX8_thrown : ab_M := (RX8, yX8_thrown, cX8_thrown, 1, (some .int))
abbrev mX8_turned : ab_M := (RX8, yX8_turned, cX8_turned, 3, (some .long))
abbrev mX8_block : ab_M := (RX8, yX8_block, cX8_block, 23, none)
abbrev mX8_digestOf : ab_M := (RX8, yX8_digestOf, cX8_digestOf, 4, none)
abbrev mX8_octetsOf : ab_M := (RX8, yX8_octetsOf, cX8_octetsOf, 2, none)
abbrev mX8_init : ab_M := (RX8, yX8_init, cX8_init, 1, none)
abbrev mX8_say : ab_M := (RX8, yX8_say, cX8_say, 2, none)
abbrev mX8_sayNumber : ab_M := (RX8, yX8_sayNumber, cX8_sayNumber, 4, none)
abbrev mX8_at : ab_M := (RX8, yX8_at, cX8_at, 2, (some .int))
abbrev mX8_blank : ab_M := (RX8, yX8_blank, cX8_blank, 1, (some .int))
abbrev mX8_isPoint : ab_M := (RX8, yX8_isPoint, cX8_isPoint, 2, (some .boolean))
abbrev mX8_find : ab_M := (RX8, yX8_find, cX8_find, 7, (some .int))
abbrev mX8_triple : ab_M := (RX8, yX8_triple, cX8_triple, 5, (some .int))
abbrev mX8_drop : ab_M := (RX8, yX8_drop, cX8_drop, 6, (some .int))
abbrev mX8_describe : ab_M := (RX8, yX8_describe, cX8_describe, 8, none)
abbrev mX8_isBefore : ab_M := (RX8, yX8_isBefore, cX8_isBefore, 8, (some .boolean))
abbrev mX8_next : ab_M := (RX8, yX8_next, cX8_next, 5, none)
abbrev mX8_compare : ab_M := (RX8, yX8_compare, cX8_compare, 4, (some .int))
abbrev mX8_different : ab_M := (RX8, yX8_different, cX8_different, 6, (some .int))
abbrev mX8_makeGroups : ab_M := (RX8, yX8_makeGroups, cX8_makeGroups, 6, none)
abbrev mX8_makeHashes : ab_M := (RX8, yX8_makeHashes, cX8_makeHashes, 5, none)
abbrev mX8_hash : ab_M := (RX8, yX8_hash, cX8_hash, 3, (some .int))
abbrev mX8_rounds : ab_M := (RX8, yX8_rounds, cX8_rounds, 1, (some .int))
abbrev mX8_first : ab_M := (RX8, yX8_first, cX8_first, 5, (some .int))
abbrev mX8_change : ab_M := (RX8, yX8_change, cX8_change, 4, none)
abbrev mX8_turn : ab_M := (RX8, yX8_turn, cX8_turn, 5, (some .boolean))
abbrev mX8_begin : ab_M := (RX8, yX8_begin, cX8_begin, 3, none)
abbrev mX8_isNaming : ab_M := (RX8, yX8_isNaming, cX8_isNaming, 4, (some .boolean))
abbrev mX8_compareTriples : ab_M := (RX8, yX8_compareTriples, cX8_compareTriples, 5, (some .int))
abbrev mX8_numbered : ab_M := (RX8, yX8_numbered, cX8_numbered, 2, (some .int))
abbrev mX8_makeRow : ab_M := (RX8, yX8_makeRow, cX8_makeRow, 9, none)
abbrev mX8_compareForm : ab_M := (RX8, yX8_compareForm, cX8_compareForm, 3, (some .int))
abbrev mX8_namings : ab_M := (RX8, yX8_namings, cX8_namings, 6, (some .long))
abbrev mX8_take : ab_M := (RX8, yX8_take, cX8_take, 3, none)
abbrev mX8_name : ab_M := (RX8, yX8_name, cX8_name, 7, (some .int))
abbrev mX8_named : ab_M := (RX8, yX8_named, cX8_named, 2, (some .int))
abbrev mX8_form : ab_M := (RX8, yX8_form, cX8_form, 3, (some .int))
abbrev mX8_octet : ab_M := (RX8, yX8_octet, cX8_octet, 2, (some .byte))
abbrev mX8_keep : ab_M := (RX8, yX8_keep, cX8_keep, 2, (some .int))
abbrev mX8_isKept : ab_M := (RX8, yX8_isKept, cX8_isKept, 2, (some .boolean))
abbrev mX8_becomes : ab_M := (RX8, yX8_becomes, cX8_becomes, 4, (some .boolean))
abbrev mX8_ways : ab_M := (RX8, yX8_ways, cX8_ways, 5, (some .int))
abbrev mX8_isomorphic : ab_M := (RX8, yX8_isomorphic, cX8_isomorphic, 3, (some .int))
abbrev mX8_equal : ab_M := (RX8, yX8_equal, cX8_equal, 2, (some .int))
abbrev mX8_triples : ab_M := (RX8, yX8_triples, cX8_triples, 1, (some .int))
abbrev mX8_blanks : ab_M := (RX8, yX8_blanks, cX8_blanks, 1, (some .int))
abbrev mL_law : ab_M := (RL, yL_law, cL_law, 7, (some .boolean))
theorem kc1 : ab_kc 1 RX0 TX0 6 tyX0 := ⟨rfl, List.forall_mem_cons.mpr ⟨ab_t1 (i := 171) (by decide +kernel) (by decide +kernel), List.forall_mem_cons.mpr ⟨ab_t1 (i := 173) (by decide +kernel) (by decide +kernel), List.forall_mem_cons.mpr ⟨ab_t1 (i := 175) (by decide +kernel) (by decide +kernel), List.forall_mem_cons.mpr ⟨ab_t1 (i := 177) (by decide +kernel) (by decide +kernel), List.forall_mem_cons.mpr ⟨ab_t1 (i := 179) (by decide +kernel) (by decide +kernel), List.forall_mem_cons.mpr ⟨ab_t1 (i := 181) (by decide +kernel) (by decide +kernel), fun _ h => absurd h List.not_mem_nil⟩⟩⟩⟩⟩⟩, tyX0_ok, nmX0⟩
theorem iC1 : Cond.instantiable RX0 6 ∈ ab_U := ab_t1 (i := 136) (by decide +kernel) (by decide +kernel)
theorem jC1 : Cond.initialized RX0 ∈ ab_U := ab_t1 (i := 8) (by decide +kernel) (by decide +kernel)
theorem kc2 : ab_kc 2 RX1 TX1 5 tyX1 := ⟨rfl, List.forall_mem_cons.mpr ⟨ab_t1 (i := 75) (by decide +kernel) (by decide +kernel), List.forall_mem_cons.mpr ⟨ab_t1 (i := 77) (by decide +kernel) (by decide +kernel), List.forall_mem_cons.mpr ⟨ab_t1 (i := 79) (by decide +kernel) (by decide +kernel), List.forall_mem_cons.mpr ⟨ab_t1 (i := 81) (by decide +kernel) (by decide +kernel), List.forall_mem_cons.mpr ⟨ab_t1 (i := 83) (by decide +kernel) (by decide +kernel), fun _ h => absurd h List.not_mem_nil⟩⟩⟩⟩⟩, tyX1_ok, nmX1⟩
theorem iC2 : Cond.instantiable RX1 5 ∈ ab_U := ab_t1 (i := 52) (by decide +kernel) (by decide +kernel)
theorem jC2 : Cond.initialized RX1 ∈ ab_U := ab_t1 (i := 4) (by decide +kernel) (by decide +kernel)
theorem kc3 : ab_kc 3 RX2 TX2 3 tyX2 := ⟨rfl, List.forall_mem_cons.mpr ⟨ab_t1 (i := 89) (by decide +kernel) (by decide +kernel), List.forall_mem_cons.mpr ⟨ab_t1 (i := 91) (by decide +kernel) (by decide +kernel), List.forall_mem_cons.mpr ⟨ab_t1 (i := 93) (by decide +kernel) (by decide +kernel), fun _ h => absurd h List.not_mem_nil⟩⟩⟩, tyX2_ok, nmX2⟩
theorem iC3 : Cond.instantiable RX2 3 ∈ ab_U := ab_t1 (i := 46) (by decide +kernel) (by decide +kernel)
theorem jC3 : Cond.initialized RX2 ∈ ab_U := ab_t1 (i := 3) (by decide +kernel) (by decide +kernel)
theorem kc4 : ab_kc 4 RX3 TX3 4 tyX3 := ⟨rfl, List.forall_mem_cons.mpr ⟨ab_t1 (i := 120) (by decide +kernel) (by decide +kernel), List.forall_mem_cons.mpr ⟨ab_t1 (i := 122) (by decide +kernel) (by decide +kernel), List.forall_mem_cons.mpr ⟨ab_t1 (i := 124) (by decide +kernel) (by decide +kernel), List.forall_mem_cons.mpr ⟨ab_t1 (i := 126) (by decide +kernel) (by decide +kernel), fun _ h => absurd h List.not_mem_nil⟩⟩⟩⟩, tyX3_ok, nmX3⟩
theorem iC4 : Cond.instantiable RX3 4 ∈ ab_U := ab_t1 (i := 111) (by decide +kernel) (by decide +kernel)
theorem jC4 : Cond.initialized RX3 ∈ ab_U := ab_t1 (i := 6) (by decide +kernel) (by decide +kernel)
theorem kc5 : ab_kc 5 RX4 TX4 2 tyX4 := ⟨rfl, List.forall_mem_cons.mpr ⟨ab_t1 (i := 105) (by decide +kernel) (by decide +kernel), List.forall_mem_cons.mpr ⟨ab_t1 (i := 107) (by decide +kernel) (by decide +kernel), fun _ h => absurd h List.not_mem_nil⟩⟩, tyX4_ok, nmX4⟩
theorem iC5 : Cond.instantiable RX4 2 ∈ ab_U := ab_t1 (i := 97) (by decide +kernel) (by decide +kernel)
theorem jC5 : Cond.initialized RX4 ∈ ab_U := ab_t1 (i := 5) (by decide +kernel) (by decide +kernel)
theorem kc6 : ab_kc 6 RX5 TX5 4 tyX5 := ⟨rfl, List.forall_mem_cons.mpr ⟨ab_t1 (i := 191) (by decide +kernel) (by decide +kernel), List.forall_mem_cons.mpr ⟨ab_t1 (i := 193) (by decide +kernel) (by decide +kernel), List.forall_mem_cons.mpr ⟨ab_t1 (i := 195) (by decide +kernel) (by decide +kernel), List.forall_mem_cons.mpr ⟨ab_t1 (i := 197) (by decide +kernel) (by decide +kernel), fun _ h => absurd h List.not_mem_nil⟩⟩⟩⟩, tyX5_ok, nmX5⟩
theorem iC6 : Cond.instantiable RX5 4 ∈ ab_U := ab_t1 (i := 130) (by decide +kernel) (by decide +kernel)
theorem jC6 : Cond.initialized RX5 ∈ ab_U := ab_t1 (i := 7) (by decide +kernel) (by decide +kernel)
theorem kc7 : ab_kc 7 RX6 TX6 4 tyX6 := ⟨rfl, List.forall_mem_cons.mpr ⟨ab_t1 (i := 35) (by decide +kernel) (by decide +kernel), List.forall_mem_cons.mpr ⟨ab_t1 (i := 37) (by decide +kernel) (by decide +kernel), List.forall_mem_cons.mpr ⟨ab_t1 (i := 39) (by decide +kernel) (by decide +kernel), List.forall_mem_cons.mpr ⟨ab_t1 (i := 41) (by decide +kernel) (by decide +kernel), fun _ h => absurd h List.not_mem_nil⟩⟩⟩⟩, tyX6_ok, nmX6⟩
theorem iC7 : Cond.instantiable RX6 4 ∈ ab_U := ab_t1 (i := 26) (by decide +kernel) (by decide +kernel)
theorem jC7 : Cond.initialized RX6 ∈ ab_U := ab_t1 (i := 2) (by decide +kernel) (by decide +kernel)
theorem kc8 : ab_kc 8 RX7 TX7 8 tyX7 := ⟨rfl, List.forall_mem_cons.mpr ⟨ab_t1 (i := 211) (by decide +kernel) (by decide +kernel), List.forall_mem_cons.mpr ⟨ab_t1 (i := 213) (by decide +kernel) (by decide +kernel), List.forall_mem_cons.mpr ⟨ab_t1 (i := 215) (by decide +kernel) (by decide +kernel), List.forall_mem_cons.mpr ⟨ab_t1 (i := 217) (by decide +kernel) (by decide +kernel), List.forall_mem_cons.mpr ⟨ab_t1 (i := 219) (by decide +kernel) (by decide +kernel), List.forall_mem_cons.mpr ⟨ab_t1 (i := 221) (by decide +kernel) (by decide +kernel), List.forall_mem_cons.mpr ⟨ab_t1 (i := 223) (by decide +kernel) (by decide +kernel), List.forall_mem_cons.mpr ⟨ab_t1 (i := 225) (by decide +kernel) (by decide +kernel), fun _ h => absurd h List.not_mem_nil⟩⟩⟩⟩⟩⟩⟩⟩, tyX7_ok, nmX7⟩
theorem iC8 : Cond.instantiable RX7 8 ∈ ab_U := ab_t1 (i := 18) (by decide +kernel) (by decide +kernel)
theorem jC8 : Cond.initialized RX7 ∈ ab_U := ab_t1 (i := 1) (by decide +kernel) (by decide +kernel)
theorem kc9 : ab_kc 9 RX8 TX8 27 tyX8 := ⟨rfl, List.forall_mem_cons.mpr ⟨ab_t3 (i := 216) (by decide +kernel) (by decide +kernel), List.forall_mem_cons.mpr ⟨ab_t3 (i := 218) (by decide +kernel) (by decide +kernel), List.forall_mem_cons.mpr ⟨ab_t3 (i := 220) (by decide +kernel) (by decide +kernel), List.forall_mem_cons.mpr ⟨ab_t3 (i := 222) (by decide +kernel) (by decide +kernel), List.forall_mem_cons.mpr ⟨ab_t3 (i := 224) (by decide +kernel) (by decide +kernel), List.forall_mem_cons.mpr ⟨ab_t3 (i := 226) (by decide +kernel) (by decide +kernel), List.forall_mem_cons.mpr ⟨ab_t3 (i := 228) (by decide +kernel) (by decide +kernel), List.forall_mem_cons.mpr ⟨ab_t3 (i := 230) (by decide +kernel) (by decide +kernel), List.forall_mem_cons.mpr ⟨ab_t3 (i := 232) (by decide +kernel) (by decide +kernel), List.forall_mem_cons.mpr ⟨ab_t3 (i := 234) (by decide +kernel) (by decide +kernel), List.forall_mem_cons.mpr ⟨ab_t3 (i := 236) (by decide +kernel) (by decide +kernel), List.forall_mem_cons.mpr ⟨ab_t3 (i := 238) (by decide +kernel) (by decide +kernel), List.forall_mem_cons.mpr ⟨ab_t4 (i := 0) (by decide +kernel) (by decide +kernel), List.forall_mem_cons.mpr ⟨ab_t4 (i := 2) (by decide +kernel) (by decide +kernel), List.forall_mem_cons.mpr ⟨ab_t4 (i := 4) (by decide +kernel) (by decide +kernel), List.forall_mem_cons.mpr ⟨ab_t4 (i := 6) (by decide +kernel) (by decide +kernel), List.forall_mem_cons.mpr ⟨ab_t4 (i := 8) (by decide +kernel) (by decide +kernel), List.forall_mem_cons.mpr ⟨ab_t4 (i := 10) (by decide +kernel) (by decide +kernel), List.forall_mem_cons.mpr ⟨ab_t4 (i := 12) (by decide +kernel) (by decide +kernel), List.forall_mem_cons.mpr ⟨ab_t4 (i := 14) (by decide +kernel) (by decide +kernel), List.forall_mem_cons.mpr ⟨ab_t4 (i := 16) (by decide +kernel) (by decide +kernel), List.forall_mem_cons.mpr ⟨ab_t4 (i := 18) (by decide +kernel) (by decide +kernel), List.forall_mem_cons.mpr ⟨ab_t4 (i := 20) (by decide +kernel) (by decide +kernel), List.forall_mem_cons.mpr ⟨ab_t4 (i := 22) (by decide +kernel) (by decide +kernel), List.forall_mem_cons.mpr ⟨ab_t4 (i := 24) (by decide +kernel) (by decide +kernel), List.forall_mem_cons.mpr ⟨ab_t4 (i := 26) (by decide +kernel) (by decide +kernel), List.forall_mem_cons.mpr ⟨ab_t4 (i := 28) (by decide +kernel) (by decide +kernel), fun _ h => absurd h List.not_mem_nil⟩⟩⟩⟩⟩⟩⟩⟩⟩⟩⟩⟩⟩⟩⟩⟩⟩⟩⟩⟩⟩⟩⟩⟩⟩⟩⟩, tyX8_ok, nmX8⟩
theorem iC9 : Cond.instantiable RX8 27 ∈ ab_U := ab_t3 (i := 94) (by decide +kernel) (by decide +kernel)
theorem jC9 : Cond.initialized RX8 ∈ ab_U := ab_t1 (i := 9) (by decide +kernel) (by decide +kernel)
theorem aC_int : Cond.arrayClass .int ∈ ab_U := ab_t1 (i := 44) (by decide +kernel) (by decide +kernel)
theorem aC_long : Cond.arrayClass .long ∈ ab_U := ab_t4 (i := 31) (by decide +kernel) (by decide +kernel)
theorem aC_byte : Cond.arrayClass .byte ∈ ab_U := ab_t3 (i := 80) (by decide +kernel) (by decide +kernel)
theorem aC_boolean : Cond.arrayClass .boolean ∈ ab_U := ab_t4 (i := 32) (by decide +kernel) (by decide +kernel)
theorem fX0_9 : Cond.fieldLink RX0 9 "CanonNames$Graph" "keys" "[I" ∈ ab_U := ab_t1 (i := 143) (by decide +kernel) (by decide +kernel)
theorem fX0_15 : Cond.fieldLink RX0 15 "CanonNames$Graph" "blanks" "I" ∈ ab_U := ab_t1 (i := 149) (by decide +kernel) (by decide +kernel)
theorem fX0_19 : Cond.fieldLink RX0 19 "CanonNames$Graph" "triples" "I" ∈ ab_U := ab_t1 (i := 154) (by decide +kernel) (by decide +kernel)
theorem fX0_22 : Cond.fieldLink RX0 22 "CanonNames$Graph" "hashed" "Z" ∈ ab_U := ab_t1 (i := 160) (by decide +kernel) (by decide +kernel)
theorem fX0_26 : Cond.fieldLink RX0 26 "CanonNames$Graph" "rounds" "I" ∈ ab_U := ab_t1 (i := 163) (by decide +kernel) (by decide +kernel)
theorem fX0_32 : Cond.fieldLink RX0 32 "CanonNames$Graph" "groups" "LCanonNames$Groups;" ∈ ab_U := ab_t1 (i := 166) (by decide +kernel) (by decide +kernel)
theorem fX1_9 : Cond.fieldLink RX1 9 "CanonNames$Groups" "hashes" "[I" ∈ ab_U := ab_t1 (i := 57) (by decide +kernel) (by decide +kernel)
theorem fX1_15 : Cond.fieldLink RX1 15 "CanonNames$Groups" "order" "[I" ∈ ab_U := ab_t1 (i := 60) (by decide +kernel) (by decide +kernel)
theorem fX1_18 : Cond.fieldLink RX1 18 "CanonNames$Groups" "rank" "[I" ∈ ab_U := ab_t1 (i := 64) (by decide +kernel) (by decide +kernel)
theorem fX1_21 : Cond.fieldLink RX1 21 "CanonNames$Groups" "start" "[I" ∈ ab_U := ab_t1 (i := 68) (by decide +kernel) (by decide +kernel)
theorem fX1_24 : Cond.fieldLink RX1 24 "CanonNames$Groups" "count" "I" ∈ ab_U := ab_t1 (i := 72) (by decide +kernel) (by decide +kernel)
theorem fX2_9 : Cond.fieldLink RX2 9 "CanonNames$Hasher" "descriptions" "[I" ∈ ab_U := ab_t1 (i := 87) (by decide +kernel) (by decide +kernel)
theorem fX2_18 : Cond.fieldLink RX2 18 "CanonNames$Hasher" "next" "LCanonNames$Groups;" ∈ ab_U := ab_t1 (i := 88) (by decide +kernel) (by decide +kernel)
theorem fX2_22 : Cond.fieldLink RX2 22 "CanonNames$Hasher" "sha" "LCanonNames$Sha;" ∈ ab_U := ab_t1 (i := 86) (by decide +kernel) (by decide +kernel)
theorem fX2_26 : Cond.fieldLink RX2 26 "CanonNames$Graph" "hashed" "Z" ∈ ab_U := ab_t1 (i := 161) (by decide +kernel) (by decide +kernel)
theorem fX2_32 : Cond.fieldLink RX2 32 "CanonNames$Graph" "blanks" "I" ∈ ab_U := ab_t1 (i := 152) (by decide +kernel) (by decide +kernel)
theorem fX2_36 : Cond.fieldLink RX2 36 "CanonNames$Hasher" "NO_BYTES" "[I" ∈ ab_U := ab_t2 (i := 37) (by decide +kernel) (by decide +kernel)
theorem fX2_39 : Cond.fieldLink RX2 39 "CanonNames$Graph" "groups" "LCanonNames$Groups;" ∈ ab_U := ab_t1 (i := 167) (by decide +kernel) (by decide +kernel)
theorem fX2_42 : Cond.fieldLink RX2 42 "CanonNames$Groups" "hashes" "[I" ∈ ab_U := ab_t1 (i := 58) (by decide +kernel) (by decide +kernel)
theorem fX2_55 : Cond.fieldLink RX2 55 "CanonNames$Graph" "rounds" "I" ∈ ab_U := ab_t1 (i := 164) (by decide +kernel) (by decide +kernel)
theorem fX2_66 : Cond.fieldLink RX2 66 "CanonNames$Groups" "count" "I" ∈ ab_U := ab_t1 (i := 73) (by decide +kernel) (by decide +kernel)
theorem fX2_82 : Cond.fieldLink RX2 82 "CanonNames$Groups" "rank" "[I" ∈ ab_U := ab_t1 (i := 66) (by decide +kernel) (by decide +kernel)
theorem fX2_100 : Cond.fieldLink RX2 100 "CanonNames$Graph" "triples" "I" ∈ ab_U := ab_t1 (i := 159) (by decide +kernel) (by decide +kernel)
theorem fX2_103 : Cond.fieldLink RX2 103 "CanonNames$Graph" "keys" "[I" ∈ ab_U := ab_t1 (i := 147) (by decide +kernel) (by decide +kernel)
theorem fX2_113 : Cond.fieldLink RX2 113 "CanonNames$Groups" "order" "[I" ∈ ab_U := ab_t1 (i := 62) (by decide +kernel) (by decide +kernel)
theorem fX2_116 : Cond.fieldLink RX2 116 "CanonNames$Groups" "start" "[I" ∈ ab_U := ab_t1 (i := 70) (by decide +kernel) (by decide +kernel)
theorem fX3_9 : Cond.fieldLink RX3 9 "CanonNames$LeastRow" "numbers" "[I" ∈ ab_U := ab_t1 (i := 116) (by decide +kernel) (by decide +kernel)
theorem fX3_15 : Cond.fieldLink RX3 15 "CanonNames$LeastRow" "bestNumbers" "[I" ∈ ab_U := ab_t1 (i := 117) (by decide +kernel) (by decide +kernel)
theorem fX3_18 : Cond.fieldLink RX3 18 "CanonNames$LeastRow" "trial" "[I" ∈ ab_U := ab_t1 (i := 118) (by decide +kernel) (by decide +kernel)
theorem fX3_21 : Cond.fieldLink RX3 21 "CanonNames$LeastRow" "found" "Z" ∈ ab_U := ab_t1 (i := 119) (by decide +kernel) (by decide +kernel)
theorem fX3_25 : Cond.fieldLink RX3 25 "CanonNames$Graph" "blanks" "I" ∈ ab_U := ab_t1 (i := 150) (by decide +kernel) (by decide +kernel)
theorem fX3_31 : Cond.fieldLink RX3 31 "CanonNames$Graph" "triples" "I" ∈ ab_U := ab_t1 (i := 155) (by decide +kernel) (by decide +kernel)
theorem fX3_34 : Cond.fieldLink RX3 34 "CanonNames$Graph" "groups" "LCanonNames$Groups;" ∈ ab_U := ab_t1 (i := 168) (by decide +kernel) (by decide +kernel)
theorem fX3_38 : Cond.fieldLink RX3 38 "CanonNames$Groups" "rank" "[I" ∈ ab_U := ab_t1 (i := 65) (by decide +kernel) (by decide +kernel)
theorem fX3_43 : Cond.fieldLink RX3 43 "CanonNames$Groups" "order" "[I" ∈ ab_U := ab_t1 (i := 61) (by decide +kernel) (by decide +kernel)
theorem fX3_54 : Cond.fieldLink RX3 54 "CanonNames$Graph" "keys" "[I" ∈ ab_U := ab_t1 (i := 144) (by decide +kernel) (by decide +kernel)
theorem fX3_65 : Cond.fieldLink RX3 65 "CanonNames$Groups" "start" "[I" ∈ ab_U := ab_t1 (i := 69) (by decide +kernel) (by decide +kernel)
theorem fX4_9 : Cond.fieldLink RX4 9 "CanonNames$Matcher" "images" "[I" ∈ ab_U := ab_t1 (i := 102) (by decide +kernel) (by decide +kernel)
theorem fX4_15 : Cond.fieldLink RX4 15 "CanonNames$Matcher" "lasts" "[I" ∈ ab_U := ab_t1 (i := 104) (by decide +kernel) (by decide +kernel)
theorem fX4_30 : Cond.fieldLink RX4 30 "CanonNames$Graph" "blanks" "I" ∈ ab_U := ab_t1 (i := 153) (by decide +kernel) (by decide +kernel)
theorem fX4_39 : Cond.fieldLink RX4 39 "CanonNames$Graph" "triples" "I" ∈ ab_U := ab_t1 (i := 158) (by decide +kernel) (by decide +kernel)
theorem fX4_42 : Cond.fieldLink RX4 42 "CanonNames$Graph" "keys" "[I" ∈ ab_U := ab_t1 (i := 146) (by decide +kernel) (by decide +kernel)
theorem fX4_54 : Cond.fieldLink RX4 54 "CanonNames$Graph" "groups" "LCanonNames$Groups;" ∈ ab_U := ab_t1 (i := 170) (by decide +kernel) (by decide +kernel)
theorem fX4_58 : Cond.fieldLink RX4 58 "CanonNames$Groups" "rank" "[I" ∈ ab_U := ab_t1 (i := 67) (by decide +kernel) (by decide +kernel)
theorem fX5_12 : Cond.fieldLink RX5 12 "CanonNames$Named" "form" "LCanonNames$Graph;" ∈ ab_U := ab_t1 (i := 184) (by decide +kernel) (by decide +kernel)
theorem fX5_18 : Cond.fieldLink RX5 18 "CanonNames$Named" "numbers" "[I" ∈ ab_U := ab_t1 (i := 186) (by decide +kernel) (by decide +kernel)
theorem fX5_22 : Cond.fieldLink RX5 22 "CanonNames$Named" "digest" "[I" ∈ ab_U := ab_t1 (i := 188) (by decide +kernel) (by decide +kernel)
theorem fX5_25 : Cond.fieldLink RX5 25 "CanonNames$Named" "digested" "Z" ∈ ab_U := ab_t1 (i := 190) (by decide +kernel) (by decide +kernel)
theorem fX5_40 : Cond.fieldLink RX5 40 "CanonNames$Graph" "triples" "I" ∈ ab_U := ab_t1 (i := 156) (by decide +kernel) (by decide +kernel)
theorem fX5_44 : Cond.fieldLink RX5 44 "CanonNames$Graph" "keys" "[I" ∈ ab_U := ab_t1 (i := 145) (by decide +kernel) (by decide +kernel)
theorem fX6_9 : Cond.fieldLink RX6 9 "CanonNames$Sha" "state" "[I" ∈ ab_U := ab_t1 (i := 31) (by decide +kernel) (by decide +kernel)
theorem fX6_15 : Cond.fieldLink RX6 15 "CanonNames$Sha" "words" "[I" ∈ ab_U := ab_t1 (i := 32) (by decide +kernel) (by decide +kernel)
theorem fX6_18 : Cond.fieldLink RX6 18 "CanonNames$Sha" "filled" "I" ∈ ab_U := ab_t1 (i := 33) (by decide +kernel) (by decide +kernel)
theorem fX6_22 : Cond.fieldLink RX6 22 "CanonNames$Sha" "length" "I" ∈ ab_U := ab_t1 (i := 34) (by decide +kernel) (by decide +kernel)
theorem fX6_25 : Cond.fieldLink RX6 25 "CanonNames$Sha" "START" "[I" ∈ ab_U := ab_t2 (i := 75) (by decide +kernel) (by decide +kernel)
theorem fX6_41 : Cond.fieldLink RX6 41 "CanonNames$Sha" "STEPS" "[I" ∈ ab_U := ab_t2 (i := 90) (by decide +kernel) (by decide +kernel)
theorem fX7_10 : Cond.fieldLink RX7 10 "CanonNames" "sha" "LCanonNames$Sha;" ∈ ab_U := ab_t1 (i := 203) (by decide +kernel) (by decide +kernel)
theorem fX7_21 : Cond.fieldLink RX7 21 "CanonNames" "hasher" "LCanonNames$Hasher;" ∈ ab_U := ab_t1 (i := 204) (by decide +kernel) (by decide +kernel)
theorem fX7_28 : Cond.fieldLink RX7 28 "CanonNames" "matcher" "LCanonNames$Matcher;" ∈ ab_U := ab_t1 (i := 205) (by decide +kernel) (by decide +kernel)
theorem fX7_35 : Cond.fieldLink RX7 35 "CanonNames" "leastRow" "LCanonNames$LeastRow;" ∈ ab_U := ab_t1 (i := 206) (by decide +kernel) (by decide +kernel)
theorem fX7_42 : Cond.fieldLink RX7 42 "CanonNames" "latest" "LCanonNames$Named;" ∈ ab_U := ab_t1 (i := 207) (by decide +kernel) (by decide +kernel)
theorem fX7_48 : Cond.fieldLink RX7 48 "CanonNames" "kept" "[LCanonNames$Graph;" ∈ ab_U := ab_t1 (i := 208) (by decide +kernel) (by decide +kernel)
theorem fX7_52 : Cond.fieldLink RX7 52 "CanonNames" "keptCount" "I" ∈ ab_U := ab_t1 (i := 209) (by decide +kernel) (by decide +kernel)
theorem fX7_57 : Cond.fieldLink RX7 57 "CanonNames" "graph" "LCanonNames$Graph;" ∈ ab_U := ab_t1 (i := 210) (by decide +kernel) (by decide +kernel)
theorem fX7_61 : Cond.fieldLink RX7 61 "CanonNames$Graph" "blanks" "I" ∈ ab_U := ab_t1 (i := 151) (by decide +kernel) (by decide +kernel)
theorem fX7_64 : Cond.fieldLink RX7 64 "CanonNames$Graph" "hashed" "Z" ∈ ab_U := ab_t1 (i := 162) (by decide +kernel) (by decide +kernel)
theorem fX7_80 : Cond.fieldLink RX7 80 "CanonNames$Graph" "triples" "I" ∈ ab_U := ab_t1 (i := 157) (by decide +kernel) (by decide +kernel)
theorem fX7_94 : Cond.fieldLink RX7 94 "CanonNames$Graph" "groups" "LCanonNames$Groups;" ∈ ab_U := ab_t1 (i := 169) (by decide +kernel) (by decide +kernel)
theorem fX7_104 : Cond.fieldLink RX7 104 "CanonNames$Named" "form" "LCanonNames$Graph;" ∈ ab_U := ab_t1 (i := 185) (by decide +kernel) (by decide +kernel)
theorem fX7_115 : Cond.fieldLink RX7 115 "CanonNames$Matcher" "images" "[I" ∈ ab_U := ab_t1 (i := 103) (by decide +kernel) (by decide +kernel)
theorem fX7_127 : Cond.fieldLink RX7 127 "CanonNames$Named" "numbers" "[I" ∈ ab_U := ab_t1 (i := 187) (by decide +kernel) (by decide +kernel)
theorem fX7_130 : Cond.fieldLink RX7 130 "CanonNames$Graph" "keys" "[I" ∈ ab_U := ab_t1 (i := 148) (by decide +kernel) (by decide +kernel)
theorem fX7_147 : Cond.fieldLink RX7 147 "CanonNames$Named" "digest" "[I" ∈ ab_U := ab_t1 (i := 189) (by decide +kernel) (by decide +kernel)
theorem fX7_150 : Cond.fieldLink RX7 150 "CanonNames$Groups" "hashes" "[I" ∈ ab_U := ab_t1 (i := 59) (by decide +kernel) (by decide +kernel)
theorem fX7_153 : Cond.fieldLink RX7 153 "CanonNames$Graph" "rounds" "I" ∈ ab_U := ab_t1 (i := 165) (by decide +kernel) (by decide +kernel)
theorem fX7_156 : Cond.fieldLink RX7 156 "CanonNames$Groups" "count" "I" ∈ ab_U := ab_t1 (i := 74) (by decide +kernel) (by decide +kernel)
theorem fX7_163 : Cond.fieldLink RX7 163 "CanonNames$Groups" "order" "[I" ∈ ab_U := ab_t1 (i := 63) (by decide +kernel) (by decide +kernel)
theorem fX7_166 : Cond.fieldLink RX7 166 "CanonNames$Groups" "start" "[I" ∈ ab_U := ab_t1 (i := 71) (by decide +kernel) (by decide +kernel)
theorem fX8_1 : Cond.fieldLink RX8 1 "CanonNamesModel" "thrown" "I" ∈ ab_U := ab_t3 (i := 214) (by decide +kernel) (by decide +kernel)
theorem fX8_141 : Cond.fieldLink RX8 141 "CanonNamesModel" "constants" "[J" ∈ ab_U := ab_t3 (i := 189) (by decide +kernel) (by decide +kernel)
theorem fX8_145 : Cond.fieldLink RX8 145 "CanonNamesModel" "blanks" "[I" ∈ ab_U := ab_t3 (i := 190) (by decide +kernel) (by decide +kernel)
theorem fX8_149 : Cond.fieldLink RX8 149 "CanonNamesModel" "counts" "[I" ∈ ab_U := ab_t3 (i := 191) (by decide +kernel) (by decide +kernel)
theorem fX8_152 : Cond.fieldLink RX8 152 "CanonNamesModel" "points" "[I" ∈ ab_U := ab_t3 (i := 192) (by decide +kernel) (by decide +kernel)
theorem fX8_155 : Cond.fieldLink RX8 155 "CanonNamesModel" "hashes" "[J" ∈ ab_U := ab_t3 (i := 194) (by decide +kernel) (by decide +kernel)
theorem fX8_158 : Cond.fieldLink RX8 158 "CanonNamesModel" "news" "[J" ∈ ab_U := ab_t3 (i := 195) (by decide +kernel) (by decide +kernel)
theorem fX8_161 : Cond.fieldLink RX8 161 "CanonNamesModel" "groups" "[I" ∈ ab_U := ab_t3 (i := 198) (by decide +kernel) (by decide +kernel)
theorem fX8_164 : Cond.fieldLink RX8 164 "CanonNamesModel" "groupOf" "[I" ∈ ab_U := ab_t3 (i := 199) (by decide +kernel) (by decide +kernel)
theorem fX8_167 : Cond.fieldLink RX8 167 "CanonNamesModel" "trial" "[I" ∈ ab_U := ab_t3 (i := 201) (by decide +kernel) (by decide +kernel)
theorem fX8_170 : Cond.fieldLink RX8 170 "CanonNamesModel" "row" "[I" ∈ ab_U := ab_t3 (i := 202) (by decide +kernel) (by decide +kernel)
theorem fX8_173 : Cond.fieldLink RX8 173 "CanonNamesModel" "names" "[I" ∈ ab_U := ab_t3 (i := 203) (by decide +kernel) (by decide +kernel)
theorem fX8_176 : Cond.fieldLink RX8 176 "CanonNamesModel" "form" "[I" ∈ ab_U := ab_t3 (i := 205) (by decide +kernel) (by decide +kernel)
theorem fX8_179 : Cond.fieldLink RX8 179 "CanonNamesModel" "octets" "[B" ∈ ab_U := ab_t3 (i := 207) (by decide +kernel) (by decide +kernel)
theorem fX8_183 : Cond.fieldLink RX8 183 "CanonNamesModel" "descriptions" "[I" ∈ ab_U := ab_t3 (i := 208) (by decide +kernel) (by decide +kernel)
theorem fX8_186 : Cond.fieldLink RX8 186 "CanonNamesModel" "message" "[B" ∈ ab_U := ab_t3 (i := 210) (by decide +kernel) (by decide +kernel)
theorem fX8_189 : Cond.fieldLink RX8 189 "CanonNamesModel" "words" "[J" ∈ ab_U := ab_t3 (i := 212) (by decide +kernel) (by decide +kernel)
theorem fX8_192 : Cond.fieldLink RX8 192 "CanonNamesModel" "schedule" "[J" ∈ ab_U := ab_t3 (i := 213) (by decide +kernel) (by decide +kernel)
theorem fX8_195 : Cond.fieldLink RX8 195 "CanonNamesModel" "said" "[Z" ∈ ab_U := ab_t3 (i := 215) (by decide +kernel) (by decide +kernel)
theorem fX8_235 : Cond.fieldLink RX8 235 "CanonNamesModel" "size" "I" ∈ ab_U := ab_t3 (i := 211) (by decide +kernel) (by decide +kernel)
theorem fX8_241 : Cond.fieldLink RX8 241 "CanonNamesModel" "hashed" "Z" ∈ ab_U := ab_t3 (i := 197) (by decide +kernel) (by decide +kernel)
theorem fX8_257 : Cond.fieldLink RX8 257 "CanonNamesModel" "described" "I" ∈ ab_U := ab_t3 (i := 209) (by decide +kernel) (by decide +kernel)
theorem fX8_278 : Cond.fieldLink RX8 278 "CanonNamesModel" "rounds" "I" ∈ ab_U := ab_t3 (i := 196) (by decide +kernel) (by decide +kernel)
theorem fX8_291 : Cond.fieldLink RX8 291 "CanonNamesModel" "groupCount" "I" ∈ ab_U := ab_t3 (i := 200) (by decide +kernel) (by decide +kernel)
theorem fX8_331 : Cond.fieldLink RX8 331 "CanonNamesModel" "namedBlanks" "I" ∈ ab_U := ab_t3 (i := 204) (by decide +kernel) (by decide +kernel)
theorem fX8_334 : Cond.fieldLink RX8 334 "CanonNamesModel" "formCount" "I" ∈ ab_U := ab_t3 (i := 206) (by decide +kernel) (by decide +kernel)
theorem fX8_337 : Cond.fieldLink RX8 337 "CanonNamesModel" "kept" "I" ∈ ab_U := ab_t3 (i := 193) (by decide +kernel) (by decide +kernel)
theorem nL_8 : Cond.classLink RL 8 RX7 ∈ ab_U := ab_t1 (i := 17) (by decide +kernel) (by decide +kernel)
theorem nL_16 : Cond.classLink RL 16 RX8 ∈ ab_U := ab_t3 (i := 93) (by decide +kernel) (by decide +kernel)
theorem nX0_29 : Cond.classLink RX0 29 RX1 ∈ ab_U := ab_t1 (i := 141) (by decide +kernel) (by decide +kernel)
theorem nX2_15 : Cond.classLink RX2 15 RX1 ∈ ab_U := ab_t1 (i := 51) (by decide +kernel) (by decide +kernel)
theorem nX5_9 : Cond.classLink RX5 9 RX0 ∈ ab_U := ab_t1 (i := 135) (by decide +kernel) (by decide +kernel)
theorem nX7_7 : Cond.classLink RX7 7 RX6 ∈ ab_U := ab_t1 (i := 25) (by decide +kernel) (by decide +kernel)
theorem nX7_16 : Cond.classLink RX7 16 RX2 ∈ ab_U := ab_t1 (i := 45) (by decide +kernel) (by decide +kernel)
theorem nX7_25 : Cond.classLink RX7 25 RX4 ∈ ab_U := ab_t1 (i := 96) (by decide +kernel) (by decide +kernel)
theorem nX7_32 : Cond.classLink RX7 32 RX3 ∈ ab_U := ab_t1 (i := 110) (by decide +kernel) (by decide +kernel)
theorem nX7_39 : Cond.classLink RX7 39 RX5 ∈ ab_U := ab_t1 (i := 129) (by decide +kernel) (by decide +kernel)
theorem nX7_46 : Cond.classLink RX7 46 RX0 ∈ ab_U := ab_t1 (i := 200) (by decide +kernel) (by decide +kernel)
theorem kL_33 : Jvm.Cond.constantLong RL 33 (4294967295) ∈ ab_U := ab_t4 (i := 192) (by decide +kernel) (by decide +kernel)
theorem kX1_32 : Jvm.Cond.constant RX1 32 (-2147483648) ∈ ab_U := ab_t2 (i := 50) (by decide +kernel) (by decide +kernel)
theorem kX8_13 : Jvm.Cond.constantLong RX8 13 (1116352408) ∈ ab_U := ab_t3 (i := 99) (by decide +kernel) (by decide +kernel)
theorem kX8_15 : Jvm.Cond.constantLong RX8 15 (1899447441) ∈ ab_U := ab_t3 (i := 100) (by decide +kernel) (by decide +kernel)
theorem kX8_17 : Jvm.Cond.constantLong RX8 17 (3049323471) ∈ ab_U := ab_t3 (i := 101) (by decide +kernel) (by decide +kernel)
theorem kX8_19 : Jvm.Cond.constantLong RX8 19 (3921009573) ∈ ab_U := ab_t3 (i := 102) (by decide +kernel) (by decide +kernel)
theorem kX8_21 : Jvm.Cond.constantLong RX8 21 (961987163) ∈ ab_U := ab_t3 (i := 103) (by decide +kernel) (by decide +kernel)
theorem kX8_23 : Jvm.Cond.constantLong RX8 23 (1508970993) ∈ ab_U := ab_t3 (i := 104) (by decide +kernel) (by decide +kernel)
theorem kX8_25 : Jvm.Cond.constantLong RX8 25 (2453635748) ∈ ab_U := ab_t3 (i := 105) (by decide +kernel) (by decide +kernel)
theorem kX8_27 : Jvm.Cond.constantLong RX8 27 (2870763221) ∈ ab_U := ab_t3 (i := 106) (by decide +kernel) (by decide +kernel)
theorem kX8_29 : Jvm.Cond.constantLong RX8 29 (3624381080) ∈ ab_U := ab_t3 (i := 107) (by decide +kernel) (by decide +kernel)
theorem kX8_31 : Jvm.Cond.constantLong RX8 31 (310598401) ∈ ab_U := ab_t3 (i := 108) (by decide +kernel) (by decide +kernel)
theorem kX8_33 : Jvm.Cond.constantLong RX8 33 (607225278) ∈ ab_U := ab_t3 (i := 109) (by decide +kernel) (by decide +kernel)
theorem kX8_35 : Jvm.Cond.constantLong RX8 35 (1426881987) ∈ ab_U := ab_t3 (i := 110) (by decide +kernel) (by decide +kernel)
theorem kX8_37 : Jvm.Cond.constantLong RX8 37 (1925078388) ∈ ab_U := ab_t3 (i := 111) (by decide +kernel) (by decide +kernel)
theorem kX8_39 : Jvm.Cond.constantLong RX8 39 (2162078206) ∈ ab_U := ab_t3 (i := 112) (by decide +kernel) (by decide +kernel)
theorem kX8_41 : Jvm.Cond.constantLong RX8 41 (2614888103) ∈ ab_U := ab_t3 (i := 113) (by decide +kernel) (by decide +kernel)
theorem kX8_43 : Jvm.Cond.constantLong RX8 43 (3248222580) ∈ ab_U := ab_t3 (i := 114) (by decide +kernel) (by decide +kernel)
theorem kX8_45 : Jvm.Cond.constantLong RX8 45 (3835390401) ∈ ab_U := ab_t3 (i := 115) (by decide +kernel) (by decide +kernel)
theorem kX8_47 : Jvm.Cond.constantLong RX8 47 (4022224774) ∈ ab_U := ab_t3 (i := 116) (by decide +kernel) (by decide +kernel)
theorem kX8_49 : Jvm.Cond.constantLong RX8 49 (264347078) ∈ ab_U := ab_t3 (i := 117) (by decide +kernel) (by decide +kernel)
theorem kX8_51 : Jvm.Cond.constantLong RX8 51 (604807628) ∈ ab_U := ab_t3 (i := 118) (by decide +kernel) (by decide +kernel)
theorem kX8_53 : Jvm.Cond.constantLong RX8 53 (770255983) ∈ ab_U := ab_t3 (i := 119) (by decide +kernel) (by decide +kernel)
theorem kX8_55 : Jvm.Cond.constantLong RX8 55 (1249150122) ∈ ab_U := ab_t3 (i := 120) (by decide +kernel) (by decide +kernel)
theorem kX8_57 : Jvm.Cond.constantLong RX8 57 (1555081692) ∈ ab_U := ab_t3 (i := 121) (by decide +kernel) (by decide +kernel)
theorem kX8_59 : Jvm.Cond.constantLong RX8 59 (1996064986) ∈ ab_U := ab_t3 (i := 122) (by decide +kernel) (by decide +kernel)
theorem kX8_61 : Jvm.Cond.constantLong RX8 61 (2554220882) ∈ ab_U := ab_t3 (i := 123) (by decide +kernel) (by decide +kernel)
theorem kX8_63 : Jvm.Cond.constantLong RX8 63 (2821834349) ∈ ab_U := ab_t3 (i := 124) (by decide +kernel) (by decide +kernel)
theorem kX8_65 : Jvm.Cond.constantLong RX8 65 (2952996808) ∈ ab_U := ab_t3 (i := 125) (by decide +kernel) (by decide +kernel)
theorem kX8_67 : Jvm.Cond.constantLong RX8 67 (3210313671) ∈ ab_U := ab_t3 (i := 126) (by decide +kernel) (by decide +kernel)
theorem kX8_69 : Jvm.Cond.constantLong RX8 69 (3336571891) ∈ ab_U := ab_t3 (i := 127) (by decide +kernel) (by decide +kernel)
theorem kX8_71 : Jvm.Cond.constantLong RX8 71 (3584528711) ∈ ab_U := ab_t3 (i := 128) (by decide +kernel) (by decide +kernel)
theorem kX8_73 : Jvm.Cond.constantLong RX8 73 (113926993) ∈ ab_U := ab_t3 (i := 129) (by decide +kernel) (by decide +kernel)
theorem kX8_75 : Jvm.Cond.constantLong RX8 75 (338241895) ∈ ab_U := ab_t3 (i := 130) (by decide +kernel) (by decide +kernel)
theorem kX8_77 : Jvm.Cond.constantLong RX8 77 (666307205) ∈ ab_U := ab_t3 (i := 131) (by decide +kernel) (by decide +kernel)
theorem kX8_79 : Jvm.Cond.constantLong RX8 79 (773529912) ∈ ab_U := ab_t3 (i := 132) (by decide +kernel) (by decide +kernel)
theorem kX8_81 : Jvm.Cond.constantLong RX8 81 (1294757372) ∈ ab_U := ab_t3 (i := 133) (by decide +kernel) (by decide +kernel)
theorem kX8_83 : Jvm.Cond.constantLong RX8 83 (1396182291) ∈ ab_U := ab_t3 (i := 134) (by decide +kernel) (by decide +kernel)
theorem kX8_85 : Jvm.Cond.constantLong RX8 85 (1695183700) ∈ ab_U := ab_t3 (i := 135) (by decide +kernel) (by decide +kernel)
theorem kX8_87 : Jvm.Cond.constantLong RX8 87 (1986661051) ∈ ab_U := ab_t3 (i := 136) (by decide +kernel) (by decide +kernel)
theorem kX8_89 : Jvm.Cond.constantLong RX8 89 (2177026350) ∈ ab_U := ab_t3 (i := 137) (by decide +kernel) (by decide +kernel)
theorem kX8_91 : Jvm.Cond.constantLong RX8 91 (2456956037) ∈ ab_U := ab_t3 (i := 138) (by decide +kernel) (by decide +kernel)
theorem kX8_93 : Jvm.Cond.constantLong RX8 93 (2730485921) ∈ ab_U := ab_t3 (i := 139) (by decide +kernel) (by decide +kernel)
theorem kX8_95 : Jvm.Cond.constantLong RX8 95 (2820302411) ∈ ab_U := ab_t3 (i := 140) (by decide +kernel) (by decide +kernel)
theorem kX8_97 : Jvm.Cond.constantLong RX8 97 (3259730800) ∈ ab_U := ab_t3 (i := 141) (by decide +kernel) (by decide +kernel)
theorem kX8_99 : Jvm.Cond.constantLong RX8 99 (3345764771) ∈ ab_U := ab_t3 (i := 142) (by decide +kernel) (by decide +kernel)
theorem kX8_101 : Jvm.Cond.constantLong RX8 101 (3516065817) ∈ ab_U := ab_t3 (i := 143) (by decide +kernel) (by decide +kernel)
theorem kX8_103 : Jvm.Cond.constantLong RX8 103 (3600352804) ∈ ab_U := ab_t3 (i := 144) (by decide +kernel) (by decide +kernel)
theorem kX8_105 : Jvm.Cond.constantLong RX8 105 (4094571909) ∈ ab_U := ab_t3 (i := 145) (by decide +kernel) (by decide +kernel)
theorem kX8_107 : Jvm.Cond.constantLong RX8 107 (275423344) ∈ ab_U := ab_t3 (i := 146) (by decide +kernel) (by decide +kernel)
theorem kX8_109 : Jvm.Cond.constantLong RX8 109 (430227734) ∈ ab_U := ab_t3 (i := 147) (by decide +kernel) (by decide +kernel)
theorem kX8_111 : Jvm.Cond.constantLong RX8 111 (506948616) ∈ ab_U := ab_t3 (i := 148) (by decide +kernel) (by decide +kernel)
theorem kX8_113 : Jvm.Cond.constantLong RX8 113 (659060556) ∈ ab_U := ab_t3 (i := 149) (by decide +kernel) (by decide +kernel)
theorem kX8_115 : Jvm.Cond.constantLong RX8 115 (883997877) ∈ ab_U := ab_t3 (i := 150) (by decide +kernel) (by decide +kernel)
theorem kX8_117 : Jvm.Cond.constantLong RX8 117 (958139571) ∈ ab_U := ab_t3 (i := 151) (by decide +kernel) (by decide +kernel)
theorem kX8_119 : Jvm.Cond.constantLong RX8 119 (1322822218) ∈ ab_U := ab_t3 (i := 152) (by decide +kernel) (by decide +kernel)
theorem kX8_121 : Jvm.Cond.constantLong RX8 121 (1537002063) ∈ ab_U := ab_t3 (i := 153) (by decide +kernel) (by decide +kernel)
theorem kX8_123 : Jvm.Cond.constantLong RX8 123 (1747873779) ∈ ab_U := ab_t3 (i := 154) (by decide +kernel) (by decide +kernel)
theorem kX8_125 : Jvm.Cond.constantLong RX8 125 (1955562222) ∈ ab_U := ab_t3 (i := 155) (by decide +kernel) (by decide +kernel)
theorem kX8_127 : Jvm.Cond.constantLong RX8 127 (2024104815) ∈ ab_U := ab_t3 (i := 156) (by decide +kernel) (by decide +kernel)
theorem kX8_129 : Jvm.Cond.constantLong RX8 129 (2227730452) ∈ ab_U := ab_t3 (i := 157) (by decide +kernel) (by decide +kernel)
theorem kX8_131 : Jvm.Cond.constantLong RX8 131 (2361852424) ∈ ab_U := ab_t3 (i := 158) (by decide +kernel) (by decide +kernel)
theorem kX8_133 : Jvm.Cond.constantLong RX8 133 (2428436474) ∈ ab_U := ab_t3 (i := 159) (by decide +kernel) (by decide +kernel)
theorem kX8_135 : Jvm.Cond.constantLong RX8 135 (2756734187) ∈ ab_U := ab_t3 (i := 160) (by decide +kernel) (by decide +kernel)
theorem kX8_137 : Jvm.Cond.constantLong RX8 137 (3204031479) ∈ ab_U := ab_t3 (i := 161) (by decide +kernel) (by decide +kernel)
theorem kX8_139 : Jvm.Cond.constantLong RX8 139 (3329325298) ∈ ab_U := ab_t3 (i := 162) (by decide +kernel) (by decide +kernel)
theorem kX8_206 : Jvm.Cond.constantLong RX8 206 (4294967295) ∈ ab_U := ab_t3 (i := 184) (by decide +kernel) (by decide +kernel)
theorem kX8_208 : Jvm.Cond.constantLong RX8 208 (1779033703) ∈ ab_U := ab_t3 (i := 167) (by decide +kernel) (by decide +kernel)
theorem kX8_210 : Jvm.Cond.constantLong RX8 210 (3144134277) ∈ ab_U := ab_t3 (i := 168) (by decide +kernel) (by decide +kernel)
theorem kX8_212 : Jvm.Cond.constantLong RX8 212 (1013904242) ∈ ab_U := ab_t3 (i := 169) (by decide +kernel) (by decide +kernel)
theorem kX8_214 : Jvm.Cond.constantLong RX8 214 (2773480762) ∈ ab_U := ab_t3 (i := 170) (by decide +kernel) (by decide +kernel)
theorem kX8_216 : Jvm.Cond.constantLong RX8 216 (1359893119) ∈ ab_U := ab_t3 (i := 171) (by decide +kernel) (by decide +kernel)
theorem kX8_218 : Jvm.Cond.constantLong RX8 218 (2600822924) ∈ ab_U := ab_t3 (i := 172) (by decide +kernel) (by decide +kernel)
theorem kX8_220 : Jvm.Cond.constantLong RX8 220 (528734635) ∈ ab_U := ab_t3 (i := 173) (by decide +kernel) (by decide +kernel)
theorem kX8_222 : Jvm.Cond.constantLong RX8 222 (1541459225) ∈ ab_U := ab_t3 (i := 174) (by decide +kernel) (by decide +kernel)
theorem kX8_224 : Jvm.Cond.constantLong RX8 224 (8) ∈ ab_U := ab_t3 (i := 175) (by decide +kernel) (by decide +kernel)
theorem kX8_229 : Jvm.Cond.constantLong RX8 229 (256) ∈ ab_U := ab_t3 (i := 180) (by decide +kernel) (by decide +kernel)
theorem kX8_260 : Jvm.Cond.constantLong RX8 260 (255) ∈ ab_U := ab_t4 (i := 72) (by decide +kernel) (by decide +kernel)
theorem ab_obj1 : Cond.instanceMethod Lib.objectInit ∈ ab_U := ab_t1 (i := 23) (by decide +kernel) (by decide +kernel)
theorem ab_obj2 : Cond.code Lib.objectInit ⟨#[0xb1]⟩ 1 none ∈ ab_U := ab_t1 (i := 24) (by decide +kernel) (by decide +kernel)
theorem ab_max1 : Cond.static Lib.Math.max.name ∈ ab_U := ab_t2 (i := 130) (by decide +kernel) (by decide +kernel)
theorem ab_max2 : Cond.code Lib.Math.max.name Lib.Math.max.code 2 (some .int) ∈ ab_U := ab_t2 (i := 131) (by decide +kernel) (by decide +kernel)
theorem ab_min1 : Cond.static Lib.Math.min.name ∈ ab_U := ab_t2 (i := 123) (by decide +kernel) (by decide +kernel)
theorem ab_min2 : Cond.code Lib.Math.min.name Lib.Math.min.code 2 (some .int) ∈ ab_U := ab_t2 (i := 124) (by decide +kernel) (by decide +kernel)
theorem ab_ma : Cond.initialized "java/lang/Math" ∈ ab_U := ab_t1 (i := 11) (by decide +kernel) (by decide +kernel)
theorem ab_cp : Cond.native arraycopyName ∈ ab_U ∧ Cond.static arraycopyName ∈ ab_U ∧ Cond.initialized "java/lang/System" ∈ ab_U := ⟨ab_t2 (i := 41) (by decide +kernel) (by decide +kernel), ab_t2 (i := 40) (by decide +kernel) (by decide +kernel), ab_t1 (i := 10) (by decide +kernel) (by decide +kernel)⟩
theorem oX0_3 : Cond.methodLink RX0 3 Lib.objectInit ∈ ab_U ∧ Cond.instanceMethod Lib.objectInit ∈ ab_U ∧ Cond.code Lib.objectInit ⟨#[0xb1]⟩ 1 none ∈ ab_U := ⟨ab_t1 (i := 140) (by decide +kernel) (by decide +kernel), ab_obj1, ab_obj2⟩
theorem oX1_3 : Cond.methodLink RX1 3 Lib.objectInit ∈ ab_U ∧ Cond.instanceMethod Lib.objectInit ∈ ab_U ∧ Cond.code Lib.objectInit ⟨#[0xb1]⟩ 1 none ∈ ab_U := ⟨ab_t1 (i := 56) (by decide +kernel) (by decide +kernel), ab_obj1, ab_obj2⟩
theorem oX2_3 : Cond.methodLink RX2 3 Lib.objectInit ∈ ab_U ∧ Cond.instanceMethod Lib.objectInit ∈ ab_U ∧ Cond.code Lib.objectInit ⟨#[0xb1]⟩ 1 none ∈ ab_U := ⟨ab_t1 (i := 50) (by decide +kernel) (by decide +kernel), ab_obj1, ab_obj2⟩
theorem uX2_45 : Cond.methodLink RX2 45 arraycopyName ∈ ab_U ∧ Cond.native arraycopyName ∈ ab_U ∧ Cond.static arraycopyName ∈ ab_U ∧ Cond.initialized "java/lang/System" ∈ ab_U := ⟨ab_t2 (i := 39) (by decide +kernel) (by decide +kernel), ab_cp⟩
theorem oX3_3 : Cond.methodLink RX3 3 Lib.objectInit ∈ ab_U ∧ Cond.instanceMethod Lib.objectInit ∈ ab_U ∧ Cond.code Lib.objectInit ⟨#[0xb1]⟩ 1 none ∈ ab_U := ⟨ab_t1 (i := 115) (by decide +kernel) (by decide +kernel), ab_obj1, ab_obj2⟩
theorem uX3_68 : Cond.methodLink RX3 68 arraycopyName ∈ ab_U ∧ Cond.native arraycopyName ∈ ab_U ∧ Cond.static arraycopyName ∈ ab_U ∧ Cond.initialized "java/lang/System" ∈ ab_U := ⟨ab_t2 (i := 139) (by decide +kernel) (by decide +kernel), ab_cp⟩
theorem uX3_78 : Cond.methodLink RX3 78 Lib.Math.max.name ∈ ab_U ∧ Cond.static Lib.Math.max.name ∈ ab_U ∧ Cond.initialized "java/lang/Math" ∈ ab_U ∧ Cond.code Lib.Math.max.name Lib.Math.max.code 2 (some .int) ∈ ab_U := ⟨ab_t2 (i := 129) (by decide +kernel) (by decide +kernel), ab_max1, ab_ma, ab_max2⟩
theorem uX3_84 : Cond.methodLink RX3 84 Lib.Math.min.name ∈ ab_U ∧ Cond.static Lib.Math.min.name ∈ ab_U ∧ Cond.initialized "java/lang/Math" ∈ ab_U ∧ Cond.code Lib.Math.min.name Lib.Math.min.code 2 (some .int) ∈ ab_U := ⟨ab_t2 (i := 122) (by decide +kernel) (by decide +kernel), ab_min1, ab_ma, ab_min2⟩
theorem oX4_3 : Cond.methodLink RX4 3 Lib.objectInit ∈ ab_U ∧ Cond.instanceMethod Lib.objectInit ∈ ab_U ∧ Cond.code Lib.objectInit ⟨#[0xb1]⟩ 1 none ∈ ab_U := ⟨ab_t1 (i := 101) (by decide +kernel) (by decide +kernel), ab_obj1, ab_obj2⟩
theorem uX4_49 : Cond.methodLink RX4 49 Lib.Math.max.name ∈ ab_U ∧ Cond.static Lib.Math.max.name ∈ ab_U ∧ Cond.initialized "java/lang/Math" ∈ ab_U ∧ Cond.code Lib.Math.max.name Lib.Math.max.code 2 (some .int) ∈ ab_U := ⟨ab_t2 (i := 153) (by decide +kernel) (by decide +kernel), ab_max1, ab_ma, ab_max2⟩
theorem oX5_3 : Cond.methodLink RX5 3 Lib.objectInit ∈ ab_U ∧ Cond.instanceMethod Lib.objectInit ∈ ab_U ∧ Cond.code Lib.objectInit ⟨#[0xb1]⟩ 1 none ∈ ab_U := ⟨ab_t1 (i := 134) (by decide +kernel) (by decide +kernel), ab_obj1, ab_obj2⟩
theorem uX5_29 : Cond.methodLink RX5 29 arraycopyName ∈ ab_U ∧ Cond.native arraycopyName ∈ ab_U ∧ Cond.static arraycopyName ∈ ab_U ∧ Cond.initialized "java/lang/System" ∈ ab_U := ⟨ab_t2 (i := 172) (by decide +kernel) (by decide +kernel), ab_cp⟩
theorem oX6_3 : Cond.methodLink RX6 3 Lib.objectInit ∈ ab_U ∧ Cond.instanceMethod Lib.objectInit ∈ ab_U ∧ Cond.code Lib.objectInit ⟨#[0xb1]⟩ 1 none ∈ ab_U := ⟨ab_t1 (i := 30) (by decide +kernel) (by decide +kernel), ab_obj1, ab_obj2⟩
theorem uX6_28 : Cond.methodLink RX6 28 arraycopyName ∈ ab_U ∧ Cond.native arraycopyName ∈ ab_U ∧ Cond.static arraycopyName ∈ ab_U ∧ Cond.initialized "java/lang/System" ∈ ab_U := ⟨ab_t2 (i := 77) (by decide +kernel) (by decide +kernel), ab_cp⟩
theorem oX7_1 : Cond.methodLink RX7 1 Lib.objectInit ∈ ab_U ∧ Cond.instanceMethod Lib.objectInit ∈ ab_U ∧ Cond.code Lib.objectInit ⟨#[0xb1]⟩ 1 none ∈ ab_U := ⟨ab_t1 (i := 22) (by decide +kernel) (by decide +kernel), ab_obj1, ab_obj2⟩
theorem oX8_7 : Cond.methodLink RX8 7 Lib.objectInit ∈ ab_U ∧ Cond.instanceMethod Lib.objectInit ∈ ab_U ∧ Cond.code Lib.objectInit ⟨#[0xb1]⟩ 1 none ∈ ab_U := ⟨ab_t3 (i := 98) (by decide +kernel) (by decide +kernel), ab_obj1, ab_obj2⟩
-- no code word: L_octet
theorem zX0_hasPoints : ab_cl0 mX0_hasPoints := ⟨ab_t1 (i := 239) (by decide +kernel) (by decide +kernel), jC1, by decide, by decide, by decide⟩
theorem zX0_hasSizesOf : ab_cl0 mX0_hasSizesOf := ⟨ab_t2 (i := 218) (by decide +kernel) (by decide +kernel), jC1, by decide, by decide, by decide⟩
theorem zX0_holds : ab_cl0 mX0_holds := ⟨ab_t2 (i := 10) (by decide +kernel) (by decide +kernel), jC1, by decide, by decide, by decide⟩
theorem zX0_init : ab_cl0 mX0_init := ⟨ab_t1 (i := 139) (by decide +kernel) (by decide +kernel), jC1, by decide, by decide, by decide⟩
theorem zX0_insert : ab_cl0 mX0_insert := ⟨ab_t2 (i := 17) (by decide +kernel) (by decide +kernel), jC1, by decide, by decide, by decide⟩
theorem zX0_isPoint : ab_cl0 mX0_isPoint := ⟨ab_t2 (i := 3) (by decide +kernel) (by decide +kernel), jC1, by decide, by decide, by decide⟩
theorem zX0_remove : ab_cl0 mX0_remove := ⟨ab_t2 (i := 28) (by decide +kernel) (by decide +kernel), jC1, by decide, by decide, by decide⟩
theorem zX1_arrange : ab_cl0 mX1_arrange := ⟨ab_t2 (i := 45) (by decide +kernel) (by decide +kernel), jC2, by decide, by decide, by decide⟩
theorem zX1_compareHashes : ab_cl0 mX1_compareHashes := ⟨ab_t2 (i := 49) (by decide +kernel) (by decide +kernel), jC2, by decide, by decide, by decide⟩
theorem zX1_hasHashesOf : ab_cl0 mX1_hasHashesOf := ⟨ab_t2 (i := 222) (by decide +kernel) (by decide +kernel), jC2, by decide, by decide, by decide⟩
theorem zX1_init : ab_cl0 mX1_init := ⟨ab_t1 (i := 55) (by decide +kernel) (by decide +kernel), jC2, by decide, by decide, by decide⟩
theorem zX1_namings : ab_cl0 mX1_namings := ⟨ab_t2 (i := 105) (by decide +kernel) (by decide +kernel), jC2, by decide, by decide, by decide⟩
theorem zX1_sizeOf : ab_cl0 mX1_sizeOf := ⟨ab_t2 (i := 109) (by decide +kernel) (by decide +kernel), jC2, by decide, by decide, by decide⟩
theorem zX2_describe : ab_cl0 mX2_describe := ⟨ab_t2 (i := 58) (by decide +kernel) (by decide +kernel), jC3, by decide, by decide, by decide⟩
theorem zX2_init : ab_cl0 mX2_init := ⟨ab_t1 (i := 49) (by decide +kernel) (by decide +kernel), jC3, by decide, by decide, by decide⟩
theorem zX2_makesMore : ab_cl0 mX2_makesMore := ⟨ab_t2 (i := 54) (by decide +kernel) (by decide +kernel), jC3, by decide, by decide, by decide⟩
theorem zX2_partFor : ab_cl0 mX2_partFor := ⟨ab_t2 (i := 67) (by decide +kernel) (by decide +kernel), jC3, by decide, by decide, by decide⟩
theorem zX2_putContent : ab_cl0 mX2_putContent := ⟨ab_t2 (i := 81) (by decide +kernel) (by decide +kernel), jC3, by decide, by decide, by decide⟩
theorem zX2_refresh : ab_cl0 mX2_refresh := ⟨ab_t2 (i := 36) (by decide +kernel) (by decide +kernel), jC3, by decide, by decide, by decide⟩
theorem zX2_takeRound : ab_cl0 mX2_takeRound := ⟨ab_t2 (i := 101) (by decide +kernel) (by decide +kernel), jC3, by decide, by decide, by decide⟩
theorem zX3_compare : ab_cl0 mX3_compare := ⟨ab_t2 (i := 134) (by decide +kernel) (by decide +kernel), jC4, by decide, by decide, by decide⟩
theorem zX3_find : ab_cl0 mX3_find := ⟨ab_t2 (i := 113) (by decide +kernel) (by decide +kernel), jC4, by decide, by decide, by decide⟩
theorem zX3_greatestDifference : ab_cl0 mX3_greatestDifference := ⟨ab_t2 (i := 143) (by decide +kernel) (by decide +kernel), jC4, by decide, by decide, by decide⟩
theorem zX3_init : ab_cl0 mX3_init := ⟨ab_t1 (i := 114) (by decide +kernel) (by decide +kernel), jC4, by decide, by decide, by decide⟩
theorem zX3_layTrial : ab_cl0 mX3_layTrial := ⟨ab_t2 (i := 121) (by decide +kernel) (by decide +kernel), jC4, by decide, by decide, by decide⟩
theorem zX3_search : ab_cl0 mX3_search := ⟨ab_t2 (i := 117) (by decide +kernel) (by decide +kernel), jC4, by decide, by decide, by decide⟩
theorem zX3_settle : ab_cl0 mX3_settle := ⟨ab_t2 (i := 138) (by decide +kernel) (by decide +kernel), jC4, by decide, by decide, by decide⟩
theorem zX4_automorphisms : ab_cl0 mX4_automorphisms := ⟨ab_t2 (i := 176) (by decide +kernel) (by decide +kernel), jC5, by decide, by decide, by decide⟩
theorem zX4_completes : ab_cl0 mX4_completes := ⟨ab_t2 (i := 163) (by decide +kernel) (by decide +kernel), jC5, by decide, by decide, by decide⟩
theorem zX4_fits : ab_cl0 mX4_fits := ⟨ab_t2 (i := 167) (by decide +kernel) (by decide +kernel), jC5, by decide, by decide, by decide⟩
theorem zX4_init : ab_cl0 mX4_init := ⟨ab_t1 (i := 100) (by decide +kernel) (by decide +kernel), jC5, by decide, by decide, by decide⟩
theorem zX4_keepsTriples : ab_cl0 mX4_keepsTriples := ⟨ab_t2 (i := 157) (by decide +kernel) (by decide +kernel), jC5, by decide, by decide, by decide⟩
theorem zX4_matches : ab_cl0 mX4_matches := ⟨ab_t2 (i := 147) (by decide +kernel) (by decide +kernel), jC5, by decide, by decide, by decide⟩
theorem zX4_readLasts : ab_cl0 mX4_readLasts := ⟨ab_t2 (i := 151) (by decide +kernel) (by decide +kernel), jC5, by decide, by decide, by decide⟩
theorem zX5_adopt : ab_cl0 mX5_adopt := ⟨ab_t2 (i := 171) (by decide +kernel) (by decide +kernel), jC6, by decide, by decide, by decide⟩
theorem zX5_init : ab_cl0 mX5_init := ⟨ab_t1 (i := 133) (by decide +kernel) (by decide +kernel), jC6, by decide, by decide, by decide⟩
theorem zX5_refreshDigest : ab_cl0 mX5_refreshDigest := ⟨ab_t3 (i := 84) (by decide +kernel) (by decide +kernel), jC6, by decide, by decide, by decide⟩
theorem zX6_begin : ab_cl0 mX6_begin := ⟨ab_t2 (i := 74) (by decide +kernel) (by decide +kernel), jC7, by decide, by decide, by decide⟩
theorem zX6_end : ab_cl0 mX6_end := ⟨ab_t2 (i := 96) (by decide +kernel) (by decide +kernel), jC7, by decide, by decide, by decide⟩
theorem zX6_init : ab_cl0 mX6_init := ⟨ab_t1 (i := 29) (by decide +kernel) (by decide +kernel), jC7, by decide, by decide, by decide⟩
theorem zX6_mix : ab_cl0 mX6_mix := ⟨ab_t2 (i := 89) (by decide +kernel) (by decide +kernel), jC7, by decide, by decide, by decide⟩
theorem zX6_put : ab_cl0 mX6_put := ⟨ab_t2 (i := 85) (by decide +kernel) (by decide +kernel), jC7, by decide, by decide, by decide⟩
theorem zX7_becomes : ab_cl0 mX7_becomes := ⟨ab_t2 (i := 214) (by decide +kernel) (by decide +kernel), jC8, by decide, by decide, by decide⟩
theorem zX7_blank : ab_cl0 mX7_blank := ⟨ab_t1 (i := 231) (by decide +kernel) (by decide +kernel), jC8, by decide, by decide, by decide⟩
theorem zX7_blanks : ab_cl0 mX7_blanks := ⟨ab_t3 (i := 1) (by decide +kernel) (by decide +kernel), jC8, by decide, by decide, by decide⟩
theorem zX7_drop : ab_cl0 mX7_drop := ⟨ab_t2 (i := 24) (by decide +kernel) (by decide +kernel), jC8, by decide, by decide, by decide⟩
theorem zX7_equal : ab_cl0 mX7_equal := ⟨ab_t2 (i := 230) (by decide +kernel) (by decide +kernel), jC8, by decide, by decide, by decide⟩
theorem zX7_first : ab_cl0 mX7_first := ⟨ab_t2 (i := 197) (by decide +kernel) (by decide +kernel), jC8, by decide, by decide, by decide⟩
theorem zX7_form : ab_cl0 mX7_form := ⟨ab_t2 (i := 184) (by decide +kernel) (by decide +kernel), jC8, by decide, by decide, by decide⟩
theorem zX7_hash : ab_cl0 mX7_hash := ⟨ab_t2 (i := 189) (by decide +kernel) (by decide +kernel), jC8, by decide, by decide, by decide⟩
theorem zX7_init : ab_cl0 mX7_init := ⟨ab_t1 (i := 21) (by decide +kernel) (by decide +kernel), jC8, by decide, by decide, by decide⟩
theorem zX7_isIn : ab_cl0 mX7_isIn := ⟨ab_t2 (i := 13) (by decide +kernel) (by decide +kernel), jC8, by decide, by decide, by decide⟩
theorem zX7_isomorphic : ab_cl0 mX7_isomorphic := ⟨ab_t2 (i := 206) (by decide +kernel) (by decide +kernel), jC8, by decide, by decide, by decide⟩
theorem zX7_keep : ab_cl0 mX7_keep := ⟨ab_t2 (i := 202) (by decide +kernel) (by decide +kernel), jC8, by decide, by decide, by decide⟩
theorem zX7_keptAt : ab_cl0 mX7_keptAt := ⟨ab_t2 (i := 210) (by decide +kernel) (by decide +kernel), jC8, by decide, by decide, by decide⟩
theorem zX7_keyOf : ab_cl0 mX7_keyOf := ⟨ab_t2 (i := 6) (by decide +kernel) (by decide +kernel), jC8, by decide, by decide, by decide⟩
theorem zX7_name : ab_cl0 mX7_name := ⟨ab_t2 (i := 32) (by decide +kernel) (by decide +kernel), jC8, by decide, by decide, by decide⟩
theorem zX7_named : ab_cl0 mX7_named := ⟨ab_t2 (i := 180) (by decide +kernel) (by decide +kernel), jC8, by decide, by decide, by decide⟩
theorem zX7_octet : ab_cl0 mX7_octet := ⟨ab_t3 (i := 9) (by decide +kernel) (by decide +kernel), jC8, by decide, by decide, by decide⟩
theorem zX7_partAt : ab_cl0 mX7_partAt := ⟨ab_t2 (i := 64) (by decide +kernel) (by decide +kernel), jC8, by decide, by decide, by decide⟩
theorem zX7_placeFor : ab_cl0 mX7_placeFor := ⟨ab_t2 (i := 20) (by decide +kernel) (by decide +kernel), jC8, by decide, by decide, by decide⟩
theorem zX7_pointAt : ab_cl0 mX7_pointAt := ⟨ab_t2 (i := 61) (by decide +kernel) (by decide +kernel), jC8, by decide, by decide, by decide⟩
theorem zX7_renumbered : ab_cl0 mX7_renumbered := ⟨ab_t2 (i := 127) (by decide +kernel) (by decide +kernel), jC8, by decide, by decide, by decide⟩
theorem zX7_rounds : ab_cl0 mX7_rounds := ⟨ab_t2 (i := 193) (by decide +kernel) (by decide +kernel), jC8, by decide, by decide, by decide⟩
theorem zX7_sameRows : ab_cl0 mX7_sameRows := ⟨ab_t2 (i := 233) (by decide +kernel) (by decide +kernel), jC8, by decide, by decide, by decide⟩
theorem zX7_sort : ab_cl0 mX7_sort := ⟨ab_t2 (i := 70) (by decide +kernel) (by decide +kernel), jC8, by decide, by decide, by decide⟩
theorem zX7_triple : ab_cl0 mX7_triple := ⟨ab_t1 (i := 235) (by decide +kernel) (by decide +kernel), jC8, by decide, by decide, by decide⟩
theorem zX7_triples : ab_cl0 mX7_triples := ⟨ab_t2 (i := 237) (by decide +kernel) (by decide +kernel), jC8, by decide, by decide, by decide⟩
theorem zX7_ways : ab_cl0 mX7_ways := ⟨ab_t2 (i := 226) (by decide +kernel) (by decide +kernel), jC8, by decide, by decide, by decide⟩
theorem zX8_at : ab_cl0 mX8_at := ⟨ab_t4 (i := 51) (by decide +kernel) (by decide +kernel), jC9, by decide, by decide, by decide⟩
theorem zX8_becomes : ab_cl0 mX8_becomes := ⟨ab_t4 (i := 174) (by decide +kernel) (by decide +kernel), jC9, by decide, by decide, by decide⟩
theorem zX8_begin : ab_cl0 mX8_begin := ⟨ab_t4 (i := 115) (by decide +kernel) (by decide +kernel), jC9, by decide, by decide, by decide⟩
theorem zX8_blank : ab_cl0 mX8_blank := ⟨ab_t4 (i := 36) (by decide +kernel) (by decide +kernel), jC9, by decide, by decide, by decide⟩
theorem zX8_blanks : ab_cl0 mX8_blanks := ⟨ab_t4 (i := 191) (by decide +kernel) (by decide +kernel), jC9, by decide, by decide, by decide⟩
theorem zX8_block : ab_cl0 mX8_block := ⟨ab_t3 (i := 179) (by decide +kernel) (by decide +kernel), jC9, by decide, by decide, by decide⟩
theorem zX8_change : ab_cl0 mX8_change := ⟨ab_t4 (i := 146) (by decide +kernel) (by decide +kernel), jC9, by decide, by decide, by decide⟩
theorem zX8_compare : ab_cl0 mX8_compare := ⟨ab_t4 (i := 91) (by decide +kernel) (by decide +kernel), jC9, by decide, by decide, by decide⟩
theorem zX8_compareForm : ab_cl0 mX8_compareForm := ⟨ab_t4 (i := 134) (by decide +kernel) (by decide +kernel), jC9, by decide, by decide, by decide⟩
theorem zX8_compareTriples : ab_cl0 mX8_compareTriples := ⟨ab_t4 (i := 130) (by decide +kernel) (by decide +kernel), jC9, by decide, by decide, by decide⟩
theorem zX8_describe : ab_cl0 mX8_describe := ⟨ab_t4 (i := 71) (by decide +kernel) (by decide +kernel), jC9, by decide, by decide, by decide⟩
theorem zX8_different : ab_cl0 mX8_different := ⟨ab_t4 (i := 88) (by decide +kernel) (by decide +kernel), jC9, by decide, by decide, by decide⟩
theorem zX8_digestOf : ab_cl0 mX8_digestOf := ⟨ab_t3 (i := 166) (by decide +kernel) (by decide +kernel), jC9, by decide, by decide, by decide⟩
theorem zX8_drop : ab_cl0 mX8_drop := ⟨ab_t4 (i := 55) (by decide +kernel) (by decide +kernel), jC9, by decide, by decide, by decide⟩
theorem zX8_equal : ab_cl0 mX8_equal := ⟨ab_t4 (i := 183) (by decide +kernel) (by decide +kernel), jC9, by decide, by decide, by decide⟩
theorem zX8_find : ab_cl0 mX8_find := ⟨ab_t4 (i := 48) (by decide +kernel) (by decide +kernel), jC9, by decide, by decide, by decide⟩
theorem zX8_first : ab_cl0 mX8_first := ⟨ab_t4 (i := 103) (by decide +kernel) (by decide +kernel), jC9, by decide, by decide, by decide⟩
theorem zX8_form : ab_cl0 mX8_form := ⟨ab_t4 (i := 154) (by decide +kernel) (by decide +kernel), jC9, by decide, by decide, by decide⟩
theorem zX8_hash : ab_cl0 mX8_hash := ⟨ab_t4 (i := 59) (by decide +kernel) (by decide +kernel), jC9, by decide, by decide, by decide⟩
theorem zX8_init : ab_cl0 mX8_init := ⟨ab_t3 (i := 97) (by decide +kernel) (by decide +kernel), jC9, by decide, by decide, by decide⟩
theorem zX8_isBefore : ab_cl0 mX8_isBefore := ⟨ab_t4 (i := 84) (by decide +kernel) (by decide +kernel), jC9, by decide, by decide, by decide⟩
theorem zX8_isKept : ab_cl0 mX8_isKept := ⟨ab_t4 (i := 170) (by decide +kernel) (by decide +kernel), jC9, by decide, by decide, by decide⟩
theorem zX8_isNaming : ab_cl0 mX8_isNaming := ⟨ab_t4 (i := 119) (by decide +kernel) (by decide +kernel), jC9, by decide, by decide, by decide⟩
theorem zX8_isPoint : ab_cl0 mX8_isPoint := ⟨ab_t4 (i := 44) (by decide +kernel) (by decide +kernel), jC9, by decide, by decide, by decide⟩
theorem zX8_isomorphic : ab_cl0 mX8_isomorphic := ⟨ab_t4 (i := 178) (by decide +kernel) (by decide +kernel), jC9, by decide, by decide, by decide⟩
theorem zX8_keep : ab_cl0 mX8_keep := ⟨ab_t4 (i := 162) (by decide +kernel) (by decide +kernel), jC9, by decide, by decide, by decide⟩
theorem zX8_makeGroups : ab_cl0 mX8_makeGroups := ⟨ab_t4 (i := 95) (by decide +kernel) (by decide +kernel), jC9, by decide, by decide, by decide⟩
theorem zX8_makeHashes : ab_cl0 mX8_makeHashes := ⟨ab_t4 (i := 63) (by decide +kernel) (by decide +kernel), jC9, by decide, by decide, by decide⟩
theorem zX8_makeRow : ab_cl0 mX8_makeRow := ⟨ab_t4 (i := 123) (by decide +kernel) (by decide +kernel), jC9, by decide, by decide, by decide⟩
theorem zX8_name : ab_cl0 mX8_name := ⟨ab_t4 (i := 107) (by decide +kernel) (by decide +kernel), jC9, by decide, by decide, by decide⟩
theorem zX8_named : ab_cl0 mX8_named := ⟨ab_t4 (i := 150) (by decide +kernel) (by decide +kernel), jC9, by decide, by decide, by decide⟩
theorem zX8_namings : ab_cl0 mX8_namings := ⟨ab_t4 (i := 111) (by decide +kernel) (by decide +kernel), jC9, by decide, by decide, by decide⟩
theorem zX8_next : ab_cl0 mX8_next := ⟨ab_t4 (i := 67) (by decide +kernel) (by decide +kernel), jC9, by decide, by decide, by decide⟩
theorem zX8_numbered : ab_cl0 mX8_numbered := ⟨ab_t4 (i := 127) (by decide +kernel) (by decide +kernel), jC9, by decide, by decide, by decide⟩
theorem zX8_octet : ab_cl0 mX8_octet := ⟨ab_t4 (i := 158) (by decide +kernel) (by decide +kernel), jC9, by decide, by decide, by decide⟩
theorem zX8_octetsOf : ab_cl0 mX8_octetsOf := ⟨ab_t3 (i := 188) (by decide +kernel) (by decide +kernel), jC9, by decide, by decide, by decide⟩
theorem zX8_rounds : ab_cl0 mX8_rounds := ⟨ab_t4 (i := 99) (by decide +kernel) (by decide +kernel), jC9, by decide, by decide, by decide⟩
theorem zX8_say : ab_cl0 mX8_say := ⟨ab_t4 (i := 80) (by decide +kernel) (by decide +kernel), jC9, by decide, by decide, by decide⟩
theorem zX8_sayNumber : ab_cl0 mX8_sayNumber := ⟨ab_t4 (i := 76) (by decide +kernel) (by decide +kernel), jC9, by decide, by decide, by decide⟩
theorem zX8_take : ab_cl0 mX8_take := ⟨ab_t4 (i := 138) (by decide +kernel) (by decide +kernel), jC9, by decide, by decide, by decide⟩
theorem zX8_thrown : ab_cl0 mX8_thrown := ⟨ab_t3 (i := 92) (by decide +kernel) (by decide +kernel), jC9, by decide, by decide, by decide⟩
theorem zX8_triple : ab_cl0 mX8_triple := ⟨ab_t4 (i := 40) (by decide +kernel) (by decide +kernel), jC9, by decide, by decide, by decide⟩
theorem zX8_triples : ab_cl0 mX8_triples := ⟨ab_t4 (i := 187) (by decide +kernel) (by decide +kernel), jC9, by decide, by decide, by decide⟩
theorem zX8_turn : ab_cl0 mX8_turn := ⟨ab_t4 (i := 142) (by decide +kernel) (by decide +kernel), jC9, by decide, by decide, by decide⟩
theorem zX8_turned : ab_cl0 mX8_turned := ⟨ab_t3 (i := 183) (by decide +kernel) (by decide +kernel), jC9, by decide, by decide, by decide⟩
theorem zX8_ways : ab_cl0 mX8_ways := ⟨ab_t4 (i := 166) (by decide +kernel) (by decide +kernel), jC9, by decide, by decide, by decide⟩
end
