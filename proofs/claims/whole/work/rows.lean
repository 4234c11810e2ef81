section
-- ===== PART A: goes FIRST, ahead of the names: the tables' words, and 'selects' of the private methods out of them =====
/-- a private method of a class that the tables say can be made, by its rows of tables_1 -/
def lw_okq (q : MethodName × Nat) : Prop := (q.1.cls ≠ "java/lang/invoke/MethodHandle" ∧ q.1.cls ≠ "java/lang/invoke/VarHandle") ∧ Cond.instantiable q.1.cls q.2 ∈ tables_1 ∧ Cond.privateMethod q.1 ∈ tables_1 ∧ Cond.instanceMethod q.1 ∈ tables_1
theorem lw_p0 : lw_okq (⟨"CanonNames$Graph", "isPoint", "(I)Z"⟩, 6) := ⟨⟨by decide +kernel, by decide +kernel⟩, List.mem_of_getElem? (i := 136) (by decide +kernel), List.mem_of_getElem? (i := 241) (by decide +kernel), List.mem_of_getElem? (i := 242) (by decide +kernel)⟩
theorem lw_p1 : lw_okq (⟨"CanonNames$Groups", "compareHashes", "(II)I"⟩, 5) := ⟨⟨by decide +kernel, by decide +kernel⟩, List.mem_of_getElem? (i := 52) (by decide +kernel), List.mem_of_getElem? (i := 287) (by decide +kernel), List.mem_of_getElem? (i := 288) (by decide +kernel)⟩
theorem lw_p2 : lw_okq (⟨"CanonNames$Hasher", "makesMore", "(LCanonNames$Graph;)Z"⟩, 3) := ⟨⟨by decide +kernel, by decide +kernel⟩, List.mem_of_getElem? (i := 46) (by decide +kernel), List.mem_of_getElem? (i := 292) (by decide +kernel), List.mem_of_getElem? (i := 293) (by decide +kernel)⟩
theorem lw_p3 : lw_okq (⟨"CanonNames$Hasher", "describe", "(LCanonNames$Graph;I)I"⟩, 3) := ⟨⟨by decide +kernel, by decide +kernel⟩, List.mem_of_getElem? (i := 46) (by decide +kernel), List.mem_of_getElem? (i := 296) (by decide +kernel), List.mem_of_getElem? (i := 297) (by decide +kernel)⟩
theorem lw_p4 : lw_okq (⟨"CanonNames$Hasher", "putContent", "(LCanonNames$Groups;I)V"⟩, 3) := ⟨⟨by decide +kernel, by decide +kernel⟩, List.mem_of_getElem? (i := 46) (by decide +kernel), List.mem_of_getElem? (i := 319) (by decide +kernel), List.mem_of_getElem? (i := 320) (by decide +kernel)⟩
theorem lw_p5 : lw_okq (⟨"CanonNames$Sha", "mix", "()V"⟩, 4) := ⟨⟨by decide +kernel, by decide +kernel⟩, List.mem_of_getElem? (i := 26) (by decide +kernel), List.mem_of_getElem? (i := 327) (by decide +kernel), List.mem_of_getElem? (i := 328) (by decide +kernel)⟩
theorem lw_p6 : lw_okq (⟨"CanonNames$Hasher", "takeRound", "(LCanonNames$Graph;)V"⟩, 3) := ⟨⟨by decide +kernel, by decide +kernel⟩, List.mem_of_getElem? (i := 46) (by decide +kernel), List.mem_of_getElem? (i := 339) (by decide +kernel), List.mem_of_getElem? (i := 340) (by decide +kernel)⟩
theorem lw_p7 : lw_okq (⟨"CanonNames$LeastRow", "search", "(LCanonNames$Graph;LCanonNames$Graph;II)I"⟩, 4) := ⟨⟨by decide +kernel, by decide +kernel⟩, List.mem_of_getElem? (i := 111) (by decide +kernel), List.mem_of_getElem? (i := 355) (by decide +kernel), List.mem_of_getElem? (i := 356) (by decide +kernel)⟩
theorem lw_p8 : lw_okq (⟨"CanonNames$LeastRow", "layTrial", "(LCanonNames$Graph;II)V"⟩, 4) := ⟨⟨by decide +kernel, by decide +kernel⟩, List.mem_of_getElem? (i := 111) (by decide +kernel), List.mem_of_getElem? (i := 359) (by decide +kernel), List.mem_of_getElem? (i := 360) (by decide +kernel)⟩
theorem lw_p9 : lw_okq (⟨"CanonNames$LeastRow", "settle", "(LCanonNames$Graph;LCanonNames$Graph;I)I"⟩, 4) := ⟨⟨by decide +kernel, by decide +kernel⟩, List.mem_of_getElem? (i := 111) (by decide +kernel), List.mem_of_getElem? (i := 376) (by decide +kernel), List.mem_of_getElem? (i := 377) (by decide +kernel)⟩
theorem lw_p10 : lw_okq (⟨"CanonNames$LeastRow", "greatestDifference", "(I)I"⟩, 4) := ⟨⟨by decide +kernel, by decide +kernel⟩, List.mem_of_getElem? (i := 111) (by decide +kernel), List.mem_of_getElem? (i := 381) (by decide +kernel), List.mem_of_getElem? (i := 382) (by decide +kernel)⟩
theorem lw_p11 : lw_okq (⟨"CanonNames$Matcher", "readLasts", "(LCanonNames$Graph;)V"⟩, 2) := ⟨⟨by decide +kernel, by decide +kernel⟩, List.mem_of_getElem? (i := 97) (by decide +kernel), List.mem_of_getElem? (i := 389) (by decide +kernel), List.mem_of_getElem? (i := 390) (by decide +kernel)⟩
theorem lw_p12 : lw_okq (⟨"CanonNames$Matcher", "keepsTriples", "(LCanonNames$Graph;LCanonNames$Graph;I)Z"⟩, 2) := ⟨⟨by decide +kernel, by decide +kernel⟩, List.mem_of_getElem? (i := 97) (by decide +kernel), List.mem_of_getElem? (i := 395) (by decide +kernel), List.mem_of_getElem? (i := 396) (by decide +kernel)⟩
theorem lw_p13 : lw_okq (⟨"CanonNames$Matcher", "completes", "(LCanonNames$Graph;LCanonNames$Graph;II)Z"⟩, 2) := ⟨⟨by decide +kernel, by decide +kernel⟩, List.mem_of_getElem? (i := 97) (by decide +kernel), List.mem_of_getElem? (i := 401) (by decide +kernel), List.mem_of_getElem? (i := 402) (by decide +kernel)⟩
theorem lw_p14 : lw_okq (⟨"CanonNames$Matcher", "fits", "(LCanonNames$Graph;LCanonNames$Graph;II)Z"⟩, 2) := ⟨⟨by decide +kernel, by decide +kernel⟩, List.mem_of_getElem? (i := 97) (by decide +kernel), List.mem_of_getElem? (i := 405) (by decide +kernel), List.mem_of_getElem? (i := 406) (by decide +kernel)⟩
theorem lw_p15 : lw_okq (⟨"CanonNames", "keptAt", "(I)LCanonNames$Graph;"⟩, 8) := ⟨⟨by decide +kernel, by decide +kernel⟩, List.mem_of_getElem? (i := 18) (by decide +kernel), List.mem_of_getElem? (i := 448) (by decide +kernel), List.mem_of_getElem? (i := 449) (by decide +kernel)⟩
def lw_privs_1 : List (MethodName × Nat) := [(⟨"CanonNames$Graph", "isPoint", "(I)Z"⟩, 6), (⟨"CanonNames$Groups", "compareHashes", "(II)I"⟩, 5), (⟨"CanonNames$Hasher", "makesMore", "(LCanonNames$Graph;)Z"⟩, 3), (⟨"CanonNames$Hasher", "describe", "(LCanonNames$Graph;I)I"⟩, 3), (⟨"CanonNames$Hasher", "putContent", "(LCanonNames$Groups;I)V"⟩, 3), (⟨"CanonNames$Sha", "mix", "()V"⟩, 4), (⟨"CanonNames$Hasher", "takeRound", "(LCanonNames$Graph;)V"⟩, 3), (⟨"CanonNames$LeastRow", "search", "(LCanonNames$Graph;LCanonNames$Graph;II)I"⟩, 4), (⟨"CanonNames$LeastRow", "layTrial", "(LCanonNames$Graph;II)V"⟩, 4), (⟨"CanonNames$LeastRow", "settle", "(LCanonNames$Graph;LCanonNames$Graph;I)I"⟩, 4), (⟨"CanonNames$LeastRow", "greatestDifference", "(I)I"⟩, 4), (⟨"CanonNames$Matcher", "readLasts", "(LCanonNames$Graph;)V"⟩, 2), (⟨"CanonNames$Matcher", "keepsTriples", "(LCanonNames$Graph;LCanonNames$Graph;I)Z"⟩, 2), (⟨"CanonNames$Matcher", "completes", "(LCanonNames$Graph;LCanonNames$Graph;II)Z"⟩, 2), (⟨"CanonNames$Matcher", "fits", "(LCanonNames$Graph;LCanonNames$Graph;II)Z"⟩, 2), (⟨"CanonNames", "keptAt", "(I)LCanonNames$Graph;"⟩, 8)]
theorem lw_r1 : ∀ q ∈ lw_privs_1, lw_okq q := List.forall_mem_cons.mpr ⟨lw_p0, List.forall_mem_cons.mpr ⟨lw_p1, List.forall_mem_cons.mpr ⟨lw_p2, List.forall_mem_cons.mpr ⟨lw_p3, List.forall_mem_cons.mpr ⟨lw_p4, List.forall_mem_cons.mpr ⟨lw_p5, List.forall_mem_cons.mpr ⟨lw_p6, List.forall_mem_cons.mpr ⟨lw_p7, List.forall_mem_cons.mpr ⟨lw_p8, List.forall_mem_cons.mpr ⟨lw_p9, List.forall_mem_cons.mpr ⟨lw_p10, List.forall_mem_cons.mpr ⟨lw_p11, List.forall_mem_cons.mpr ⟨lw_p12, List.forall_mem_cons.mpr ⟨lw_p13, List.forall_mem_cons.mpr ⟨lw_p14, List.forall_mem_cons.mpr ⟨lw_p15, fun _ h => absurd h List.not_mem_nil⟩⟩⟩⟩⟩⟩⟩⟩⟩⟩⟩⟩⟩⟩⟩⟩
theorem lw_p16 : lw_okq (⟨"CanonNames", "becomes", "(LCanonNames$Graph;)Z"⟩, 8) := ⟨⟨by decide +kernel, by decide +kernel⟩, List.mem_of_getElem? (i := 18) (by decide +kernel), List.mem_of_getElem? (i := 452) (by decide +kernel), List.mem_of_getElem? (i := 453) (by decide +kernel)⟩
theorem lw_p17 : lw_okq (⟨"java/lang/Throwable", "fillInStackTrace", "(I)Ljava/lang/Throwable;"⟩, 6) := ⟨⟨by decide +kernel, by decide +kernel⟩, List.mem_of_getElem? (i := 529) (by decide +kernel), List.mem_of_getElem? (i := 527) (by decide +kernel), List.mem_of_getElem? (i := 528) (by decide +kernel)⟩
theorem lw_p18 : lw_okq (⟨"CanonNamesModel", "digestOf", "(I)V"⟩, 27) := ⟨⟨by decide +kernel, by decide +kernel⟩, List.mem_of_getElem? (i := 574) (by decide +kernel), List.mem_of_getElem? (i := 644) (by decide +kernel), List.mem_of_getElem? (i := 645) (by decide +kernel)⟩
theorem lw_p19 : lw_okq (⟨"CanonNamesModel", "block", "(I)V"⟩, 27) := ⟨⟨by decide +kernel, by decide +kernel⟩, List.mem_of_getElem? (i := 574) (by decide +kernel), List.mem_of_getElem? (i := 657) (by decide +kernel), List.mem_of_getElem? (i := 658) (by decide +kernel)⟩
theorem lw_p20 : lw_okq (⟨"CanonNamesModel", "octetsOf", "()V"⟩, 27) := ⟨⟨by decide +kernel, by decide +kernel⟩, List.mem_of_getElem? (i := 574) (by decide +kernel), List.mem_of_getElem? (i := 666) (by decide +kernel), List.mem_of_getElem? (i := 667) (by decide +kernel)⟩
theorem lw_p21 : lw_okq (⟨"CanonNamesModel", "isPoint", "(I)Z"⟩, 27) := ⟨⟨by decide +kernel, by decide +kernel⟩, List.mem_of_getElem? (i := 574) (by decide +kernel), List.mem_of_getElem? (i := 762) (by decide +kernel), List.mem_of_getElem? (i := 763) (by decide +kernel)⟩
theorem lw_p22 : lw_okq (⟨"CanonNamesModel", "find", "(IIII)I"⟩, 27) := ⟨⟨by decide +kernel, by decide +kernel⟩, List.mem_of_getElem? (i := 574) (by decide +kernel), List.mem_of_getElem? (i := 766) (by decide +kernel), List.mem_of_getElem? (i := 767) (by decide +kernel)⟩
theorem lw_p23 : lw_okq (⟨"CanonNamesModel", "makeHashes", "()V"⟩, 27) := ⟨⟨by decide +kernel, by decide +kernel⟩, List.mem_of_getElem? (i := 574) (by decide +kernel), List.mem_of_getElem? (i := 781) (by decide +kernel), List.mem_of_getElem? (i := 782) (by decide +kernel)⟩
theorem lw_p24 : lw_okq (⟨"CanonNamesModel", "next", "(I)V"⟩, 27) := ⟨⟨by decide +kernel, by decide +kernel⟩, List.mem_of_getElem? (i := 574) (by decide +kernel), List.mem_of_getElem? (i := 785) (by decide +kernel), List.mem_of_getElem? (i := 786) (by decide +kernel)⟩
theorem lw_p25 : lw_okq (⟨"CanonNamesModel", "describe", "(II)V"⟩, 27) := ⟨⟨by decide +kernel, by decide +kernel⟩, List.mem_of_getElem? (i := 574) (by decide +kernel), List.mem_of_getElem? (i := 789) (by decide +kernel), List.mem_of_getElem? (i := 790) (by decide +kernel)⟩
theorem lw_p26 : lw_okq (⟨"CanonNamesModel", "sayNumber", "(J)V"⟩, 27) := ⟨⟨by decide +kernel, by decide +kernel⟩, List.mem_of_getElem? (i := 574) (by decide +kernel), List.mem_of_getElem? (i := 794) (by decide +kernel), List.mem_of_getElem? (i := 795) (by decide +kernel)⟩
theorem lw_p27 : lw_okq (⟨"CanonNamesModel", "say", "(I)V"⟩, 27) := ⟨⟨by decide +kernel, by decide +kernel⟩, List.mem_of_getElem? (i := 574) (by decide +kernel), List.mem_of_getElem? (i := 798) (by decide +kernel), List.mem_of_getElem? (i := 799) (by decide +kernel)⟩
theorem lw_p28 : lw_okq (⟨"CanonNamesModel", "isBefore", "(II)Z"⟩, 27) := ⟨⟨by decide +kernel, by decide +kernel⟩, List.mem_of_getElem? (i := 574) (by decide +kernel), List.mem_of_getElem? (i := 802) (by decide +kernel), List.mem_of_getElem? (i := 803) (by decide +kernel)⟩
theorem lw_p29 : lw_okq (⟨"CanonNamesModel", "different", "([J)I"⟩, 27) := ⟨⟨by decide +kernel, by decide +kernel⟩, List.mem_of_getElem? (i := 574) (by decide +kernel), List.mem_of_getElem? (i := 806) (by decide +kernel), List.mem_of_getElem? (i := 807) (by decide +kernel)⟩
theorem lw_p30 : lw_okq (⟨"CanonNamesModel", "makeGroups", "(I)V"⟩, 27) := ⟨⟨by decide +kernel, by decide +kernel⟩, List.mem_of_getElem? (i := 574) (by decide +kernel), List.mem_of_getElem? (i := 813) (by decide +kernel), List.mem_of_getElem? (i := 814) (by decide +kernel)⟩
theorem lw_p31 : lw_okq (⟨"CanonNamesModel", "namings", "()J"⟩, 27) := ⟨⟨by decide +kernel, by decide +kernel⟩, List.mem_of_getElem? (i := 574) (by decide +kernel), List.mem_of_getElem? (i := 829) (by decide +kernel), List.mem_of_getElem? (i := 830) (by decide +kernel)⟩
def lw_privs_2 : List (MethodName × Nat) := [(⟨"CanonNames", "becomes", "(LCanonNames$Graph;)Z"⟩, 8), (⟨"java/lang/Throwable", "fillInStackTrace", "(I)Ljava/lang/Throwable;"⟩, 6), (⟨"CanonNamesModel", "digestOf", "(I)V"⟩, 27), (⟨"CanonNamesModel", "block", "(I)V"⟩, 27), (⟨"CanonNamesModel", "octetsOf", "()V"⟩, 27), (⟨"CanonNamesModel", "isPoint", "(I)Z"⟩, 27), (⟨"CanonNamesModel", "find", "(IIII)I"⟩, 27), (⟨"CanonNamesModel", "makeHashes", "()V"⟩, 27), (⟨"CanonNamesModel", "next", "(I)V"⟩, 27), (⟨"CanonNamesModel", "describe", "(II)V"⟩, 27), (⟨"CanonNamesModel", "sayNumber", "(J)V"⟩, 27), (⟨"CanonNamesModel", "say", "(I)V"⟩, 27), (⟨"CanonNamesModel", "isBefore", "(II)Z"⟩, 27), (⟨"CanonNamesModel", "different", "([J)I"⟩, 27), (⟨"CanonNamesModel", "makeGroups", "(I)V"⟩, 27), (⟨"CanonNamesModel", "namings", "()J"⟩, 27)]
theorem lw_r2 : ∀ q ∈ lw_privs_2, lw_okq q := List.forall_mem_cons.mpr ⟨lw_p16, List.forall_mem_cons.mpr ⟨lw_p17, List.forall_mem_cons.mpr ⟨lw_p18, List.forall_mem_cons.mpr ⟨lw_p19, List.forall_mem_cons.mpr ⟨lw_p20, List.forall_mem_cons.mpr ⟨lw_p21, List.forall_mem_cons.mpr ⟨lw_p22, List.forall_mem_cons.mpr ⟨lw_p23, List.forall_mem_cons.mpr ⟨lw_p24, List.forall_mem_cons.mpr ⟨lw_p25, List.forall_mem_cons.mpr ⟨lw_p26, List.forall_mem_cons.mpr ⟨lw_p27, List.forall_mem_cons.mpr ⟨lw_p28, List.forall_mem_cons.mpr ⟨lw_p29, List.forall_mem_cons.mpr ⟨lw_p30, List.forall_mem_cons.mpr ⟨lw_p31, fun _ h => absurd h List.not_mem_nil⟩⟩⟩⟩⟩⟩⟩⟩⟩⟩⟩⟩⟩⟩⟩⟩
theorem lw_p32 : lw_okq (⟨"CanonNamesModel", "begin", "(I)V"⟩, 27) := ⟨⟨by decide +kernel, by decide +kernel⟩, List.mem_of_getElem? (i := 574) (by decide +kernel), List.mem_of_getElem? (i := 833) (by decide +kernel), List.mem_of_getElem? (i := 834) (by decide +kernel)⟩
theorem lw_p33 : lw_okq (⟨"CanonNamesModel", "isNaming", "(I)Z"⟩, 27) := ⟨⟨by decide +kernel, by decide +kernel⟩, List.mem_of_getElem? (i := 574) (by decide +kernel), List.mem_of_getElem? (i := 837) (by decide +kernel), List.mem_of_getElem? (i := 838) (by decide +kernel)⟩
theorem lw_p34 : lw_okq (⟨"CanonNamesModel", "makeRow", "()V"⟩, 27) := ⟨⟨by decide +kernel, by decide +kernel⟩, List.mem_of_getElem? (i := 574) (by decide +kernel), List.mem_of_getElem? (i := 841) (by decide +kernel), List.mem_of_getElem? (i := 842) (by decide +kernel)⟩
theorem lw_p35 : lw_okq (⟨"CanonNamesModel", "numbered", "(I)I"⟩, 27) := ⟨⟨by decide +kernel, by decide +kernel⟩, List.mem_of_getElem? (i := 574) (by decide +kernel), List.mem_of_getElem? (i := 845) (by decide +kernel), List.mem_of_getElem? (i := 846) (by decide +kernel)⟩
theorem lw_p36 : lw_okq (⟨"CanonNamesModel", "compareForm", "()I"⟩, 27) := ⟨⟨by decide +kernel, by decide +kernel⟩, List.mem_of_getElem? (i := 574) (by decide +kernel), List.mem_of_getElem? (i := 852) (by decide +kernel), List.mem_of_getElem? (i := 853) (by decide +kernel)⟩
theorem lw_p37 : lw_okq (⟨"CanonNamesModel", "take", "(I)V"⟩, 27) := ⟨⟨by decide +kernel, by decide +kernel⟩, List.mem_of_getElem? (i := 574) (by decide +kernel), List.mem_of_getElem? (i := 856) (by decide +kernel), List.mem_of_getElem? (i := 857) (by decide +kernel)⟩
theorem lw_p38 : lw_okq (⟨"CanonNamesModel", "turn", "(I)Z"⟩, 27) := ⟨⟨by decide +kernel, by decide +kernel⟩, List.mem_of_getElem? (i := 574) (by decide +kernel), List.mem_of_getElem? (i := 860) (by decide +kernel), List.mem_of_getElem? (i := 861) (by decide +kernel)⟩
theorem lw_p39 : lw_okq (⟨"CanonNamesModel", "change", "(II)V"⟩, 27) := ⟨⟨by decide +kernel, by decide +kernel⟩, List.mem_of_getElem? (i := 574) (by decide +kernel), List.mem_of_getElem? (i := 864) (by decide +kernel), List.mem_of_getElem? (i := 865) (by decide +kernel)⟩
theorem lw_p40 : lw_okq (⟨"CanonNamesModel", "isKept", "(I)Z"⟩, 27) := ⟨⟨by decide +kernel, by decide +kernel⟩, List.mem_of_getElem? (i := 574) (by decide +kernel), List.mem_of_getElem? (i := 888) (by decide +kernel), List.mem_of_getElem? (i := 889) (by decide +kernel)⟩
theorem lw_p41 : lw_okq (⟨"CanonNamesModel", "becomes", "(I)Z"⟩, 27) := ⟨⟨by decide +kernel, by decide +kernel⟩, List.mem_of_getElem? (i := 574) (by decide +kernel), List.mem_of_getElem? (i := 892) (by decide +kernel), List.mem_of_getElem? (i := 893) (by decide +kernel)⟩
def lw_privs_3 : List (MethodName × Nat) := [(⟨"CanonNamesModel", "begin", "(I)V"⟩, 27), (⟨"CanonNamesModel", "isNaming", "(I)Z"⟩, 27), (⟨"CanonNamesModel", "makeRow", "()V"⟩, 27), (⟨"CanonNamesModel", "numbered", "(I)I"⟩, 27), (⟨"CanonNamesModel", "compareForm", "()I"⟩, 27), (⟨"CanonNamesModel", "take", "(I)V"⟩, 27), (⟨"CanonNamesModel", "turn", "(I)Z"⟩, 27), (⟨"CanonNamesModel", "change", "(II)V"⟩, 27), (⟨"CanonNamesModel", "isKept", "(I)Z"⟩, 27), (⟨"CanonNamesModel", "becomes", "(I)Z"⟩, 27)]
theorem lw_r3 : ∀ q ∈ lw_privs_3, lw_okq q := List.forall_mem_cons.mpr ⟨lw_p32, List.forall_mem_cons.mpr ⟨lw_p33, List.forall_mem_cons.mpr ⟨lw_p34, List.forall_mem_cons.mpr ⟨lw_p35, List.forall_mem_cons.mpr ⟨lw_p36, List.forall_mem_cons.mpr ⟨lw_p37, List.forall_mem_cons.mpr ⟨lw_p38, List.forall_mem_cons.mpr ⟨lw_p39, List.forall_mem_cons.mpr ⟨lw_p40, List.forall_mem_cons.mpr ⟨lw_p41, fun _ h => absurd h List.not_mem_nil⟩⟩⟩⟩⟩⟩⟩⟩⟩⟩
def lw_privs : List (MethodName × Nat) := lw_privs_1 ++ (lw_privs_2 ++ (lw_privs_3))
def lw_tbl : List Cond := k2_sels lw_privs ++ tables_1
theorem lw_privs_ok : ∀ q ∈ lw_privs, lw_okq q := by
  show ∀ q ∈ lw_privs_1 ++ (lw_privs_2 ++ (lw_privs_3)), lw_okq q
  exact List.forall_mem_append.mpr ⟨lw_r1, List.forall_mem_append.mpr ⟨lw_r2, lw_r3⟩⟩
end
section
def RX0 : String := "CanonNames$Graph"
def TX0 : u_T := fun k => match k with
  | 0 => ("CanonNames$Graph", "keys", "[I", true)
  | 1 => ("CanonNames$Graph", "blanks", "I", false)
  | 2 => ("CanonNames$Graph", "triples", "I", false)
  | 3 => ("CanonNames$Graph", "hashed", "Z", false)
  | 4 => ("CanonNames$Graph", "rounds", "I", false)
  | _ => ("CanonNames$Graph", "groups", "LCanonNames$Groups;", false)
def tyX0 : Nat → FieldType := fun k => match k with
  | 0 => .array .int
  | 1 => .int
  | 2 => .int
  | 3 => .boolean
  | 4 => .int
  | _ => .object "CanonNames$Groups"
abbrev wsX00 : List Cond := u_ws RX0 TX0 6
theorem nmX0 : ∀ a, a < 6 → ∀ b, b < 6 → a ≠ b → (TX0 a).2.1 ≠ (TX0 b).2.1 := by decide +kernel
theorem tyX0_ok : ∀ k, k < 6 → parseFieldDescriptor (TX0 k).2.2.1 = some (tyX0 k) := by decide +kernel
abbrev cX0_init : ByteArray := prog_2_method_1_code
def yX0_init : MethodName := ⟨RX0, "<init>", "()V"⟩
abbrev cX0_hasPoints : ByteArray := prog_2_method_2_code
def yX0_hasPoints : MethodName := ⟨RX0, "hasPoints", "(III)Z"⟩
abbrev cX0_isPoint : ByteArray := prog_2_method_3_code
def yX0_isPoint : MethodName := ⟨RX0, "isPoint", "(I)Z"⟩
abbrev cX0_holds : ByteArray := prog_2_method_4_code
def yX0_holds : MethodName := ⟨RX0, "holds", "(I)Z"⟩
abbrev cX0_hasSizesOf : ByteArray := prog_2_method_5_code
def yX0_hasSizesOf : MethodName := ⟨RX0, "hasSizesOf", "(LCanonNames$Graph;)Z"⟩
abbrev cX0_insert : ByteArray := prog_2_method_6_code
def yX0_insert : MethodName := ⟨RX0, "insert", "(I)V"⟩
abbrev cX0_remove : ByteArray := prog_2_method_7_code
def yX0_remove : MethodName := ⟨RX0, "remove", "(I)V"⟩
def RX1 : String := "CanonNames$Groups"
def TX1 : u_T := fun k => match k with
  | 0 => ("CanonNames$Groups", "hashes", "[I", true)
  | 1 => ("CanonNames$Groups", "order", "[I", true)
  | 2 => ("CanonNames$Groups", "rank", "[I", true)
  | 3 => ("CanonNames$Groups", "start", "[I", true)
  | _ => ("CanonNames$Groups", "count", "I", false)
def tyX1 : Nat → FieldType := fun k => match k with
  | 0 => .array .int
  | 1 => .array .int
  | 2 => .array .int
  | 3 => .array .int
  | _ => .int
abbrev wsX10 : List Cond := u_ws RX1 TX1 5
theorem nmX1 : ∀ a, a < 5 → ∀ b, b < 5 → a ≠ b → (TX1 a).2.1 ≠ (TX1 b).2.1 := by decide +kernel
theorem tyX1_ok : ∀ k, k < 5 → parseFieldDescriptor (TX1 k).2.2.1 = some (tyX1 k) := by decide +kernel
abbrev cX1_init : ByteArray := prog_3_method_1_code
def yX1_init : MethodName := ⟨RX1, "<init>", "()V"⟩
abbrev cX1_sizeOf : ByteArray := prog_3_method_2_code
def yX1_sizeOf : MethodName := ⟨RX1, "sizeOf", "(I)I"⟩
abbrev cX1_arrange : ByteArray := prog_3_method_3_code
def yX1_arrange : MethodName := ⟨RX1, "arrange", "(I)V"⟩
abbrev cX1_compareHashes : ByteArray := prog_3_method_4_code
def yX1_compareHashes : MethodName := ⟨RX1, "compareHashes", "(II)I"⟩
abbrev cX1_hasHashesOf : ByteArray := prog_3_method_5_code
def yX1_hasHashesOf : MethodName := ⟨RX1, "hasHashesOf", "(LCanonNames$Groups;I)Z"⟩
abbrev cX1_namings : ByteArray := prog_3_method_6_code
def yX1_namings : MethodName := ⟨RX1, "namings", "()I"⟩
def RX2 : String := "CanonNames$Hasher"
def TX2 : u_T := fun k => match k with
  | 0 => ("CanonNames$Hasher", "sha", "LCanonNames$Sha;", true)
  | 1 => ("CanonNames$Hasher", "descriptions", "[I", true)
  | _ => ("CanonNames$Hasher", "next", "LCanonNames$Groups;", false)
def tyX2 : Nat → FieldType := fun k => match k with
  | 0 => .object "CanonNames$Sha"
  | 1 => .array .int
  | _ => .object "CanonNames$Groups"
abbrev wsX20 : List Cond := u_ws RX2 TX2 3
theorem nmX2 : ∀ a, a < 3 → ∀ b, b < 3 → a ≠ b → (TX2 a).2.1 ≠ (TX2 b).2.1 := by decide +kernel
theorem tyX2_ok : ∀ k, k < 3 → parseFieldDescriptor (TX2 k).2.2.1 = some (tyX2 k) := by decide +kernel
abbrev cX2_init : ByteArray := prog_4_method_1_code
def yX2_init : MethodName := ⟨RX2, "<init>", "(LCanonNames$Sha;)V"⟩
abbrev cX2_refresh : ByteArray := prog_4_method_2_code
def yX2_refresh : MethodName := ⟨RX2, "refresh", "(LCanonNames$Graph;)V"⟩
abbrev cX2_makesMore : ByteArray := prog_4_method_3_code
def yX2_makesMore : MethodName := ⟨RX2, "makesMore", "(LCanonNames$Graph;)Z"⟩
abbrev cX2_takeRound : ByteArray := prog_4_method_4_code
def yX2_takeRound : MethodName := ⟨RX2, "takeRound", "(LCanonNames$Graph;)V"⟩
abbrev cX2_describe : ByteArray := prog_4_method_5_code
def yX2_describe : MethodName := ⟨RX2, "describe", "(LCanonNames$Graph;I)I"⟩
abbrev cX2_partFor : ByteArray := prog_4_method_6_code
def yX2_partFor : MethodName := ⟨RX2, "partFor", "(LCanonNames$Groups;II)I"⟩
abbrev cX2_putContent : ByteArray := prog_4_method_7_code
def yX2_putContent : MethodName := ⟨RX2, "putContent", "(LCanonNames$Groups;I)V"⟩
def RX3 : String := "CanonNames$LeastRow"
def TX3 : u_T := fun k => match k with
  | 0 => ("CanonNames$LeastRow", "numbers", "[I", true)
  | 1 => ("CanonNames$LeastRow", "bestNumbers", "[I", true)
  | 2 => ("CanonNames$LeastRow", "trial", "[I", true)
  | _ => ("CanonNames$LeastRow", "found", "Z", false)
def tyX3 : Nat → FieldType := fun k => match k with
  | 0 => .array .int
  | 1 => .array .int
  | 2 => .array .int
  | _ => .boolean
abbrev wsX30 : List Cond := u_ws RX3 TX3 4
theorem nmX3 : ∀ a, a < 4 → ∀ b, b < 4 → a ≠ b → (TX3 a).2.1 ≠ (TX3 b).2.1 := by decide +kernel
theorem tyX3_ok : ∀ k, k < 4 → parseFieldDescriptor (TX3 k).2.2.1 = some (tyX3 k) := by decide +kernel
abbrev cX3_init : ByteArray := prog_5_method_1_code
def yX3_init : MethodName := ⟨RX3, "<init>", "()V"⟩
abbrev cX3_find : ByteArray := prog_5_method_2_code
def yX3_find : MethodName := ⟨RX3, "find", "(LCanonNames$Graph;LCanonNames$Graph;)V"⟩
abbrev cX3_search : ByteArray := prog_5_method_3_code
def yX3_search : MethodName := ⟨RX3, "search", "(LCanonNames$Graph;LCanonNames$Graph;II)I"⟩
abbrev cX3_settle : ByteArray := prog_5_method_4_code
def yX3_settle : MethodName := ⟨RX3, "settle", "(LCanonNames$Graph;LCanonNames$Graph;I)I"⟩
abbrev cX3_greatestDifference : ByteArray := prog_5_method_5_code
def yX3_greatestDifference : MethodName := ⟨RX3, "greatestDifference", "(I)I"⟩
abbrev cX3_layTrial : ByteArray := prog_5_method_6_code
def yX3_layTrial : MethodName := ⟨RX3, "layTrial", "(LCanonNames$Graph;II)V"⟩
abbrev cX3_compare : ByteArray := prog_5_method_7_code
def yX3_compare : MethodName := ⟨RX3, "compare", "([I[II)I"⟩
def RX4 : String := "CanonNames$Matcher"
def TX4 : u_T := fun k => match k with
  | 0 => ("CanonNames$Matcher", "images", "[I", true)
  | _ => ("CanonNames$Matcher", "lasts", "[I", true)
def tyX4 : Nat → FieldType := fun k => match k with
  | 0 => .array .int
  | _ => .array .int
abbrev wsX40 : List Cond := u_ws RX4 TX4 2
theorem nmX4 : ∀ a, a < 2 → ∀ b, b < 2 → a ≠ b → (TX4 a).2.1 ≠ (TX4 b).2.1 := by decide +kernel
theorem tyX4_ok : ∀ k, k < 2 → parseFieldDescriptor (TX4 k).2.2.1 = some (tyX4 k) := by decide +kernel
abbrev cX4_init : ByteArray := prog_6_method_1_code
def yX4_init : MethodName := ⟨RX4, "<init>", "()V"⟩
abbrev cX4_matches : ByteArray := prog_6_method_2_code
def yX4_matches : MethodName := ⟨RX4, "matches", "(LCanonNames$Graph;LCanonNames$Graph;)Z"⟩
abbrev cX4_automorphisms : ByteArray := prog_6_method_3_code
def yX4_automorphisms : MethodName := ⟨RX4, "automorphisms", "(LCanonNames$Graph;)I"⟩
abbrev cX4_readLasts : ByteArray := prog_6_method_4_code
def yX4_readLasts : MethodName := ⟨RX4, "readLasts", "(LCanonNames$Graph;)V"⟩
abbrev cX4_completes : ByteArray := prog_6_method_5_code
def yX4_completes : MethodName := ⟨RX4, "completes", "(LCanonNames$Graph;LCanonNames$Graph;II)Z"⟩
abbrev cX4_fits : ByteArray := prog_6_method_6_code
def yX4_fits : MethodName := ⟨RX4, "fits", "(LCanonNames$Graph;LCanonNames$Graph;II)Z"⟩
abbrev cX4_keepsTriples : ByteArray := prog_6_method_7_code
def yX4_keepsTriples : MethodName := ⟨RX4, "keepsTriples", "(LCanonNames$Graph;LCanonNames$Graph;I)Z"⟩
def RX5 : String := "CanonNames$Named"
def TX5 : u_T := fun k => match k with
  | 0 => ("CanonNames$Named", "form", "LCanonNames$Graph;", true)
  | 1 => ("CanonNames$Named", "numbers", "[I", true)
  | 2 => ("CanonNames$Named", "digest", "[I", true)
  | _ => ("CanonNames$Named", "digested", "Z", false)
def tyX5 : Nat → FieldType := fun k => match k with
  | 0 => .object "CanonNames$Graph"
  | 1 => .array .int
  | 2 => .array .int
  | _ => .boolean
abbrev wsX50 : List Cond := u_ws RX5 TX5 4
theorem nmX5 : ∀ a, a < 4 → ∀ b, b < 4 → a ≠ b → (TX5 a).2.1 ≠ (TX5 b).2.1 := by decide +kernel
theorem tyX5_ok : ∀ k, k < 4 → parseFieldDescriptor (TX5 k).2.2.1 = some (tyX5 k) := by decide +kernel
abbrev cX5_init : ByteArray := prog_7_method_1_code
def yX5_init : MethodName := ⟨RX5, "<init>", "()V"⟩
abbrev cX5_adopt : ByteArray := prog_7_method_2_code
def yX5_adopt : MethodName := ⟨RX5, "adopt", "([II)V"⟩
abbrev cX5_refreshDigest : ByteArray := prog_7_method_3_code
def yX5_refreshDigest : MethodName := ⟨RX5, "refreshDigest", "(LCanonNames$Sha;)V"⟩
def RX6 : String := "CanonNames$Sha"
def TX6 : u_T := fun k => match k with
  | 0 => ("CanonNames$Sha", "state", "[I", true)
  | 1 => ("CanonNames$Sha", "words", "[I", true)
  | 2 => ("CanonNames$Sha", "filled", "I", false)
  | _ => ("CanonNames$Sha", "length", "I", false)
def tyX6 : Nat → FieldType := fun k => match k with
  | 0 => .array .int
  | 1 => .array .int
  | 2 => .int
  | _ => .int
abbrev wsX60 : List Cond := u_ws RX6 TX6 4
theorem nmX6 : ∀ a, a < 4 → ∀ b, b < 4 → a ≠ b → (TX6 a).2.1 ≠ (TX6 b).2.1 := by decide +kernel
theorem tyX6_ok : ∀ k, k < 4 → parseFieldDescriptor (TX6 k).2.2.1 = some (tyX6 k) := by decide +kernel
abbrev cX6_init : ByteArray := prog_8_method_1_code
def yX6_init : MethodName := ⟨RX6, "<init>", "()V"⟩
abbrev cX6_begin : ByteArray := prog_8_method_2_code
def yX6_begin : MethodName := ⟨RX6, "begin", "()V"⟩
abbrev cX6_put : ByteArray := prog_8_method_3_code
def yX6_put : MethodName := ⟨RX6, "put", "(II)V"⟩
abbrev cX6_end : ByteArray := prog_8_method_4_code
def yX6_end : MethodName := ⟨RX6, "end", "([II)V"⟩
abbrev cX6_mix : ByteArray := prog_8_method_5_code
def yX6_mix : MethodName := ⟨RX6, "mix", "()V"⟩
def RX7 : String := "CanonNames"
def TX7 : u_T := fun k => match k with
  | 0 => ("CanonNames", "sha", "LCanonNames$Sha;", true)
  | 1 => ("CanonNames", "hasher", "LCanonNames$Hasher;", true)
  | 2 => ("CanonNames", "matcher", "LCanonNames$Matcher;", true)
  | 3 => ("CanonNames", "leastRow", "LCanonNames$LeastRow;", true)
  | 4 => ("CanonNames", "latest", "LCanonNames$Named;", true)
  | 5 => ("CanonNames", "kept", "[LCanonNames$Graph;", true)
  | 6 => ("CanonNames", "keptCount", "I", false)
  | _ => ("CanonNames", "graph", "LCanonNames$Graph;", false)
def tyX7 : Nat → FieldType := fun k => match k with
  | 0 => .object "CanonNames$Sha"
  | 1 => .object "CanonNames$Hasher"
  | 2 => .object "CanonNames$Matcher"
  | 3 => .object "CanonNames$LeastRow"
  | 4 => .object "CanonNames$Named"
  | 5 => .array (.object "CanonNames$Graph")
  | 6 => .int
  | _ => .object "CanonNames$Graph"
abbrev wsX70 : List Cond := u_ws RX7 TX7 8
theorem nmX7 : ∀ a, a < 8 → ∀ b, b < 8 → a ≠ b → (TX7 a).2.1 ≠ (TX7 b).2.1 := by decide +kernel
theorem tyX7_ok : ∀ k, k < 8 → parseFieldDescriptor (TX7 k).2.2.1 = some (tyX7 k) := by decide +kernel
abbrev cX7_init : ByteArray := prog_1_method_1_code
def yX7_init : MethodName := ⟨RX7, "<init>", "()V"⟩
abbrev cX7_blank : ByteArray := prog_1_method_2_code
def yX7_blank : MethodName := ⟨RX7, "blank", "()I"⟩
abbrev cX7_triple : ByteArray := prog_1_method_3_code
def yX7_triple : MethodName := ⟨RX7, "triple", "(III)I"⟩
abbrev cX7_drop : ByteArray := prog_1_method_4_code
def yX7_drop : MethodName := ⟨RX7, "drop", "(III)I"⟩
abbrev cX7_name : ByteArray := prog_1_method_5_code
def yX7_name : MethodName := ⟨RX7, "name", "(J)I"⟩
abbrev cX7_named : ByteArray := prog_1_method_6_code
def yX7_named : MethodName := ⟨RX7, "named", "(I)I"⟩
abbrev cX7_form : ByteArray := prog_1_method_7_code
def yX7_form : MethodName := ⟨RX7, "form", "(II)I"⟩
abbrev cX7_octet : ByteArray := prog_1_method_8_code
def yX7_octet : MethodName := ⟨RX7, "octet", "(I)B"⟩
abbrev cX7_hash : ByteArray := prog_1_method_9_code
def yX7_hash : MethodName := ⟨RX7, "hash", "(II)I"⟩
abbrev cX7_rounds : ByteArray := prog_1_method_10_code
def yX7_rounds : MethodName := ⟨RX7, "rounds", "()I"⟩
abbrev cX7_first : ByteArray := prog_1_method_11_code
def yX7_first : MethodName := ⟨RX7, "first", "(II)I"⟩
abbrev cX7_keep : ByteArray := prog_1_method_12_code
def yX7_keep : MethodName := ⟨RX7, "keep", "()I"⟩
abbrev cX7_isomorphic : ByteArray := prog_1_method_13_code
def yX7_isomorphic : MethodName := ⟨RX7, "isomorphic", "(I)I"⟩
abbrev cX7_ways : ByteArray := prog_1_method_14_code
def yX7_ways : MethodName := ⟨RX7, "ways", "(I)I"⟩
abbrev cX7_equal : ByteArray := prog_1_method_15_code
def yX7_equal : MethodName := ⟨RX7, "equal", "(I)I"⟩
abbrev cX7_triples : ByteArray := prog_1_method_16_code
def yX7_triples : MethodName := ⟨RX7, "triples", "()I"⟩
abbrev cX7_blanks : ByteArray := prog_1_method_17_code
def yX7_blanks : MethodName := ⟨RX7, "blanks", "()I"⟩
abbrev cX7_keptAt : ByteArray := prog_1_method_18_code
def yX7_keptAt : MethodName := ⟨RX7, "keptAt", "(I)LCanonNames$Graph;"⟩
abbrev cX7_becomes : ByteArray := prog_1_method_19_code
def yX7_becomes : MethodName := ⟨RX7, "becomes", "(LCanonNames$Graph;)Z"⟩
abbrev cX7_keyOf : ByteArray := prog_1_method_20_code
def yX7_keyOf : MethodName := ⟨RX7, "keyOf", "(III)I"⟩
abbrev cX7_partAt : ByteArray := prog_1_method_21_code
def yX7_partAt : MethodName := ⟨RX7, "partAt", "(II)I"⟩
abbrev cX7_pointAt : ByteArray := prog_1_method_22_code
def yX7_pointAt : MethodName := ⟨RX7, "pointAt", "(II)I"⟩
abbrev cX7_renumbered : ByteArray := prog_1_method_23_code
def yX7_renumbered : MethodName := ⟨RX7, "renumbered", "(I[I)I"⟩
abbrev cX7_sort : ByteArray := prog_1_method_24_code
def yX7_sort : MethodName := ⟨RX7, "sort", "([II)V"⟩
abbrev cX7_placeFor : ByteArray := prog_1_method_25_code
def yX7_placeFor : MethodName := ⟨RX7, "placeFor", "(I[II)I"⟩
abbrev cX7_isIn : ByteArray := prog_1_method_26_code
def yX7_isIn : MethodName := ⟨RX7, "isIn", "(I[II)Z"⟩
abbrev cX7_sameRows : ByteArray := prog_1_method_27_code
def yX7_sameRows : MethodName := ⟨RX7, "sameRows", "([I[II)Z"⟩
def RX8 : String := "CanonNamesModel"
def TX8 : u_T := fun k => match k with
  | 0 => ("CanonNamesModel", "constants", "[J", true)
  | 1 => ("CanonNamesModel", "blanks", "[I", true)
  | 2 => ("CanonNamesModel", "counts", "[I", true)
  | 3 => ("CanonNamesModel", "points", "[I", true)
  | 4 => ("CanonNamesModel", "kept", "I", false)
  | 5 => ("CanonNamesModel", "hashes", "[J", true)
  | 6 => ("CanonNamesModel", "news", "[J", true)
  | 7 => ("CanonNamesModel", "rounds", "I", false)
  | 8 => ("CanonNamesModel", "hashed", "Z", false)
  | 9 => ("CanonNamesModel", "groups", "[I", true)
  | 10 => ("CanonNamesModel", "groupOf", "[I", true)
  | 11 => ("CanonNamesModel", "groupCount", "I", false)
  | 12 => ("CanonNamesModel", "trial", "[I", true)
  | 13 => ("CanonNamesModel", "row", "[I", true)
  | 14 => ("CanonNamesModel", "names", "[I", true)
  | 15 => ("CanonNamesModel", "namedBlanks", "I", false)
  | 16 => ("CanonNamesModel", "form", "[I", true)
  | 17 => ("CanonNamesModel", "formCount", "I", false)
  | 18 => ("CanonNamesModel", "octets", "[B", true)
  | 19 => ("CanonNamesModel", "descriptions", "[I", true)
  | 20 => ("CanonNamesModel", "described", "I", false)
  | 21 => ("CanonNamesModel", "message", "[B", true)
  | 22 => ("CanonNamesModel", "size", "I", false)
  | 23 => ("CanonNamesModel", "words", "[J", true)
  | 24 => ("CanonNamesModel", "schedule", "[J", true)
  | 25 => ("CanonNamesModel", "thrown", "I", false)
  | _ => ("CanonNamesModel", "said", "[Z", true)
def tyX8 : Nat → FieldType := fun k => match k with
  | 0 => .array .long
  | 1 => .array .int
  | 2 => .array .int
  | 3 => .array .int
  | 4 => .int
  | 5 => .array .long
  | 6 => .array .long
  | 7 => .int
  | 8 => .boolean
  | 9 => .array .int
  | 10 => .array .int
  | 11 => .int
  | 12 => .array .int
  | 13 => .array .int
  | 14 => .array .int
  | 15 => .int
  | 16 => .array .int
  | 17 => .int
  | 18 => .array .byte
  | 19 => .array .int
  | 20 => .int
  | 21 => .array .byte
  | 22 => .int
  | 23 => .array .long
  | 24 => .array .long
  | 25 => .int
  | _ => .array .boolean
abbrev wsX80 : List Cond := u_ws RX8 TX8 27
theorem nmX8 : ∀ a, a < 27 → ∀ b, b < 27 → a ≠ b → (TX8 a).2.1 ≠ (TX8 b).2.1 := by decide +kernel
theorem tyX8_ok : ∀ k, k < 27 → parseFieldDescriptor (TX8 k).2.2.1 = some (tyX8 k) := by decide +kernel
abbrev cX8_thrown : ByteArray := prog_10_method_1_code
def yX8_thrown : MethodName := ⟨RX8, "thrown", "()I"⟩
abbrev cX8_init : ByteArray := prog_10_method_2_code
def yX8_init : MethodName := ⟨RX8, "<init>", "()V"⟩
abbrev cX8_turned : ByteArray := prog_10_method_3_code
def yX8_turned : MethodName := ⟨RX8, "turned", "(JI)J"⟩
abbrev cX8_digestOf : ByteArray := prog_10_method_4_code
def yX8_digestOf : MethodName := ⟨RX8, "digestOf", "(I)V"⟩
abbrev cX8_block : ByteArray := prog_10_method_5_code
def yX8_block : MethodName := ⟨RX8, "block", "(I)V"⟩
abbrev cX8_octetsOf : ByteArray := prog_10_method_6_code
def yX8_octetsOf : MethodName := ⟨RX8, "octetsOf", "()V"⟩
abbrev cX8_say : ByteArray := prog_10_method_7_code
def yX8_say : MethodName := ⟨RX8, "say", "(I)V"⟩
abbrev cX8_sayNumber : ByteArray := prog_10_method_8_code
def yX8_sayNumber : MethodName := ⟨RX8, "sayNumber", "(J)V"⟩
abbrev cX8_at : ByteArray := prog_10_method_9_code
def yX8_at : MethodName := ⟨RX8, "at", "(II)I"⟩
abbrev cX8_blank : ByteArray := prog_10_method_10_code
def yX8_blank : MethodName := ⟨RX8, "blank", "()I"⟩
abbrev cX8_isPoint : ByteArray := prog_10_method_11_code
def yX8_isPoint : MethodName := ⟨RX8, "isPoint", "(I)Z"⟩
abbrev cX8_find : ByteArray := prog_10_method_12_code
def yX8_find : MethodName := ⟨RX8, "find", "(IIII)I"⟩
abbrev cX8_triple : ByteArray := prog_10_method_13_code
def yX8_triple : MethodName := ⟨RX8, "triple", "(III)I"⟩
abbrev cX8_drop : ByteArray := prog_10_method_14_code
def yX8_drop : MethodName := ⟨RX8, "drop", "(III)I"⟩
abbrev cX8_describe : ByteArray := prog_10_method_15_code
def yX8_describe : MethodName := ⟨RX8, "describe", "(II)V"⟩
abbrev cX8_isBefore : ByteArray := prog_10_method_16_code
def yX8_isBefore : MethodName := ⟨RX8, "isBefore", "(II)Z"⟩
abbrev cX8_next : ByteArray := prog_10_method_17_code
def yX8_next : MethodName := ⟨RX8, "next", "(I)V"⟩
abbrev cX8_compare : ByteArray := prog_10_method_18_code
def yX8_compare : MethodName := ⟨RX8, "compare", "([JII)I"⟩
abbrev cX8_different : ByteArray := prog_10_method_19_code
def yX8_different : MethodName := ⟨RX8, "different", "([J)I"⟩
abbrev cX8_makeHashes : ByteArray := prog_10_method_20_code
def yX8_makeHashes : MethodName := ⟨RX8, "makeHashes", "()V"⟩
abbrev cX8_makeGroups : ByteArray := prog_10_method_21_code
def yX8_makeGroups : MethodName := ⟨RX8, "makeGroups", "(I)V"⟩
abbrev cX8_hash : ByteArray := prog_10_method_22_code
def yX8_hash : MethodName := ⟨RX8, "hash", "(II)I"⟩
abbrev cX8_rounds : ByteArray := prog_10_method_23_code
def yX8_rounds : MethodName := ⟨RX8, "rounds", "()I"⟩
abbrev cX8_first : ByteArray := prog_10_method_24_code
def yX8_first : MethodName := ⟨RX8, "first", "(II)I"⟩
abbrev cX8_turn : ByteArray := prog_10_method_25_code
def yX8_turn : MethodName := ⟨RX8, "turn", "(I)Z"⟩
abbrev cX8_change : ByteArray := prog_10_method_26_code
def yX8_change : MethodName := ⟨RX8, "change", "(II)V"⟩
abbrev cX8_begin : ByteArray := prog_10_method_27_code
def yX8_begin : MethodName := ⟨RX8, "begin", "(I)V"⟩
abbrev cX8_isNaming : ByteArray := prog_10_method_28_code
def yX8_isNaming : MethodName := ⟨RX8, "isNaming", "(I)Z"⟩
abbrev cX8_compareTriples : ByteArray := prog_10_method_29_code
def yX8_compareTriples : MethodName := ⟨RX8, "compareTriples", "([II[II)I"⟩
abbrev cX8_numbered : ByteArray := prog_10_method_30_code
def yX8_numbered : MethodName := ⟨RX8, "numbered", "(I)I"⟩
abbrev cX8_makeRow : ByteArray := prog_10_method_31_code
def yX8_makeRow : MethodName := ⟨RX8, "makeRow", "()V"⟩
abbrev cX8_compareForm : ByteArray := prog_10_method_32_code
def yX8_compareForm : MethodName := ⟨RX8, "compareForm", "()I"⟩
abbrev cX8_namings : ByteArray := prog_10_method_33_code
def yX8_namings : MethodName := ⟨RX8, "namings", "()J"⟩
abbrev cX8_name : ByteArray := prog_10_method_34_code
def yX8_name : MethodName := ⟨RX8, "name", "(J)I"⟩
abbrev cX8_take : ByteArray := prog_10_method_35_code
def yX8_take : MethodName := ⟨RX8, "take", "(I)V"⟩
abbrev cX8_named : ByteArray := prog_10_method_36_code
def yX8_named : MethodName := ⟨RX8, "named", "(I)I"⟩
abbrev cX8_form : ByteArray := prog_10_method_37_code
def yX8_form : MethodName := ⟨RX8, "form", "(II)I"⟩
abbrev cX8_octet : ByteArray := prog_10_method_38_code
def yX8_octet : MethodName := ⟨RX8, "octet", "(I)B"⟩
abbrev cX8_keep : ByteArray := prog_10_method_39_code
def yX8_keep : MethodName := ⟨RX8, "keep", "()I"⟩
abbrev cX8_isKept : ByteArray := prog_10_method_40_code
def yX8_isKept : MethodName := ⟨RX8, "isKept", "(I)Z"⟩
abbrev cX8_becomes : ByteArray := prog_10_method_41_code
def yX8_becomes : MethodName := ⟨RX8, "becomes", "(I)Z"⟩
abbrev cX8_ways : ByteArray := prog_10_method_42_code
def yX8_ways : MethodName := ⟨RX8, "ways", "(I)I"⟩
abbrev cX8_isomorphic : ByteArray := prog_10_method_43_code
def yX8_isomorphic : MethodName := ⟨RX8, "isomorphic", "(I)I"⟩
abbrev cX8_equal : ByteArray := prog_10_method_44_code
def yX8_equal : MethodName := ⟨RX8, "equal", "(I)I"⟩
abbrev cX8_triples : ByteArray := prog_10_method_45_code
def yX8_triples : MethodName := ⟨RX8, "triples", "()I"⟩
abbrev cX8_blanks : ByteArray := prog_10_method_46_code
def yX8_blanks : MethodName := ⟨RX8, "blanks", "()I"⟩
def RJx00060 : String := "java/lang/ArrayIndexOutOfBoundsException"
def TJx00060 : u_T := fun k => match k with
  | 0 => ("java/lang/Throwable", "cause", "Ljava/lang/Throwable;", false)
  | 1 => ("java/lang/Throwable", "stackTrace", "[Ljava/lang/StackTraceElement;", false)
  | 2 => ("java/lang/Throwable", "suppressedExceptions", "Ljava/util/List;", false)
  | 3 => ("java/lang/Throwable", "detailMessage", "Ljava/lang/String;", false)
  | 4 => ("java/lang/Throwable", "backtrace", "Ljava/lang/Object;", false)
  | _ => ("java/lang/Throwable", "depth", "I", false)
def tyJx00060 : Nat → FieldType := fun k => match k with
  | 0 => .object "java/lang/Throwable"
  | 1 => .array (.object "java/lang/StackTraceElement")
  | 2 => .object "java/util/List"
  | 3 => .object "java/lang/String"
  | 4 => .object "java/lang/Object"
  | _ => .int
abbrev wsJx000600 : List Cond := u_ws RJx00060 TJx00060 6
theorem nmJx00060 : ∀ a, a < 6 → ∀ b, b < 6 → a ≠ b → (TJx00060 a).2.1 ≠ (TJx00060 b).2.1 := by decide +kernel
theorem tyJx00060_ok : ∀ k, k < 6 → parseFieldDescriptor (TJx00060 k).2.2.1 = some (tyJx00060 k) := by decide +kernel
abbrev cJx00060_init_a7421 : ByteArray := prog_11_method_2_code
def yJx00060_init_a7421 : MethodName := ⟨RJx00060, "<init>", "(Ljava/lang/String;)V"⟩
def RJ9 : String := "java/lang/Math"
def TJ9 : u_T := fun k => match k with
  | _ => ("", "", "", false)
def tyJ9 : Nat → FieldType := fun k => match k with
  | _ => .int
abbrev wsJ90 : List Cond := u_ws RJ9 TJ9 0
theorem nmJ9 : ∀ a, a < 0 → ∀ b, b < 0 → a ≠ b → (TJ9 a).2.1 ≠ (TJ9 b).2.1 := by decide +kernel
theorem tyJ9_ok : ∀ k, k < 0 → parseFieldDescriptor (TJ9 k).2.2.1 = some (tyJ9 k) := by decide +kernel
abbrev cJ9_max_7cf53 : ByteArray := prog_14_method_65_code
def yJ9_max_7cf53 : MethodName := ⟨RJ9, "max", "(II)I"⟩
abbrev cJ9_min_7cf53 : ByteArray := prog_14_method_69_code
def yJ9_min_7cf53 : MethodName := ⟨RJ9, "min", "(II)I"⟩
def RJ0 : String := "java/lang/String"
def TJ0 : u_T := fun k => match k with
  | _ => ("", "", "", false)
def tyJ0 : Nat → FieldType := fun k => match k with
  | _ => .int
abbrev wsJ00 : List Cond := u_ws RJ0 TJ0 0
theorem nmJ0 : ∀ a, a < 0 → ∀ b, b < 0 → a ≠ b → (TJ0 a).2.1 ≠ (TJ0 b).2.1 := by decide +kernel
theorem tyJ0_ok : ∀ k, k < 0 → parseFieldDescriptor (TJ0 k).2.2.1 = some (tyJ0 k) := by decide +kernel
def RJ10 : String := "java/lang/System"
def TJ10 : u_T := fun k => match k with
  | _ => ("", "", "", false)
def tyJ10 : Nat → FieldType := fun k => match k with
  | _ => .int
abbrev wsJ100 : List Cond := u_ws RJ10 TJ10 0
theorem nmJ10 : ∀ a, a < 0 → ∀ b, b < 0 → a ≠ b → (TJ10 a).2.1 ≠ (TJ10 b).2.1 := by decide +kernel
theorem tyJ10_ok : ∀ k, k < 0 → parseFieldDescriptor (TJ10 k).2.2.1 = some (tyJ10 k) := by decide +kernel
def RL : String := "CanonNamesLaw"
abbrev cL_octet : ByteArray := method_3_code
def yL_octet : MethodName := ⟨RL, "octet", "(LCanonNames;I[J)I"⟩
abbrev cL_law : ByteArray := code
def yL_law : MethodName := ⟨RL, "law", "([I)Z"⟩
abbrev vwCl : List vw_C := [(RJx00060, TJx00060, 6), (RX0, TX0, 6), (RX1, TX1, 5), (RX2, TX2, 3), (RX3, TX3, 4), (RX4, TX4, 2), (RX5, TX5, 4), (RX6, TX6, 4), (RX7, TX7, 8), (RX8, TX8, 27)]
end
section
/-! THE ABSTRACT LAYER. A state of a method: pc, locals, operand stack, world; references are TOKENS: 0, 1, 2 the three static arrays, 3 the script, 4 .. 99 cells that the method doesn't open, j + 100 the world's cell j. 'G' is the machine's judgement W over such states, 'Con' a contract. -/
abbrev ab_M : Type := String × MethodName × ByteArray × Nat × Option FieldType
abbrev ab_C : Type := (Nat × vp_A) ⊕ (Nat × List Value)
def ab_v (ad : Nat → Nat) (v : Value) : Value := match v with
  | .ref k => .ref (ad k)
  | v => v
def ab_a (ad : Nat → Nat) (a : vp_A) : vp_A := match a with
  | (n, .inr (.inr (.inr (.inr f)))) => (n, .inr (.inr (.inr (.inr (fun j => (f j).map ad)))))
  | a => a
def ab_e (tc : Nat → ClassId) (ad : Nat → Nat) (c : ab_C) : va_E := match c with
  | .inl (t, a) => .inl (tc t, ab_a ad a)
  | .inr (ci, fs) => .inr (ci, fs.map (ab_v ad))
def ab_w (tc : Nat → ClassId) (ad : Nat → Nat) : Nat → List ab_C → va_W
  | _, [] => []
  | i, c :: w => (ad i, ab_e tc ad c) :: ab_w tc ad (i + 1) w
theorem ab_w_at (tc : Nat → ClassId) (ad : Nat → Nat) : ∀ (w : List ab_C) (i k : Nat), (ab_w tc ad i w)[k]? = (w[k]?).map (fun c => (ad (k + i), ab_e tc ad c))
  | [], i, k => by simp [ab_w]
  | c :: w, i, 0 => by simp [ab_w]
  | c :: w, i, k + 1 => by
    rw [ab_w, List.getElem?_cons_succ, List.getElem?_cons_succ, ab_w_at tc ad w (i + 1) k, Nat.add_right_comm k 1 i, Nat.add_assoc k i 1]
theorem ab_w_len (tc : Nat → ClassId) (ad : Nat → Nat) : ∀ (w : List ab_C) (i : Nat), (ab_w tc ad i w).length = w.length
  | [], i => rfl
  | c :: w, i => by simp [ab_w, ab_w_len tc ad w (i + 1)]
theorem ab_w_set (tc : Nat → ClassId) (ad : Nat → Nat) (w : List ab_C) (i k : Nat) (c : ab_C) : ab_w tc ad i (w.set k c) = (ab_w tc ad i w).set k (ad (k + i), ab_e tc ad c) := by
  apply List.ext_getElem?
  intro j
  rw [ab_w_at, List.getElem?_set, List.getElem?_set, ab_w_len, ab_w_at]
  by_cases h : k = j
  · subst h
    by_cases hl : k < w.length <;> simp [hl]
  · simp [h]
theorem ab_w_app (tc : Nat → ClassId) (ad : Nat → Nat) : ∀ (w v : List ab_C) (i : Nat), ab_w tc ad i (w ++ v) = ab_w tc ad i w ++ ab_w tc ad (w.length + i) v
  | [], v, i => by simp [ab_w]
  | c :: w, v, i => by
    rw [List.cons_append, ab_w, ab_w, ab_w_app tc ad w v (i + 1), List.cons_append, List.length_cons, Nat.add_right_comm w.length 1 i, Nat.add_assoc w.length i 1]
/-- the array classes -/
def ab_tys (tc : Nat → ClassId) : List (ClassId × FieldType) := [(tc 0, .int), (tc 1, .long), (tc 2, .byte), (tc 3, .boolean), (tc 4, .object RX0)]
/-- the words that hold everywhere -/
def ab_U : List Cond := lw_tbl.filter goodWord
def ab_isN (w : Cond) : Bool := match w with
  | .methodLinkNest .. => true
  | _ => false
def ab_N : List Cond := lw_tbl.filter ab_isN
theorem ab_goodU : GoodIn ab_U ab_U := fun w h => ⟨h, good_of_word (List.mem_filter.mp h).2⟩
/-- the statics: three arrays of ints that nobody writes -/
def ab_l (l : List Int32) : Nat → Int32 := fun j => l.getD j 0
def ab_noBytes : List Int32 := [0xe3b0c442, 0x98fc1c14, 0x9afbf4c8, 0x996fb924, 0x27ae41e4, 0x649b934c, 0xa495991b, 0x7852b855]
def ab_start : List Int32 := [0x6a09e667, 0xbb67ae85, 0x3c6ef372, 0xa54ff53a, 0x510e527f, 0x9b05688c, 0x1f83d9ab, 0x5be0cd19]
def ab_steps : List Int32 := [0x428a2f98, 0x71374491, 0xb5c0fbcf, 0xe9b5dba5, 0x3956c25b, 0x59f111f1, 0x923f82a4, 0xab1c5ed5,
  0xd807aa98, 0x12835b01, 0x243185be, 0x550c7dc3, 0x72be5d74, 0x80deb1fe, 0x9bdc06a7, 0xc19bf174,
  0xe49b69c1, 0xefbe4786, 0x0fc19dc6, 0x240ca1cc, 0x2de92c6f, 0x4a7484aa, 0x5cb0a9dc, 0x76f988da,
  0x983e5152, 0xa831c66d, 0xb00327c8, 0xbf597fc7, 0xc6e00bf3, 0xd5a79147, 0x06ca6351, 0x14292967,
  0x27b70a85, 0x2e1b2138, 0x4d2c6dfc, 0x53380d13, 0x650a7354, 0x766a0abb, 0x81c2c92e, 0x92722c85,
  0xa2bfe8a1, 0xa81a664b, 0xc24b8b70, 0xc76c51a3, 0xd192e819, 0xd6990624, 0xf40e3585, 0x106aa070,
  0x19a4c116, 0x1e376c08, 0x2748774c, 0x34b0bcb5, 0x391c0cb3, 0x4ed8aa4a, 0x5b9cca4f, 0x682e6ff3,
  0x748f82ee, 0x78a5636f, 0x84c87814, 0x8cc70208, 0x90befffa, 0xa4506ceb, 0xbef9a3f7, 0xc67178f2]
abbrev ab_XO : Type := List (Nat × (Nat → Int32))
def ab_x0 : ab_XO := [(8, ab_l ab_noBytes), (8, ab_l ab_start), (64, ab_l ab_steps)]
def ab_sn : List (String × String) := [(RX2, "NO_BYTES"), (RX6, "START"), (RX6, "STEPS")]
/-- what lies outside the world: read-only arrays, the statics that hold them, the nest mates' links -/
def ab_O (xo : ab_XO) (ad : Nat → Nat) (A : Nat → Prop) (U : State) (H : Heap) : Prop :=
  (∀ (i : Nat) (q : Nat × (Nat → Int32)), xo[i]? = some q → va_T .int (ad i) q.1 (fun j => .int (q.2 j)) A U H) ∧
  (∀ (i : Nat) (q : String × String), ab_sn[i]? = some q → va_Z q.1 q.2 "[I" (.ref (ad i)) A U H) ∧ (∀ w ∈ ab_N, va_Nw w U) ∧ va_AO RX0 U ∧ xo.length ≤ 100
theorem ab_O.moved {xo : ab_XO} {ad : Nat → Nat} {A : Nat → Prop} {s U : State} {H : Heap} (hW : s.WarmedH U.vm) (h : ab_O xo ad A s H) : ab_O xo ad A U H := by
  refine ⟨fun i q hq => (h.1 i q hq).moved hW.alike, fun i q hq => (h.2.1 i q hq).moved hW.alike, fun w hw => ?_, h.2.2.2.1.moved hW.alike, h.2.2.2.2⟩
  have h1 := h.2.2.1 w hw
  have h2 := (List.mem_filter.mp hw).2
  cases w <;> first | exact va_Nw.warmM hW h1 | (simp [ab_isN] at h2)
theorem ab_O.kept {xo : ab_XO} {ad : Nat → Nat} {A : Nat → Prop} {U : State} {H H1 : Heap} (h : ab_O xo ad A U H) (hq : ∀ a : Nat, a < H.size → ¬ A a → H1[a]? = H[a]?) : ab_O xo ad A U H1 :=
  ⟨fun i q hi => (h.1 i q hi).kept hq, fun i q hi => (h.2.1 i q hi).kept hq, h.2.2⟩
theorem ab_O.narrow {xo : ab_XO} {ad : Nat → Nat} {A B : Nat → Prop} {U : State} {H : Heap} (h : ab_O xo ad A U H) (hq : ∀ q, B q → A q) : ab_O xo ad B U H :=
  ⟨fun i q hi => (h.1 i q hi).narrow hq, fun i q hi => (h.2.1 i q hi).narrow hq, h.2.2⟩
theorem ab_O.re {xo : ab_XO} {ad ad' : Nat → Nat} {A : Nat → Prop} {U : State} {H : Heap} (h : ab_O xo ad A U H) (hq : ∀ t, t < 100 → ad' t = ad t) : ab_O xo ad' A U H := by
  refine ⟨fun i q hi => ?_, fun i q hi => ?_, h.2.2⟩
  · rw [hq i (Nat.lt_of_lt_of_le (List.getElem?_eq_some_iff.mp hi).1 h.2.2.2.2)]
    exact h.1 i q hi
  · rw [hq i (Nat.lt_of_lt_of_le (List.getElem?_eq_some_iff.mp hi).1 (by decide))]
    exact h.2.1 i q hi
/-- the locals -/
def ab_L (ad : Nat → Nat) (ls : Array Slot) (L : List (Option Value)) : Prop := ls.size = L.length ∧ lv_wf ls ∧ ∀ (i : Nat) (v : Value), L[i]? = some (some v) → ls[i]? = some (.val (ab_v ad v))
/-- a method's fixed context -/
def ab_X (xo : ab_XO) (M : ab_M) (d : Nat) (p : Program) (R : Room) (s : State) (m : MethodId) (args : Array Value) (meth : Method) (c : Code) (D : va_G) (tc : Nat → ClassId) (ad : Nat → Nat) (A : Nat → Prop) : Prop :=
  (p.tables.exec = Jvm.exec ∧ c.code = M.2.2.1 ∧ c.maxLocals = M.2.2.2.1 ∧ s.vm.findClass M.1 = some m.cls) ∧ (meth.sig.returnType = M.2.2.2.2 ∧ meth.locks = false ∧ meth.name = M.2.1.name) ∧ (∀ w ∈ ab_U, w.before args s = true) ∧ va_K D vwCl (ab_tys tc) s ∧ (∀ q : Nat, s.heap.size ≤ q → A q) ∧ (d ≤ R.frames ∧ 64 * d ≤ R.locals) ∧ ab_O xo ad A s s.heap
/-- the heap holds the world; nothing else has changed -/
def ab_R (D : va_G) (tc : Nat → ClassId) (ad : Nat → Nat) (A : Nat → Prop) (s : State) (H : Heap) (locs : List Loc) (w : List ab_C) : Prop :=
  va_P D vwCl (ab_w tc ad 100 w) H ∧ va_D A (ab_w tc ad 100 w) ∧ va_S A s.heap H locs
/-- a return that is due: its instruction, the answer's kind -/
def ab_ret (M : ab_M) (pc : Nat) (v : Option Value) : Prop := match v with
  | none => decode M.2.2.1 pc = .ok (.return_, 1) ∧ M.2.2.2.2 = none
  | some (.int x) => decode M.2.2.1 pc = .ok (.ireturn, 1) ∧ ∃ ty : FieldType, M.2.2.2.2 = some ty ∧ narrow ty (.int x) = .int x
  | some (.long _) => decode M.2.2.1 pc = .ok (.lreturn, 1) ∧ M.2.2.2.2 = some .long
  | some (.ref _) => decode M.2.2.1 pc = .ok (.areturn, 1) ∧ ∃ n : String, M.2.2.2.2 = some (.object n)
  | some .null => decode M.2.2.1 pc = .ok (.areturn, 1) ∧ ∃ n : String, M.2.2.2.2 = some (.object n)
  | _ => False
/-- the tokens' addresses go on; where no cell was made they are the same -/
def ab_ext (w : List ab_C) (ad : Nat → Nat) (w' : List ab_C) (ad' : Nat → Nat) : Prop := (∀ t, t < w.length + 100 → ad' t = ad t) ∧ w.length ≤ w'.length ∧ (w'.length = w.length → ad' = ad)
/-- THE JUDGEMENT: from this state on method M comes to a return with Q; at most k cells and n slots are made, calls go at most d deep -/
def G (xo : ab_XO) (M : ab_M) (d k n : Nat) (Q : List ab_C → Option Value → Prop) (pc : Nat) (L : List (Option Value)) (st : List Value) (w : List ab_C) : Prop :=
  ∀ (p : Program) (l : Launch) (e : Env) (R : Room) (s : State) (m : MethodId) (args : Array Value) (below : List Frame) (meth : Method) (c : Code) (Z : State → Prop) (D : va_G) (tc : Nat → ClassId) (ad : Nat → Nat) (A : Nat → Prop) (H : Heap) (locs : List Loc) (cells slots : Nat) (ls : Array Slot),
    ab_X xo M d p R s m args meth c D tc ad A → ab_R D tc ad A s H locs w → ab_L ad ls L → cells + k ≤ R.cells → slots + n ≤ R.slots →
    (∀ (pc' : Nat) (ad' : Nat → Nat) (H' : Heap) (locs' : List Loc) (cells' slots' : Nat) (ls' : Array Slot) (w' : List ab_C) (v : Option Value),
      ab_ret M pc' v → ab_ext w ad w' ad' → ab_R D tc ad' A s H' locs' w' → cells' ≤ cells + k → slots' ≤ slots + n → Q w' v →
      W p l e R s m args below meth c H' locs' cells' slots' Z (F0 m pc' ls' (v.toList.map (ab_v ad')))) →
    W p l e R s m args below meth c H locs cells slots Z (F0 m pc ls (st.map (ab_v ad)))
end
section
section AB
variable {xo : ab_XO} {M : ab_M} {d k n : Nat} {Q : List ab_C → Option Value → Prop} {pc : Nat} {L L' : List (Option Value)} {st : List Value} {w : List ab_C}
theorem G_iadd {x y : Int32} (hd : decode M.2.2.1 pc = .ok (.iadd, 1)) (kk : G xo M d k n Q (pc + 1) L (.int (x + y) :: st) w) : G xo M d k n Q pc L (.int y :: .int x :: st) w := by
  intro p l e R s m args below meth c Z D tc ad A H locs cells slots ls X hR hL hc hs fin
  exact lv_iadd X.1.1 X.1.2.1 hd  (kk p l e R s m args below meth c Z D tc ad A H locs cells slots ls X hR hL hc hs fin)
theorem G_isub {x y : Int32} (hd : decode M.2.2.1 pc = .ok (.isub, 1)) (kk : G xo M d k n Q (pc + 1) L (.int (x - y) :: st) w) : G xo M d k n Q pc L (.int y :: .int x :: st) w := by
  intro p l e R s m args below meth c Z D tc ad A H locs cells slots ls X hR hL hc hs fin
  exact lv_isub X.1.1 X.1.2.1 hd  (kk p l e R s m args below meth c Z D tc ad A H locs cells slots ls X hR hL hc hs fin)
theorem G_imul {x y : Int32} (hd : decode M.2.2.1 pc = .ok (.imul, 1)) (kk : G xo M d k n Q (pc + 1) L (.int (x * y) :: st) w) : G xo M d k n Q pc L (.int y :: .int x :: st) w := by
  intro p l e R s m args below meth c Z D tc ad A H locs cells slots ls X hR hL hc hs fin
  exact lv_imul X.1.1 X.1.2.1 hd  (kk p l e R s m args below meth c Z D tc ad A H locs cells slots ls X hR hL hc hs fin)
theorem G_iand {x y : Int32} (hd : decode M.2.2.1 pc = .ok (.iand, 1)) (kk : G xo M d k n Q (pc + 1) L (.int (x &&& y) :: st) w) : G xo M d k n Q pc L (.int y :: .int x :: st) w := by
  intro p l e R s m args below meth c Z D tc ad A H locs cells slots ls X hR hL hc hs fin
  exact lv_iand X.1.1 X.1.2.1 hd  (kk p l e R s m args below meth c Z D tc ad A H locs cells slots ls X hR hL hc hs fin)
theorem G_ior {x y : Int32} (hd : decode M.2.2.1 pc = .ok (.ior, 1)) (kk : G xo M d k n Q (pc + 1) L (.int (x ||| y) :: st) w) : G xo M d k n Q pc L (.int y :: .int x :: st) w := by
  intro p l e R s m args below meth c Z D tc ad A H locs cells slots ls X hR hL hc hs fin
  exact lv_ior X.1.1 X.1.2.1 hd  (kk p l e R s m args below meth c Z D tc ad A H locs cells slots ls X hR hL hc hs fin)
theorem G_ixor {x y : Int32} (hd : decode M.2.2.1 pc = .ok (.ixor, 1)) (kk : G xo M d k n Q (pc + 1) L (.int (x ^^^ y) :: st) w) : G xo M d k n Q pc L (.int y :: .int x :: st) w := by
  intro p l e R s m args below meth c Z D tc ad A H locs cells slots ls X hR hL hc hs fin
  exact lv_ixor X.1.1 X.1.2.1 hd  (kk p l e R s m args below meth c Z D tc ad A H locs cells slots ls X hR hL hc hs fin)
theorem G_ishl {x y : Int32} (hd : decode M.2.2.1 pc = .ok (.ishl, 1)) (kk : G xo M d k n Q (pc + 1) L (.int (x <<< (y &&& 31)) :: st) w) : G xo M d k n Q pc L (.int y :: .int x :: st) w := by
  intro p l e R s m args below meth c Z D tc ad A H locs cells slots ls X hR hL hc hs fin
  exact lv_ishl X.1.1 X.1.2.1 hd  (kk p l e R s m args below meth c Z D tc ad A H locs cells slots ls X hR hL hc hs fin)
theorem G_ishr {x y : Int32} (hd : decode M.2.2.1 pc = .ok (.ishr, 1)) (kk : G xo M d k n Q (pc + 1) L (.int (x >>> (y &&& 31)) :: st) w) : G xo M d k n Q pc L (.int y :: .int x :: st) w := by
  intro p l e R s m args below meth c Z D tc ad A H locs cells slots ls X hR hL hc hs fin
  exact lv_ishr X.1.1 X.1.2.1 hd  (kk p l e R s m args below meth c Z D tc ad A H locs cells slots ls X hR hL hc hs fin)
theorem G_idiv {x y : Int32} (hd : decode M.2.2.1 pc = .ok (.idiv, 1)) (hne : ¬ y = 0) (kk : G xo M d k n Q (pc + 1) L (.int (x / y) :: st) w) : G xo M d k n Q pc L (.int y :: .int x :: st) w := by
  intro p l e R s m args below meth c Z D tc ad A H locs cells slots ls X hR hL hc hs fin
  exact lv_idiv X.1.1 X.1.2.1 hd hne (kk p l e R s m args below meth c Z D tc ad A H locs cells slots ls X hR hL hc hs fin)
theorem G_irem {x y : Int32} (hd : decode M.2.2.1 pc = .ok (.irem, 1)) (hne : ¬ y = 0) (kk : G xo M d k n Q (pc + 1) L (.int (x - x / y * y) :: st) w) : G xo M d k n Q pc L (.int y :: .int x :: st) w := by
  intro p l e R s m args below meth c Z D tc ad A H locs cells slots ls X hR hL hc hs fin
  exact lv_irem X.1.1 X.1.2.1 hd hne (kk p l e R s m args below meth c Z D tc ad A H locs cells slots ls X hR hL hc hs fin)
theorem G_iushr {x y : Int32} (hd : decode M.2.2.1 pc = .ok (.iushr, 1)) (kk : G xo M d k n Q (pc + 1) L (.int (x.toUInt32 >>> (y.toUInt32 &&& Int32.toUInt32 31)).toInt32 :: st) w) : G xo M d k n Q pc L (.int y :: .int x :: st) w := by
  intro p l e R s m args below meth c Z D tc ad A H locs cells slots ls X hR hL hc hs fin
  exact lv_iushr X.1.1 X.1.2.1 hd rfl (kk p l e R s m args below meth c Z D tc ad A H locs cells slots ls X hR hL hc hs fin)
theorem G_ineg {x : Int32} (hd : decode M.2.2.1 pc = .ok (.ineg, 1)) (kk : G xo M d k n Q (pc + 1) L (.int (-x) :: st) w) : G xo M d k n Q pc L (.int x :: st) w := by
  intro p l e R s m args below meth c Z D tc ad A H locs cells slots ls X hR hL hc hs fin
  exact lv_ineg X.1.1 X.1.2.1 hd  (kk p l e R s m args below meth c Z D tc ad A H locs cells slots ls X hR hL hc hs fin)
theorem G_ladd {x y : Int64} (hd : decode M.2.2.1 pc = .ok (.ladd, 1)) (kk : G xo M d k n Q (pc + 1) L (.long (x + y) :: st) w) : G xo M d k n Q pc L (.long y :: .long x :: st) w := by
  intro p l e R s m args below meth c Z D tc ad A H locs cells slots ls X hR hL hc hs fin
  exact lv_ladd X.1.1 X.1.2.1 hd  (kk p l e R s m args below meth c Z D tc ad A H locs cells slots ls X hR hL hc hs fin)
theorem G_lsub {x y : Int64} (hd : decode M.2.2.1 pc = .ok (.lsub, 1)) (kk : G xo M d k n Q (pc + 1) L (.long (x - y) :: st) w) : G xo M d k n Q pc L (.long y :: .long x :: st) w := by
  intro p l e R s m args below meth c Z D tc ad A H locs cells slots ls X hR hL hc hs fin
  exact lv_lsub X.1.1 X.1.2.1 hd  (kk p l e R s m args below meth c Z D tc ad A H locs cells slots ls X hR hL hc hs fin)
theorem G_lmul {x y : Int64} (hd : decode M.2.2.1 pc = .ok (.lmul, 1)) (kk : G xo M d k n Q (pc + 1) L (.long (x * y) :: st) w) : G xo M d k n Q pc L (.long y :: .long x :: st) w := by
  intro p l e R s m args below meth c Z D tc ad A H locs cells slots ls X hR hL hc hs fin
  exact lv_lmul X.1.1 X.1.2.1 hd  (kk p l e R s m args below meth c Z D tc ad A H locs cells slots ls X hR hL hc hs fin)
theorem G_land {x y : Int64} (hd : decode M.2.2.1 pc = .ok (.land, 1)) (kk : G xo M d k n Q (pc + 1) L (.long (x &&& y) :: st) w) : G xo M d k n Q pc L (.long y :: .long x :: st) w := by
  intro p l e R s m args below meth c Z D tc ad A H locs cells slots ls X hR hL hc hs fin
  exact lv_land X.1.1 X.1.2.1 hd  (kk p l e R s m args below meth c Z D tc ad A H locs cells slots ls X hR hL hc hs fin)
theorem G_lor {x y : Int64} (hd : decode M.2.2.1 pc = .ok (.lor, 1)) (kk : G xo M d k n Q (pc + 1) L (.long (x ||| y) :: st) w) : G xo M d k n Q pc L (.long y :: .long x :: st) w := by
  intro p l e R s m args below meth c Z D tc ad A H locs cells slots ls X hR hL hc hs fin
  exact lv_lor X.1.1 X.1.2.1 hd  (kk p l e R s m args below meth c Z D tc ad A H locs cells slots ls X hR hL hc hs fin)
theorem G_lxor {x y : Int64} (hd : decode M.2.2.1 pc = .ok (.lxor, 1)) (kk : G xo M d k n Q (pc + 1) L (.long (x ^^^ y) :: st) w) : G xo M d k n Q pc L (.long y :: .long x :: st) w := by
  intro p l e R s m args below meth c Z D tc ad A H locs cells slots ls X hR hL hc hs fin
  exact lv_lxor X.1.1 X.1.2.1 hd  (kk p l e R s m args below meth c Z D tc ad A H locs cells slots ls X hR hL hc hs fin)
theorem G_lshl {x : Int64} {y : Int32} (hd : decode M.2.2.1 pc = .ok (.lshl, 1)) (kk : G xo M d k n Q (pc + 1) L (.long (x <<< (y.toInt64 &&& 63)) :: st) w) : G xo M d k n Q pc L (.int y :: .long x :: st) w := by
  intro p l e R s m args below meth c Z D tc ad A H locs cells slots ls X hR hL hc hs fin
  exact lv_lshl X.1.1 X.1.2.1 hd rfl (kk p l e R s m args below meth c Z D tc ad A H locs cells slots ls X hR hL hc hs fin)
theorem G_lshr {x : Int64} {y : Int32} (hd : decode M.2.2.1 pc = .ok (.lshr, 1)) (kk : G xo M d k n Q (pc + 1) L (.long (x >>> (y.toInt64 &&& 63)) :: st) w) : G xo M d k n Q pc L (.int y :: .long x :: st) w := by
  intro p l e R s m args below meth c Z D tc ad A H locs cells slots ls X hR hL hc hs fin
  exact lv_lshr X.1.1 X.1.2.1 hd rfl (kk p l e R s m args below meth c Z D tc ad A H locs cells slots ls X hR hL hc hs fin)
theorem G_i2l {x : Int32} (hd : decode M.2.2.1 pc = .ok (.i2l, 1)) (kk : G xo M d k n Q (pc + 1) L (.long x.toInt64 :: st) w) : G xo M d k n Q pc L (.int x :: st) w := by
  intro p l e R s m args below meth c Z D tc ad A H locs cells slots ls X hR hL hc hs fin
  exact lv_i2l X.1.1 X.1.2.1 hd rfl (kk p l e R s m args below meth c Z D tc ad A H locs cells slots ls X hR hL hc hs fin)
theorem G_l2i {x : Int64} (hd : decode M.2.2.1 pc = .ok (.l2i, 1)) (kk : G xo M d k n Q (pc + 1) L (.int x.toInt32 :: st) w) : G xo M d k n Q pc L (.long x :: st) w := by
  intro p l e R s m args below meth c Z D tc ad A H locs cells slots ls X hR hL hc hs fin
  exact lv_l2i X.1.1 X.1.2.1 hd rfl (kk p l e R s m args below meth c Z D tc ad A H locs cells slots ls X hR hL hc hs fin)
theorem G_i2b {x : Int32} (hd : decode M.2.2.1 pc = .ok (.i2b, 1)) (kk : G xo M d k n Q (pc + 1) L (.int x.toInt8.toInt32 :: st) w) : G xo M d k n Q pc L (.int x :: st) w := by
  intro p l e R s m args below meth c Z D tc ad A H locs cells slots ls X hR hL hc hs fin
  exact lv_i2b X.1.1 X.1.2.1 hd rfl (kk p l e R s m args below meth c Z D tc ad A H locs cells slots ls X hR hL hc hs fin)
theorem G_lcmp {x y : Int64} (hd : decode M.2.2.1 pc = .ok (.lcmp, 1)) (kk : G xo M d k n Q (pc + 1) L (.int (lg_cmp x y) :: st) w) : G xo M d k n Q pc L (.long y :: .long x :: st) w := by
  intro p l e R s m args below meth c Z D tc ad A H locs cells slots ls X hR hL hc hs fin
  exact W.lcmp X.1.1 X.1.2.1 hd  (kk p l e R s m args below meth c Z D tc ad A H locs cells slots ls X hR hL hc hs fin)
theorem G_iconst {i : Int} {v : Int32} (hd : decode M.2.2.1 pc = .ok (.iconst i, 1)) (hv : Int32.ofInt i = v) (kk : G xo M d k n Q (pc + 1) L (.int v :: st) w) : G xo M d k n Q pc L (st) w := by
  intro p l e R s m args below meth c Z D tc ad A H locs cells slots ls X hR hL hc hs fin
  exact lv_iconst X.1.1 X.1.2.1 hd hv (kk p l e R s m args below meth c Z D tc ad A H locs cells slots ls X hR hL hc hs fin)
theorem G_bipush {i : Int} {v : Int32} (hd : decode M.2.2.1 pc = .ok (.bipush i, 2)) (hv : (Int8.ofInt i).toInt32 = v) (kk : G xo M d k n Q (pc + 2) L (.int v :: st) w) : G xo M d k n Q pc L (st) w := by
  intro p l e R s m args below meth c Z D tc ad A H locs cells slots ls X hR hL hc hs fin
  exact lv_bipush X.1.1 X.1.2.1 hd hv (kk p l e R s m args below meth c Z D tc ad A H locs cells slots ls X hR hL hc hs fin)
theorem G_sipush {i : Int} {v : Int32} (hd : decode M.2.2.1 pc = .ok (.sipush i, 3)) (hv : (Int16.ofInt i).toInt32 = v) (kk : G xo M d k n Q (pc + 3) L (.int v :: st) w) : G xo M d k n Q pc L (st) w := by
  intro p l e R s m args below meth c Z D tc ad A H locs cells slots ls X hR hL hc hs fin
  exact lv_sipush X.1.1 X.1.2.1 hd hv (kk p l e R s m args below meth c Z D tc ad A H locs cells slots ls X hR hL hc hs fin)
theorem G_lconst {i : Fin 2} {v : Int64} (hd : decode M.2.2.1 pc = .ok (.lconst i, 1)) (hv : Int64.ofNat (i : Nat) = v) (kk : G xo M d k n Q (pc + 1) L (.long v :: st) w) : G xo M d k n Q pc L (st) w := by
  intro p l e R s m args below meth c Z D tc ad A H locs cells slots ls X hR hL hc hs fin
  exact lv_lconst X.1.1 X.1.2.1 hd hv (kk p l e R s m args below meth c Z D tc ad A H locs cells slots ls X hR hL hc hs fin)
theorem G_null  (hd : decode M.2.2.1 pc = .ok (.aconst_null, 1)) (kk : G xo M d k n Q (pc + 1) L (.null :: st) w) : G xo M d k n Q pc L (st) w := by
  intro p l e R s m args below meth c Z D tc ad A H locs cells slots ls X hR hL hc hs fin
  exact lv_null X.1.1 X.1.2.1 hd  (kk p l e R s m args below meth c Z D tc ad A H locs cells slots ls X hR hL hc hs fin)
theorem G_ldc {i : Nat} {v : Int32} (hd : decode M.2.2.1 pc = .ok (.ldc i, 2)) (hw : Jvm.Cond.constant M.1 i v ∈ ab_U) (kk : G xo M d k n Q (pc + 2) L (.int v :: st) w) : G xo M d k n Q pc L st w := by
  intro p l e R s m args below meth c Z D tc ad A H locs cells slots ls X hR hL hc hs fin
  exact lv_ldc X.1.1 X.1.2.1 X.1.2.2.2 (X.2.2.1 _ hw) hd (kk p l e R s m args below meth c Z D tc ad A H locs cells slots ls X hR hL hc hs fin)
theorem G_ldc2 {i : Nat} {v : Int64} (hd : decode M.2.2.1 pc = .ok (.ldc2_w i, 3)) (hw : Jvm.Cond.constantLong M.1 i v ∈ ab_U) (kk : G xo M d k n Q (pc + 3) L (.long v :: st) w) : G xo M d k n Q pc L st w := by
  intro p l e R s m args below meth c Z D tc ad A H locs cells slots ls X hR hL hc hs fin
  exact lv_ldc2 X.1.1 X.1.2.1 X.1.2.2.2 (X.2.2.1 _ hw) hd (kk p l e R s m args below meth c Z D tc ad A H locs cells slots ls X hR hL hc hs fin)
theorem ab_cat (ad : Nat → Nat) (v : Value) : (ab_v ad v).category = v.category := by cases v <;> rfl
theorem G_dup {v : Value} (hd : decode M.2.2.1 pc = .ok (.dup, 1)) (hv : v.category = 1) (kk : G xo M d k n Q (pc + 1) L (v :: v :: st) w) : G xo M d k n Q pc L (v :: st) w := by
  intro p l e R s m args below meth c Z D tc ad A H locs cells slots ls X hR hL hc hs fin
  exact lv_dup X.1.1 X.1.2.1 hd ((ab_cat ad v).trans hv) (kk p l e R s m args below meth c Z D tc ad A H locs cells slots ls X hR hL hc hs fin)
theorem G_dup2 {v u : Value} (hd : decode M.2.2.1 pc = .ok (.dup2, 1)) (hv : v.category = 1) (hu : u.category = 1) (kk : G xo M d k n Q (pc + 1) L (v :: u :: v :: u :: st) w) : G xo M d k n Q pc L (v :: u :: st) w := by
  intro p l e R s m args below meth c Z D tc ad A H locs cells slots ls X hR hL hc hs fin
  exact lv_dup2_11 X.1.1 X.1.2.1 hd ((ab_cat ad v).trans hv) ((ab_cat ad u).trans hu) (kk p l e R s m args below meth c Z D tc ad A H locs cells slots ls X hR hL hc hs fin)
theorem G_pop {v : Value} (hd : decode M.2.2.1 pc = .ok (.pop, 1)) (hv : v.category = 1) (kk : G xo M d k n Q (pc + 1) L st w) : G xo M d k n Q pc L (v :: st) w := by
  intro p l e R s m args below meth c Z D tc ad A H locs cells slots ls X hR hL hc hs fin
  exact lv_pop X.1.1 X.1.2.1 hd ((ab_cat ad v).trans hv) (kk p l e R s m args below meth c Z D tc ad A H locs cells slots ls X hR hL hc hs fin)
theorem G_iload {i : Nat} {x : Int32} (hd : decode M.2.2.1 pc = .ok (.iload i, 2)) (hl : L[i]? = some (some (.int x))) (kk : G xo M d k n Q (pc + 2) L (.int x :: st) w) : G xo M d k n Q pc L st w := by
  intro p l e R s m args below meth c Z D tc ad A H locs cells slots ls X hR hL hc hs fin
  exact lv_iload X.1.1 X.1.2.1 hd (hL.2.2 _ _ hl) (kk p l e R s m args below meth c Z D tc ad A H locs cells slots ls X hR hL hc hs fin)
theorem G_iload_n {i : Fin 4} {x : Int32} (hd : decode M.2.2.1 pc = .ok (.iload_n i, 1)) (hl : L[(i : Nat)]? = some (some (.int x))) (kk : G xo M d k n Q (pc + 1) L (.int x :: st) w) : G xo M d k n Q pc L st w := by
  intro p l e R s m args below meth c Z D tc ad A H locs cells slots ls X hR hL hc hs fin
  exact lv_iload_n X.1.1 X.1.2.1 hd rfl (hL.2.2 _ _ hl) (kk p l e R s m args below meth c Z D tc ad A H locs cells slots ls X hR hL hc hs fin)
theorem G_lload {i : Nat} {x : Int64} (hd : decode M.2.2.1 pc = .ok (.lload i, 2)) (hl : L[i]? = some (some (.long x))) (kk : G xo M d k n Q (pc + 2) L (.long x :: st) w) : G xo M d k n Q pc L st w := by
  intro p l e R s m args below meth c Z D tc ad A H locs cells slots ls X hR hL hc hs fin
  exact lv_lload X.1.1 X.1.2.1 hd (hL.2.2 _ _ hl) (kk p l e R s m args below meth c Z D tc ad A H locs cells slots ls X hR hL hc hs fin)
theorem G_lload_n {i : Fin 4} {x : Int64} (hd : decode M.2.2.1 pc = .ok (.lload_n i, 1)) (hl : L[(i : Nat)]? = some (some (.long x))) (kk : G xo M d k n Q (pc + 1) L (.long x :: st) w) : G xo M d k n Q pc L st w := by
  intro p l e R s m args below meth c Z D tc ad A H locs cells slots ls X hR hL hc hs fin
  exact lv_lload_n X.1.1 X.1.2.1 hd rfl (hL.2.2 _ _ hl) (kk p l e R s m args below meth c Z D tc ad A H locs cells slots ls X hR hL hc hs fin)
theorem G_aload {i : Nat} {x : Nat} (hd : decode M.2.2.1 pc = .ok (.aload i, 2)) (hl : L[i]? = some (some (.ref x))) (kk : G xo M d k n Q (pc + 2) L (.ref x :: st) w) : G xo M d k n Q pc L st w := by
  intro p l e R s m args below meth c Z D tc ad A H locs cells slots ls X hR hL hc hs fin
  exact lv_aload X.1.1 X.1.2.1 hd (hL.2.2 _ _ hl) (kk p l e R s m args below meth c Z D tc ad A H locs cells slots ls X hR hL hc hs fin)
theorem G_aload_n {i : Fin 4} {x : Nat} (hd : decode M.2.2.1 pc = .ok (.aload_n i, 1)) (hl : L[(i : Nat)]? = some (some (.ref x))) (kk : G xo M d k n Q (pc + 1) L (.ref x :: st) w) : G xo M d k n Q pc L st w := by
  intro p l e R s m args below meth c Z D tc ad A H locs cells slots ls X hR hL hc hs fin
  exact lv_aload_n X.1.1 X.1.2.1 hd rfl (hL.2.2 _ _ hl) (kk p l e R s m args below meth c Z D tc ad A H locs cells slots ls X hR hL hc hs fin)
/-- the locals behind a store: the slot before it is cleared where a long stood there -/
def ab_cl (L : List (Option Value)) (i : Nat) : List (Option Value) := match i with
  | 0 => L
  | j + 1 => match L[j]? with
    | some (some (.long _)) => L.set j none
    | some (some (.double _)) => L.set j none
    | _ => L
def ab_s1 (L : List (Option Value)) (i : Nat) (v : Value) : List (Option Value) := (ab_cl L i).set i (some v)
def ab_s2 (L : List (Option Value)) (i : Nat) (v : Value) : List (Option Value) := ((ab_cl L i).set i (some v)).set (i + 1) none
theorem ab_cl_len (L : List (Option Value)) (i : Nat) : (ab_cl L i).length = L.length := by
  unfold ab_cl
  split
  · rfl
  · split <;> simp
theorem ab_cl_at {L : List (Option Value)} {i j : Nat} {v : Value} (h : (ab_cl L i)[j]? = some (some v)) : L[j]? = some (some v) ∧ ¬ (j + 1 = i ∧ v.category = 2) := by
  unfold ab_cl at h
  split at h
  · exact ⟨h, fun q => by omega⟩
  · rename_i i' a
    have key : ∀ u : Value, u.category = 2 → L[a]? = some (some u) → (L.set a none)[j]? = some (some v) → L[j]? = some (some v) ∧ ¬ (j + 1 = a + 1 ∧ v.category = 2) := by
      intro u hu h1 h2
      rw [List.getElem?_set] at h2
      by_cases e : a = j
      · subst e
        rw [if_pos rfl] at h2
        split at h2 <;> simp at h2
      · rw [if_neg e] at h2
        exact ⟨h2, fun q => e (by omega)⟩
    split at h
    · rename_i u hu
      exact key _ rfl hu h
    · rename_i u hu
      exact key _ rfl hu h
    · rename_i n1 n2
      refine ⟨h, fun q => ?_⟩
      have e : j = a := by omega
      subst e
      cases v <;> simp [Value.category] at q
      · exact n1 _ h
      · exact n2 _ h
/-- the locals as the kit lists them -/
def ab_al (ad : Nat → Nat) (L : List (Option Value)) : List (Nat × Value) := (List.range L.length).filterMap (fun i => match L[i]? with
  | some (some v) => some (i, ab_v ad v)
  | _ => none)
theorem ab_al_mem {ad : Nat → Nat} {L : List (Option Value)} {q : Nat × Value} : q ∈ ab_al ad L ↔ ∃ v, L[q.1]? = some (some v) ∧ q.2 = ab_v ad v := by
  unfold ab_al
  rw [List.mem_filterMap]
  constructor
  · rintro ⟨i, -, h⟩
    split at h
    · rename_i v hv
      cases h
      exact ⟨v, hv, rfl⟩
    · cases h
  · rintro ⟨v, hv, e⟩
    refine ⟨q.1, List.mem_range.mpr (List.getElem?_eq_some_iff.mp hv).1, ?_⟩
    rw [hv]
    show some (q.1, ab_v ad v) = some q
    rw [← e]
theorem ab_L.has {ad : Nat → Nat} {ls : Array Slot} {L : List (Option Value)} (h : ab_L ad ls L) : lv_has ls L.length (ab_al ad L) :=
  ⟨h.1, h.2.1, fun q hq => by
    obtain ⟨v, h1, h2⟩ := ab_al_mem.mp hq
    rw [h2]
    exact h.2.2 _ _ h1⟩
theorem ab_L.st1 {ad : Nat → Nat} {ls' : Array Slot} {L : List (Option Value)} {i : Nat} {v : Value} (h : lv_has ls' L.length ((i, ab_v ad v) :: (ab_al ad L).filter (fun q => !(q.1 == i) && !(q.1 + 1 == i && q.2.category == 2)))) : ab_L ad ls' (ab_s1 L i v) := by
  refine ⟨h.1.trans (by rw [ab_s1, List.length_set, ab_cl_len]), h.2.1, fun j u hj => ?_⟩
  rw [ab_s1, List.getElem?_set] at hj
  by_cases e : i = j
  · subst e
    rw [if_pos rfl] at hj
    split at hj
    · cases hj
      exact h.2.2 (i, ab_v ad v) List.mem_cons_self
    · cases hj
  · rw [if_neg e] at hj
    obtain ⟨h1, h2⟩ := ab_cl_at hj
    refine h.2.2 (j, ab_v ad u) (List.mem_cons_of_mem _ (List.mem_filter.mpr ⟨ab_al_mem.mpr ⟨u, h1, rfl⟩, ?_⟩))
    have e2 : ¬ j = i := fun q => e q.symm
    simp only [Bool.and_eq_true, Bool.not_eq_true', beq_eq_false_iff_ne, ne_eq, Bool.and_eq_false_iff, ab_cat]
    refine ⟨e2, ?_⟩
    by_cases q : j + 1 = i
    · exact Or.inr (fun q2 => h2 ⟨q, q2⟩)
    · exact Or.inl q
theorem ab_L.st2 {ad : Nat → Nat} {ls' : Array Slot} {L : List (Option Value)} {i : Nat} {v : Value} (h : lv_has ls' L.length ((i, ab_v ad v) :: (ab_al ad L).filter (fun q => !(q.1 == i) && (!(q.1 == i + 1) && !(q.1 + 1 == i && q.2.category == 2))))) : ab_L ad ls' (ab_s2 L i v) := by
  refine ⟨h.1.trans (by rw [ab_s2, List.length_set, List.length_set, ab_cl_len]), h.2.1, fun j u hj => ?_⟩
  rw [ab_s2, List.getElem?_set] at hj
  by_cases e1 : i + 1 = j
  · rw [if_pos e1] at hj
    split at hj <;> simp at hj
  rw [if_neg e1, List.getElem?_set] at hj
  by_cases e : i = j
  · subst e
    rw [if_pos rfl] at hj
    split at hj
    · cases hj
      exact h.2.2 (i, ab_v ad v) List.mem_cons_self
    · cases hj
  · rw [if_neg e] at hj
    obtain ⟨h1, h2⟩ := ab_cl_at hj
    refine h.2.2 (j, ab_v ad u) (List.mem_cons_of_mem _ (List.mem_filter.mpr ⟨ab_al_mem.mpr ⟨u, h1, rfl⟩, ?_⟩))
    have e2 : ¬ j = i := fun q => e q.symm
    have e3 : ¬ j = i + 1 := fun q => e1 q.symm
    simp only [Bool.and_eq_true, Bool.not_eq_true', beq_eq_false_iff_ne, ne_eq, Bool.and_eq_false_iff, ab_cat]
    refine ⟨e2, e3, ?_⟩
    by_cases q : j + 1 = i
    · exact Or.inr (fun q2 => h2 ⟨q, q2⟩)
    · exact Or.inl q
theorem G_istore {i : Nat} {x : Int32} (hd : decode M.2.2.1 pc = .ok (.istore i, 2)) (hi : i < L.length) (hL' : ab_s1 L i (.int x) = L') (kk : G xo M d k n Q (pc + 2) L' st w) : G xo M d k n Q pc L (.int x :: st) w := by
  intro p l e R s m args below meth c Z D tc ad A H locs cells slots ls X hR hL hc hs fin
  exact lv_istore X.1.1 X.1.2.1 hd hL.has hi rfl (fun ls' hl => kk p l e R s m args below meth c Z D tc ad A H locs cells slots ls' X hR (hL' ▸ ab_L.st1 (v := .int x) hl) hc hs fin)
theorem G_istore_n {i : Fin 4} {x : Int32} (hd : decode M.2.2.1 pc = .ok (.istore_n i, 1)) (hi : (i : Nat) < L.length) (hL' : ab_s1 L i (.int x) = L') (kk : G xo M d k n Q (pc + 1) L' st w) : G xo M d k n Q pc L (.int x :: st) w := by
  intro p l e R s m args below meth c Z D tc ad A H locs cells slots ls X hR hL hc hs fin
  exact lv_istore_n X.1.1 X.1.2.1 hd rfl hL.has hi rfl (fun ls' hl => kk p l e R s m args below meth c Z D tc ad A H locs cells slots ls' X hR (hL' ▸ ab_L.st1 (v := .int x) hl) hc hs fin)
theorem G_lstore {i : Nat} {x : Int64} (hd : decode M.2.2.1 pc = .ok (.lstore i, 2)) (hi : i + 1 < L.length) (hL' : ab_s2 L i (.long x) = L') (kk : G xo M d k n Q (pc + 2) L' st w) : G xo M d k n Q pc L (.long x :: st) w := by
  intro p l e R s m args below meth c Z D tc ad A H locs cells slots ls X hR hL hc hs fin
  exact lv_lstore X.1.1 X.1.2.1 hd hL.has hi rfl (fun ls' hl => kk p l e R s m args below meth c Z D tc ad A H locs cells slots ls' X hR (hL' ▸ ab_L.st2 (v := .long x) hl) hc hs fin)
theorem G_lstore_n {i : Fin 4} {x : Int64} (hd : decode M.2.2.1 pc = .ok (.lstore_n i, 1)) (hi : (i : Nat) + 1 < L.length) (hL' : ab_s2 L i (.long x) = L') (kk : G xo M d k n Q (pc + 1) L' st w) : G xo M d k n Q pc L (.long x :: st) w := by
  intro p l e R s m args below meth c Z D tc ad A H locs cells slots ls X hR hL hc hs fin
  exact lv_lstore_n X.1.1 X.1.2.1 hd rfl hL.has hi rfl (fun ls' hl => kk p l e R s m args below meth c Z D tc ad A H locs cells slots ls' X hR (hL' ▸ ab_L.st2 (v := .long x) hl) hc hs fin)
theorem G_astore {i : Nat} {x : Nat} (hd : decode M.2.2.1 pc = .ok (.astore i, 2)) (hi : i < L.length) (hL' : ab_s1 L i (.ref x) = L') (kk : G xo M d k n Q (pc + 2) L' st w) : G xo M d k n Q pc L (.ref x :: st) w := by
  intro p l e R s m args below meth c Z D tc ad A H locs cells slots ls X hR hL hc hs fin
  exact lv_astore X.1.1 X.1.2.1 hd hL.has hi rfl (fun ls' hl => kk p l e R s m args below meth c Z D tc ad A H locs cells slots ls' X hR (hL' ▸ ab_L.st1 (v := .ref x) hl) hc hs fin)
theorem G_astore_n {i : Fin 4} {x : Nat} (hd : decode M.2.2.1 pc = .ok (.astore_n i, 1)) (hi : (i : Nat) < L.length) (hL' : ab_s1 L i (.ref x) = L') (kk : G xo M d k n Q (pc + 1) L' st w) : G xo M d k n Q pc L (.ref x :: st) w := by
  intro p l e R s m args below meth c Z D tc ad A H locs cells slots ls X hR hL hc hs fin
  exact lv_astore_n X.1.1 X.1.2.1 hd rfl hL.has hi rfl (fun ls' hl => kk p l e R s m args below meth c Z D tc ad A H locs cells slots ls' X hR (hL' ▸ ab_L.st1 (v := .ref x) hl) hc hs fin)
theorem G_iinc {i : Nat} {z : Int} {x v : Int32} (hd : decode M.2.2.1 pc = .ok (.iinc i z, 3)) (hl : L[i]? = some (some (.int x))) (hv : x + Int32.ofInt z = v) (hL' : ab_s1 L i (.int v) = L') (kk : G xo M d k n Q (pc + 3) L' st w) : G xo M d k n Q pc L st w := by
  intro p l e R s m args below meth c Z D tc ad A H locs cells slots ls X hR hL hc hs fin
  have hm : (i, Value.int x) ∈ ab_al ad L := ab_al_mem.mpr ⟨_, hl, rfl⟩
  obtain ⟨j, hj⟩ := List.getElem?_of_mem hm
  exact lv_iinc X.1.1 X.1.2.1 hd hL.has hj hv (List.getElem?_eq_some_iff.mp hl).1 rfl (fun ls' hl => kk p l e R s m args below meth c Z D tc ad A H locs cells slots ls' X hR (hL' ▸ ab_L.st1 (v := .int v) hl) hc hs fin)
theorem G_if_eq {x : Int32} {off : Int} {tgt : Nat} (hd : decode M.2.2.1 pc = .ok (.ifCond .eq off, 3)) (ht : (pc : Int) + off = (tgt : Int)) (kt : x = 0 → G xo M d k n Q tgt L st w) (kf : ¬ x = 0 → G xo M d k n Q (pc + 3) L st w) : G xo M d k n Q pc L (.int x :: st) w := by
  intro p l e R s m args below meth c Z D tc ad A H locs cells slots ls X hR hL hc hs fin
  exact lv_if_eq X.1.1 X.1.2.1 hd ht (fun h => kt h p l e R s m args below meth c Z D tc ad A H locs cells slots ls X hR hL hc hs fin) (fun h => kf h p l e R s m args below meth c Z D tc ad A H locs cells slots ls X hR hL hc hs fin)
theorem G_icmp_eq {x y : Int32} {off : Int} {tgt : Nat} (hd : decode M.2.2.1 pc = .ok (.if_icmp .eq off, 3)) (ht : (pc : Int) + off = (tgt : Int)) (kt : x = y → G xo M d k n Q tgt L st w) (kf : ¬ x = y → G xo M d k n Q (pc + 3) L st w) : G xo M d k n Q pc L (.int y :: .int x :: st) w := by
  intro p l e R s m args below meth c Z D tc ad A H locs cells slots ls X hR hL hc hs fin
  exact lv_icmp_eq X.1.1 X.1.2.1 hd ht (fun h => kt h p l e R s m args below meth c Z D tc ad A H locs cells slots ls X hR hL hc hs fin) (fun h => kf h p l e R s m args below meth c Z D tc ad A H locs cells slots ls X hR hL hc hs fin)
theorem G_if_ne {x : Int32} {off : Int} {tgt : Nat} (hd : decode M.2.2.1 pc = .ok (.ifCond .ne off, 3)) (ht : (pc : Int) + off = (tgt : Int)) (kt : ¬ x = 0 → G xo M d k n Q tgt L st w) (kf : x = 0 → G xo M d k n Q (pc + 3) L st w) : G xo M d k n Q pc L (.int x :: st) w := by
  intro p l e R s m args below meth c Z D tc ad A H locs cells slots ls X hR hL hc hs fin
  exact lv_if_ne X.1.1 X.1.2.1 hd ht (fun h => kt h p l e R s m args below meth c Z D tc ad A H locs cells slots ls X hR hL hc hs fin) (fun h => kf h p l e R s m args below meth c Z D tc ad A H locs cells slots ls X hR hL hc hs fin)
theorem G_icmp_ne {x y : Int32} {off : Int} {tgt : Nat} (hd : decode M.2.2.1 pc = .ok (.if_icmp .ne off, 3)) (ht : (pc : Int) + off = (tgt : Int)) (kt : ¬ x = y → G xo M d k n Q tgt L st w) (kf : x = y → G xo M d k n Q (pc + 3) L st w) : G xo M d k n Q pc L (.int y :: .int x :: st) w := by
  intro p l e R s m args below meth c Z D tc ad A H locs cells slots ls X hR hL hc hs fin
  exact lv_icmp_ne X.1.1 X.1.2.1 hd ht (fun h => kt h p l e R s m args below meth c Z D tc ad A H locs cells slots ls X hR hL hc hs fin) (fun h => kf h p l e R s m args below meth c Z D tc ad A H locs cells slots ls X hR hL hc hs fin)
theorem G_if_lt {x : Int32} {off : Int} {tgt : Nat} (hd : decode M.2.2.1 pc = .ok (.ifCond .lt off, 3)) (ht : (pc : Int) + off = (tgt : Int)) (kt : x < 0 → G xo M d k n Q tgt L st w) (kf : ¬ x < 0 → G xo M d k n Q (pc + 3) L st w) : G xo M d k n Q pc L (.int x :: st) w := by
  intro p l e R s m args below meth c Z D tc ad A H locs cells slots ls X hR hL hc hs fin
  exact lv_if_lt X.1.1 X.1.2.1 hd ht (fun h => kt h p l e R s m args below meth c Z D tc ad A H locs cells slots ls X hR hL hc hs fin) (fun h => kf h p l e R s m args below meth c Z D tc ad A H locs cells slots ls X hR hL hc hs fin)
theorem G_icmp_lt {x y : Int32} {off : Int} {tgt : Nat} (hd : decode M.2.2.1 pc = .ok (.if_icmp .lt off, 3)) (ht : (pc : Int) + off = (tgt : Int)) (kt : x < y → G xo M d k n Q tgt L st w) (kf : ¬ x < y → G xo M d k n Q (pc + 3) L st w) : G xo M d k n Q pc L (.int y :: .int x :: st) w := by
  intro p l e R s m args below meth c Z D tc ad A H locs cells slots ls X hR hL hc hs fin
  exact lv_icmp_lt X.1.1 X.1.2.1 hd ht (fun h => kt h p l e R s m args below meth c Z D tc ad A H locs cells slots ls X hR hL hc hs fin) (fun h => kf h p l e R s m args below meth c Z D tc ad A H locs cells slots ls X hR hL hc hs fin)
theorem G_if_ge {x : Int32} {off : Int} {tgt : Nat} (hd : decode M.2.2.1 pc = .ok (.ifCond .ge off, 3)) (ht : (pc : Int) + off = (tgt : Int)) (kt : 0 ≤ x → G xo M d k n Q tgt L st w) (kf : ¬ 0 ≤ x → G xo M d k n Q (pc + 3) L st w) : G xo M d k n Q pc L (.int x :: st) w := by
  intro p l e R s m args below meth c Z D tc ad A H locs cells slots ls X hR hL hc hs fin
  exact lv_if_ge X.1.1 X.1.2.1 hd ht (fun h => kt h p l e R s m args below meth c Z D tc ad A H locs cells slots ls X hR hL hc hs fin) (fun h => kf h p l e R s m args below meth c Z D tc ad A H locs cells slots ls X hR hL hc hs fin)
theorem G_icmp_ge {x y : Int32} {off : Int} {tgt : Nat} (hd : decode M.2.2.1 pc = .ok (.if_icmp .ge off, 3)) (ht : (pc : Int) + off = (tgt : Int)) (kt : y ≤ x → G xo M d k n Q tgt L st w) (kf : ¬ y ≤ x → G xo M d k n Q (pc + 3) L st w) : G xo M d k n Q pc L (.int y :: .int x :: st) w := by
  intro p l e R s m args below meth c Z D tc ad A H locs cells slots ls X hR hL hc hs fin
  exact lv_icmp_ge X.1.1 X.1.2.1 hd ht (fun h => kt h p l e R s m args below meth c Z D tc ad A H locs cells slots ls X hR hL hc hs fin) (fun h => kf h p l e R s m args below meth c Z D tc ad A H locs cells slots ls X hR hL hc hs fin)
theorem G_if_gt {x : Int32} {off : Int} {tgt : Nat} (hd : decode M.2.2.1 pc = .ok (.ifCond .gt off, 3)) (ht : (pc : Int) + off = (tgt : Int)) (kt : 0 < x → G xo M d k n Q tgt L st w) (kf : ¬ 0 < x → G xo M d k n Q (pc + 3) L st w) : G xo M d k n Q pc L (.int x :: st) w := by
  intro p l e R s m args below meth c Z D tc ad A H locs cells slots ls X hR hL hc hs fin
  exact lv_if_gt X.1.1 X.1.2.1 hd ht (fun h => kt h p l e R s m args below meth c Z D tc ad A H locs cells slots ls X hR hL hc hs fin) (fun h => kf h p l e R s m args below meth c Z D tc ad A H locs cells slots ls X hR hL hc hs fin)
theorem G_icmp_gt {x y : Int32} {off : Int} {tgt : Nat} (hd : decode M.2.2.1 pc = .ok (.if_icmp .gt off, 3)) (ht : (pc : Int) + off = (tgt : Int)) (kt : y < x → G xo M d k n Q tgt L st w) (kf : ¬ y < x → G xo M d k n Q (pc + 3) L st w) : G xo M d k n Q pc L (.int y :: .int x :: st) w := by
  intro p l e R s m args below meth c Z D tc ad A H locs cells slots ls X hR hL hc hs fin
  exact lv_icmp_gt X.1.1 X.1.2.1 hd ht (fun h => kt h p l e R s m args below meth c Z D tc ad A H locs cells slots ls X hR hL hc hs fin) (fun h => kf h p l e R s m args below meth c Z D tc ad A H locs cells slots ls X hR hL hc hs fin)
theorem G_if_le {x : Int32} {off : Int} {tgt : Nat} (hd : decode M.2.2.1 pc = .ok (.ifCond .le off, 3)) (ht : (pc : Int) + off = (tgt : Int)) (kt : x ≤ 0 → G xo M d k n Q tgt L st w) (kf : ¬ x ≤ 0 → G xo M d k n Q (pc + 3) L st w) : G xo M d k n Q pc L (.int x :: st) w := by
  intro p l e R s m args below meth c Z D tc ad A H locs cells slots ls X hR hL hc hs fin
  exact lv_if_le X.1.1 X.1.2.1 hd ht (fun h => kt h p l e R s m args below meth c Z D tc ad A H locs cells slots ls X hR hL hc hs fin) (fun h => kf h p l e R s m args below meth c Z D tc ad A H locs cells slots ls X hR hL hc hs fin)
theorem G_icmp_le {x y : Int32} {off : Int} {tgt : Nat} (hd : decode M.2.2.1 pc = .ok (.if_icmp .le off, 3)) (ht : (pc : Int) + off = (tgt : Int)) (kt : x ≤ y → G xo M d k n Q tgt L st w) (kf : ¬ x ≤ y → G xo M d k n Q (pc + 3) L st w) : G xo M d k n Q pc L (.int y :: .int x :: st) w := by
  intro p l e R s m args below meth c Z D tc ad A H locs cells slots ls X hR hL hc hs fin
  exact lv_icmp_le X.1.1 X.1.2.1 hd ht (fun h => kt h p l e R s m args below meth c Z D tc ad A H locs cells slots ls X hR hL hc hs fin) (fun h => kf h p l e R s m args below meth c Z D tc ad A H locs cells slots ls X hR hL hc hs fin)
theorem G_goto {off : Int} {tgt : Nat} (hd : decode M.2.2.1 pc = .ok (.goto off, 3)) (ht : (pc : Int) + off = (tgt : Int)) (kk : G xo M d k n Q tgt L st w) : G xo M d k n Q pc L st w := by
  intro p l e R s m args below meth c Z D tc ad A H locs cells slots ls X hR hL hc hs fin
  exact lv_goto X.1.1 X.1.2.1 hd ht (kk p l e R s m args below meth c Z D tc ad A H locs cells slots ls X hR hL hc hs fin)
theorem G_ifnn {x : Nat} {off : Int} {tgt : Nat} (hd : decode M.2.2.1 pc = .ok (.ifnonnull off, 3)) (ht : (pc : Int) + off = (tgt : Int)) (kk : G xo M d k n Q tgt L st w) : G xo M d k n Q pc L (.ref x :: st) w := by
  intro p l e R s m args below meth c Z D tc ad A H locs cells slots ls X hR hL hc hs fin
  exact lv_ifnonnull X.1.1 X.1.2.1 hd ht (kk p l e R s m args below meth c Z D tc ad A H locs cells slots ls X hR hL hc hs fin)
theorem G_ifnnN {off : Int} (hd : decode M.2.2.1 pc = .ok (.ifnonnull off, 3)) (kk : G xo M d k n Q (pc + 3) L st w) : G xo M d k n Q pc L (.null :: st) w := by
  intro p l e R s m args below meth c Z D tc ad A H locs cells slots ls X hR hL hc hs fin
  exact lv_ifnonnullN X.1.1 X.1.2.1 hd (kk p l e R s m args below meth c Z D tc ad A H locs cells slots ls X hR hL hc hs fin)
/-- a return -/
theorem G_ret {v : Option Value} (hr : ab_ret M pc v) (hq : Q w v) : G xo M d k n Q pc L v.toList w := by
  intro p l e R s m args below meth c Z D tc ad A H locs cells slots ls X hR hL hc hs fin
  exact fin pc ad H locs cells slots ls w v hr ⟨fun _ _ => rfl, Nat.le_refl _, fun _ => rfl⟩ hR (Nat.le_add_right _ _) (Nat.le_add_right _ _) hq
theorem G_mono {Q' : List ab_C → Option Value → Prop} {k' n' : Nat} (h : G xo M d k n Q pc L st w) (hk : k ≤ k') (hn : n ≤ n') (hQ : ∀ w' v, Q w' v → Q' w' v) : G xo M d k' n' Q' pc L st w := by
  intro p l e R s m args below meth c Z D tc ad A H locs cells slots ls X hR hL hc hs fin
  exact h p l e R s m args below meth c Z D tc ad A H locs cells slots ls X hR hL (by omega) (by omega) (fun pc' ad' H' locs' cells' slots' ls' w' v h1 h2 h4 h5 h6 h7 => fin pc' ad' H' locs' cells' slots' ls' w' v h1 h2 h4 (by omega) (by omega) (hQ _ _ h7))
end AB
end
section
/-! Rules of G: fields, arrays, statics, what is made. -/
/-- a class of the worlds, by its place in vwCl -/
def ab_kc (ci : Nat) (C : String) (T : u_T) (N : Nat) (ty : Nat → FieldType) : Prop := vwCl[ci]? = some (C, T, N) ∧ (∀ w ∈ u_ws C T N, w ∈ ab_U) ∧ (∀ k, k < N → parseFieldDescriptor (T k).2.2.1 = some (ty k)) ∧ (∀ a, a < N → ∀ b, b < N → a ≠ b → (T a).2.1 ≠ (T b).2.1)
theorem ab_nar {ad : Nat → Nat} {ty : FieldType} {v : Value} (h : narrow ty v = v) : narrow ty (ab_v ad v) = ab_v ad v := by
  cases v with
  | ref k => cases ty <;> rfl
  | _ => exact h
theorem ab_fit {ad : Nat → Nat} {ty : FieldType} {v : Value} (h : fits ty v = true) : fits ty (ab_v ad v) = true := by
  cases v with
  | ref k => cases ty <;> first | rfl | exact h
  | _ => exact h
/-- tokens in scope -/
def ab_sc (N : Nat) (v : Value) : Prop := match v with
  | .ref t => t < N
  | _ => True
def ab_scC (N : Nat) (c : ab_C) : Prop := match c with
  | .inl (_, _, .inr (.inr (.inr (.inr f)))) => ∀ j t, f j = some t → t < N
  | .inl _ => True
  | .inr (_, fs) => ∀ v ∈ fs, ab_sc N v
def ab_scS (N : Nat) (L : List (Option Value)) (st : List Value) (w : List ab_C) : Prop := (∀ v, some v ∈ L → ab_sc N v) ∧ (∀ v ∈ st, ab_sc N v) ∧ ∀ c ∈ w, ab_scC N c
theorem ab_v_re {ad ad' : Nat → Nat} {N : Nat} (h : ∀ t, t < N → ad' t = ad t) {v : Value} (hv : ab_sc N v) : ab_v ad' v = ab_v ad v := by
  cases v with
  | ref k => show Value.ref (ad' k) = Value.ref (ad k); rw [h k hv]
  | _ => rfl
theorem ab_st_re {ad ad' : Nat → Nat} {N : Nat} (h : ∀ t, t < N → ad' t = ad t) {st : List Value} (hv : ∀ v ∈ st, ab_sc N v) : st.map (ab_v ad') = st.map (ab_v ad) := List.map_congr_left fun v hm => ab_v_re h (hv v hm)
theorem ab_e_re {tc : Nat → ClassId} {ad ad' : Nat → Nat} {N : Nat} (h : ∀ t, t < N → ad' t = ad t) {c : ab_C} (hv : ab_scC N c) : ab_e tc ad' c = ab_e tc ad c := by
  match c, hv with
  | .inl (t, n, .inl f), _ => rfl
  | .inl (t, n, .inr (.inl f)), _ => rfl
  | .inl (t, n, .inr (.inr (.inl f))), _ => rfl
  | .inl (t, n, .inr (.inr (.inr (.inl f)))), _ => rfl
  | .inl (t, n, .inr (.inr (.inr (.inr f)))), hv =>
    have e : (fun j => (f j).map ad') = (fun j => (f j).map ad) := by
      funext j
      cases hf : f j with
      | none => rfl
      | some q => show some (ad' q) = some (ad q); rw [h q (hv j q hf)]
    show (Sum.inl (tc t, n, .inr (.inr (.inr (.inr (fun j => (f j).map ad'))))) : va_E) = _
    rw [e]
    rfl
  | .inr (ci, fs), hv =>
    show (Sum.inr (ci, fs.map (ab_v ad')) : va_E) = .inr (ci, fs.map (ab_v ad))
    rw [ab_st_re h hv]
theorem ab_w_re {tc : Nat → ClassId} {ad ad' : Nat → Nat} {w : List ab_C} (h : ∀ t, t < w.length + 100 → ad' t = ad t) (hv : ∀ c ∈ w, ab_scC (w.length + 100) c) : ab_w tc ad' 100 w = ab_w tc ad 100 w := by
  apply List.ext_getElem?
  intro k
  rw [ab_w_at, ab_w_at]
  cases hk : w[k]? with
  | none => rfl
  | some c =>
    show some (ad' (k + 100), ab_e tc ad' c) = some (ad (k + 100), ab_e tc ad c)
    rw [h _ (by have := (List.getElem?_eq_some_iff.mp hk).1; omega), ab_e_re h (hv c (List.mem_of_getElem? hk))]
theorem ab_L.re {ad ad' : Nat → Nat} {N : Nat} {ls : Array Slot} {L : List (Option Value)} (hL : ab_L ad ls L) (h : ∀ t, t < N → ad' t = ad t) (hv : ∀ v, some v ∈ L → ab_sc N v) : ab_L ad' ls L :=
  ⟨hL.1, hL.2.1, fun i v hi => by rw [ab_v_re h (hv v (List.mem_of_getElem? hi))]; exact hL.2.2 i v hi⟩
theorem ab_X.re {xo : ab_XO} {M : ab_M} {d : Nat} {p : Program} {R : Room} {s : State} {m : MethodId} {args : Array Value} {meth : Method} {c : Code} {D : va_G} {tc : Nat → ClassId} {ad ad' : Nat → Nat} {A : Nat → Prop} (X : ab_X xo M d p R s m args meth c D tc ad A) (h : ∀ t, t < 100 → ad' t = ad t) : ab_X xo M d p R s m args meth c D tc ad' A :=
  ⟨X.1, X.2.1, X.2.2.1, X.2.2.2.1, X.2.2.2.2.1, X.2.2.2.2.2.1, X.2.2.2.2.2.2.re h⟩
section AB
variable {xo : ab_XO} {M : ab_M} {d k n : Nat} {Q : List ab_C → Option Value → Prop} {pc : Nat} {L : List (Option Value)} {st : List Value} {w w' : List ab_C}
theorem G_get {idx ci j f N : Nat} {C : String} {T : u_T} {ty : Nat → FieldType} {fs : List Value} {v : Value} (hc : ab_kc ci C T N ty) (hd : decode M.2.2.1 pc = .ok (.getfield idx, 3)) (hl : Cond.fieldLink M.1 idx (T f).1 (T f).2.1 (T f).2.2.1 ∈ ab_U) (hf : f < N) (hw : w[j]? = some (.inr (ci, fs))) (hv : fs[f]? = some v) (kk : G xo M d k n Q (pc + 3) L (v :: st) w) : G xo M d k n Q pc L (.ref (j + 100) :: st) w := by
  intro p l e R s m args below meth c Z D tc ad A H locs cells slots ls X hR hL hcc hss fin
  exact va_get X.1.1 X.1.2.1 X.2.2.1 hc.2.1 X.1.2.2.2 X.2.2.2.1 hR.1 j (fs := fs.map (ab_v ad)) (by rw [ab_w_at, hw]; rfl) hc.1 f hf (X.2.2.1 _ hl) (fun _ h => h) (by rw [List.getElem?_map, hv]; rfl) hd (kk p l e R s m args below meth c Z D tc ad A H locs cells slots ls X hR hL hcc hss fin)
/-- how the world goes on behind a write -/
theorem ab_R.put {D : va_G} {tc : Nat → ClassId} {ad : Nat → Nat} {A : Nat → Prop} {s : State} {H : Heap} {locs : List Loc} {w : List ab_C} {j : Nat} {c : ab_C} (h1 : va_P D vwCl ((ab_w tc ad 100 w).set j (ad (j + 100), ab_e tc ad c)) H) (h2 : va_D A ((ab_w tc ad 100 w).set j (ad (j + 100), ab_e tc ad c))) (h3 : va_S A s.heap H locs) : ab_R D tc ad A s H locs (w.set j c) := by
  rw [← ab_w_set] at h1 h2
  exact ⟨h1, h2, h3⟩
theorem G_put {idx ci j f N : Nat} {C : String} {T : u_T} {ty : Nat → FieldType} {fs : List Value} {v : Value} (hc : ab_kc ci C T N ty) (hd : decode M.2.2.1 pc = .ok (.putfield idx, 3)) (hl : Cond.fieldLink M.1 idx (T f).1 (T f).2.1 (T f).2.2.1 ∈ ab_U) (hf : f < N) (hfin : (T f).2.2.2 = false) (hn : narrow (ty f) v = v) (hfit : fits (ty f) v = true) (hw : w[j]? = some (.inr (ci, fs))) (hlen : f < fs.length) (hw' : w.set j (.inr (ci, fs.set f v)) = w') (kk : G xo M d k n Q (pc + 3) L st w') : G xo M d k n Q pc L (v :: .ref (j + 100) :: st) w := by
  intro p l e R s m args below meth c Z D tc ad A H locs cells slots ls X hR hL hcc hss fin
  subst hw'
  refine va_put X.1.1 X.1.2.1 X.2.2.1 hc.2.1 ty hc.2.2.1 hc.2.2.2 X.1.2.2.2 X.2.2.2.1 hR.1 hR.2.1 hR.2.2 j (fs := fs.map (ab_v ad)) (by rw [ab_w_at, hw]; rfl) hc.1 f hf (X.2.2.1 _ hl) (fun _ h => h) hfin (hc.2.2.1 f hf) (ab_nar hn) (ab_fit hfit) (by rw [List.length_map]; exact hlen) hd (fun H1 locs1 h1 h2 h3 => ?_)
  rw [← List.map_set] at h1 h2
  exact kk p l e R s m args below meth c Z D tc ad A H1 locs1 cells slots ls X (ab_R.put (c := .inr (ci, fs.set f v)) h1 h2 h3) hL hcc hss (by simp only [ab_ext, List.length_set] at fin ⊢; exact fin)
theorem G_putF {idx ci j f N : Nat} {C : String} {T : u_T} {ty : Nat → FieldType} {fs : List Value} {v : Value} (hc : ab_kc ci C T N ty) (hd : decode M.2.2.1 pc = .ok (.putfield idx, 3)) (hl : Cond.fieldLink M.1 idx (T f).1 (T f).2.1 (T f).2.2.1 ∈ ab_U) (hf : f < N) (hfin : (T f).2.2.2 = true) (hin : M.2.1.name = "<init>") (hown : (T f).1 = M.1) (hn : narrow (ty f) v = v) (hfit : fits (ty f) v = true) (hw : w[j]? = some (.inr (ci, fs))) (hlen : f < fs.length) (hw' : w.set j (.inr (ci, fs.set f v)) = w') (kk : G xo M d k n Q (pc + 3) L st w') : G xo M d k n Q pc L (v :: .ref (j + 100) :: st) w := by
  intro p l e R s m args below meth c Z D tc ad A H locs cells slots ls X hR hL hcc hss fin
  subst hw'
  refine va_putF X.1.1 X.1.2.1 X.2.2.1 hc.2.1 ty hc.2.2.1 hc.2.2.2 X.1.2.2.2 X.2.2.2.1 hR.1 hR.2.1 hR.2.2 j (fs := fs.map (ab_v ad)) (by rw [ab_w_at, hw]; rfl) hc.1 f hf (X.2.2.1 _ hl) (fun _ h => h) hfin (X.2.1.2.2.trans hin) hown (hc.2.2.1 f hf) (ab_nar hn) (ab_fit hfit) (by rw [List.length_map]; exact hlen) hd (fun H1 locs1 h1 h2 h3 => ?_)
  rw [← List.map_set] at h1 h2
  exact kk p l e R s m args below meth c Z D tc ad A H1 locs1 cells slots ls X (ab_R.put (c := .inr (ci, fs.set f v)) h1 h2 h3) hL hcc hss (by simp only [ab_ext, List.length_set] at fin ⊢; exact fin)
theorem G_iald {j N : Nat} {f : Nat → Int32} {i : Int32} (hd : decode M.2.2.1 pc = .ok (.iaload, 1)) (hw : w[j]? = some (.inl (0, N, .inl f))) (hin : vp_in i N) (kk : G xo M d k n Q (pc + 1) L (.int (f i.toNatClampNeg) :: st) w) : G xo M d k n Q pc L (.int i :: .ref (j + 100) :: st) w := by
  intro p l e R s m args below meth c Z D tc ad A H locs cells slots ls X hR hL hcc hss fin
  exact va_iald X.1.1 X.1.2.1 X.2.2.2.1 hR.1 j 0 (cA := tc 0) (f := f) (by rw [ab_w_at, hw]; rfl) rfl hin hd (kk p l e R s m args below meth c Z D tc ad A H locs cells slots ls X hR hL hcc hss fin)
theorem G_lald {j N : Nat} {f : Nat → Int64} {i : Int32} (hd : decode M.2.2.1 pc = .ok (.laload, 1)) (hw : w[j]? = some (.inl (1, N, .inr (.inl f)))) (hin : vp_in i N) (kk : G xo M d k n Q (pc + 1) L (.long (f i.toNatClampNeg) :: st) w) : G xo M d k n Q pc L (.int i :: .ref (j + 100) :: st) w := by
  intro p l e R s m args below meth c Z D tc ad A H locs cells slots ls X hR hL hcc hss fin
  exact va_lald X.1.1 X.1.2.1 X.2.2.2.1 hR.1 j 1 (cA := tc 1) (f := f) (by rw [ab_w_at, hw]; rfl) rfl hin hd (kk p l e R s m args below meth c Z D tc ad A H locs cells slots ls X hR hL hcc hss fin)
theorem G_bald {j N : Nat} {f : Nat → Int32} {i : Int32} (hd : decode M.2.2.1 pc = .ok (.baload, 1)) (hw : w[j]? = some (.inl (2, N, .inl f))) (hin : vp_in i N) (kk : G xo M d k n Q (pc + 1) L (.int (f i.toNatClampNeg) :: st) w) : G xo M d k n Q pc L (.int i :: .ref (j + 100) :: st) w := by
  intro p l e R s m args below meth c Z D tc ad A H locs cells slots ls X hR hL hcc hss fin
  exact va_bald X.1.1 X.1.2.1 X.2.2.2.1 hR.1 j 2 (cA := tc 2) (f := f) (by rw [ab_w_at, hw]; rfl) rfl hin hd (kk p l e R s m args below meth c Z D tc ad A H locs cells slots ls X hR hL hcc hss fin)
theorem G_zald {j N : Nat} {f : Nat → Int32} {i : Int32} (hd : decode M.2.2.1 pc = .ok (.baload, 1)) (hw : w[j]? = some (.inl (3, N, .inl f))) (hin : vp_in i N) (kk : G xo M d k n Q (pc + 1) L (.int (f i.toNatClampNeg) :: st) w) : G xo M d k n Q pc L (.int i :: .ref (j + 100) :: st) w := by
  intro p l e R s m args below meth c Z D tc ad A H locs cells slots ls X hR hL hcc hss fin
  exact va_zald X.1.1 X.1.2.1 X.2.2.2.1 hR.1 j 3 (cA := tc 3) (f := f) (by rw [ab_w_at, hw]; rfl) rfl hin hd (kk p l e R s m args below meth c Z D tc ad A H locs cells slots ls X hR hL hcc hss fin)
theorem G_iast {j N : Nat} {f : Nat → Int32} {i : Int32} {x : Int32} (hd : decode M.2.2.1 pc = .ok (.iastore, 1)) (hw : w[j]? = some (.inl (0, N, .inl f))) (hin : vp_in i N) (hw' : w.set j (.inl (0, N, .inl (upd f i.toNatClampNeg x))) = w') (kk : G xo M d k n Q (pc + 1) L st w') : G xo M d k n Q pc L (.int x :: .int i :: .ref (j + 100) :: st) w := by
  intro p l e R s m args below meth c Z D tc ad A H locs cells slots ls X hR hL hcc hss fin
  subst hw'
  refine va_iast X.1.1 X.1.2.1 X.2.2.2.1 hR.1 hR.2.1 hR.2.2 j 0 (cA := tc 0) (f := f) (by rw [ab_w_at, hw]; rfl) rfl hin hd (fun H1 locs1 h1 h2 h3 => ?_)
  exact kk p l e R s m args below meth c Z D tc ad A H1 locs1 cells slots ls X (ab_R.put (c := .inl (0, N, .inl (upd f i.toNatClampNeg x))) h1 h2 h3) hL hcc hss (by simp only [ab_ext, List.length_set] at fin ⊢; exact fin)
theorem G_last {j N : Nat} {f : Nat → Int64} {i : Int32} {x : Int64} (hd : decode M.2.2.1 pc = .ok (.lastore, 1)) (hw : w[j]? = some (.inl (1, N, .inr (.inl f)))) (hin : vp_in i N) (hw' : w.set j (.inl (1, N, .inr (.inl (vp_updL f i.toNatClampNeg x)))) = w') (kk : G xo M d k n Q (pc + 1) L st w') : G xo M d k n Q pc L (.long x :: .int i :: .ref (j + 100) :: st) w := by
  intro p l e R s m args below meth c Z D tc ad A H locs cells slots ls X hR hL hcc hss fin
  subst hw'
  refine va_last X.1.1 X.1.2.1 X.2.2.2.1 hR.1 hR.2.1 hR.2.2 j 1 (cA := tc 1) (f := f) (by rw [ab_w_at, hw]; rfl) rfl hin hd (fun H1 locs1 h1 h2 h3 => ?_)
  exact kk p l e R s m args below meth c Z D tc ad A H1 locs1 cells slots ls X (ab_R.put (c := .inl (1, N, .inr (.inl (vp_updL f i.toNatClampNeg x)))) h1 h2 h3) hL hcc hss (by simp only [ab_ext, List.length_set] at fin ⊢; exact fin)
theorem G_bast {j N : Nat} {f : Nat → Int32} {i : Int32} {x : Int32} (hd : decode M.2.2.1 pc = .ok (.bastore, 1)) (hw : w[j]? = some (.inl (2, N, .inl f))) (hin : vp_in i N) (hw' : w.set j (.inl (2, N, .inl (upd f i.toNatClampNeg (vp_nar .byte x)))) = w') (kk : G xo M d k n Q (pc + 1) L st w') : G xo M d k n Q pc L (.int x :: .int i :: .ref (j + 100) :: st) w := by
  intro p l e R s m args below meth c Z D tc ad A H locs cells slots ls X hR hL hcc hss fin
  subst hw'
  refine va_bast X.1.1 X.1.2.1 X.2.2.2.1 hR.1 hR.2.1 hR.2.2 j 2 (cA := tc 2) (f := f) (by rw [ab_w_at, hw]; rfl) rfl hin hd (fun H1 locs1 h1 h2 h3 => ?_)
  exact kk p l e R s m args below meth c Z D tc ad A H1 locs1 cells slots ls X (ab_R.put (c := .inl (2, N, .inl (upd f i.toNatClampNeg (vp_nar .byte x)))) h1 h2 h3) hL hcc hss (by simp only [ab_ext, List.length_set] at fin ⊢; exact fin)
theorem G_zast {j N : Nat} {f : Nat → Int32} {i : Int32} {x : Int32} (hd : decode M.2.2.1 pc = .ok (.bastore, 1)) (hw : w[j]? = some (.inl (3, N, .inl f))) (hin : vp_in i N) (hw' : w.set j (.inl (3, N, .inl (upd f i.toNatClampNeg (vp_nar .boolean x)))) = w') (kk : G xo M d k n Q (pc + 1) L st w') : G xo M d k n Q pc L (.int x :: .int i :: .ref (j + 100) :: st) w := by
  intro p l e R s m args below meth c Z D tc ad A H locs cells slots ls X hR hL hcc hss fin
  subst hw'
  refine va_zast X.1.1 X.1.2.1 X.2.2.2.1 hR.1 hR.2.1 hR.2.2 j 3 (cA := tc 3) (f := f) (by rw [ab_w_at, hw]; rfl) rfl hin hd (fun H1 locs1 h1 h2 h3 => ?_)
  exact kk p l e R s m args below meth c Z D tc ad A H1 locs1 cells slots ls X (ab_R.put (c := .inl (3, N, .inl (upd f i.toNatClampNeg (vp_nar .boolean x)))) h1 h2 h3) hL hcc hss (by simp only [ab_ext, List.length_set] at fin ⊢; exact fin)
/-- an element of an array outside the world -/
theorem G_xald {j N : Nat} {f : Nat → Int32} {i : Int32} (hd : decode M.2.2.1 pc = .ok (.iaload, 1)) (hx : xo[j]? = some (N, f)) (hin : vp_in i N) (kk : G xo M d k n Q (pc + 1) L (.int (f i.toNatClampNeg) :: st) w) : G xo M d k n Q pc L (.int i :: .ref j :: st) w := by
  intro p l e R s m args below meth c Z D tc ad A H locs cells slots ls X hR hL hcc hss fin
  exact va_ti X.1.1 X.1.2.1 (X.2.2.2.2.2.2.1 j _ hx) hR.2.2 hin rfl hd (kk p l e R s m args below meth c Z D tc ad A H locs cells slots ls X hR hL hcc hss fin)
theorem G_xlen {j N : Nat} {f : Nat → Int32} (hd : decode M.2.2.1 pc = .ok (.arraylength, 1)) (hx : xo[j]? = some (N, f)) (kk : G xo M d k n Q (pc + 1) L (.int (Int32.ofNat N) :: st) w) : G xo M d k n Q pc L (.ref j :: st) w := by
  intro p l e R s m args below meth c Z D tc ad A H locs cells slots ls X hR hL hcc hss fin
  exact va_tlen X.1.1 X.1.2.1 (X.2.2.2.2.2.2.1 j _ hx) hR.2.2 rfl hd (kk p l e R s m args below meth c Z D tc ad A H locs cells slots ls X hR hL hcc hss fin)
theorem G_gets {j idx : Nat} {C f : String} (hd : decode M.2.2.1 pc = .ok (.getstatic idx, 3)) (hx : ab_sn[j]? = some (C, f)) (hl : Cond.fieldLink M.1 idx C f "[I" ∈ ab_U) (kk : G xo M d k n Q (pc + 3) L (.ref j :: st) w) : G xo M d k n Q pc L st w := by
  intro p l e R s m args below meth c Z D tc ad A H locs cells slots ls X hR hL hcc hss fin
  exact va_gets X.1.1 X.1.2.1 (X.2.2.2.2.2.2.2.1 j _ hx) hR.2.2 X.1.2.2.2 (X.2.2.1 _ hl) (fun _ h => h) hd (kk p l e R s m args below meth c Z D tc ad A H locs cells slots ls X hR hL hcc hss fin)
theorem ab_rf (ad : Nat → Nat) (r : Option Nat) : ab_v ad (va_rf r) = va_rf (r.map ad) := by cases r <;> rfl
theorem G_aald {j N : Nat} {f : Nat → Option Nat} {i : Int32} (hd : decode M.2.2.1 pc = .ok (.aaload, 1)) (hw : w[j]? = some (.inl (4, N, .inr (.inr (.inr (.inr f)))))) (hin : vp_in i N) (kk : G xo M d k n Q (pc + 1) L (va_rf (f i.toNatClampNeg) :: st) w) : G xo M d k n Q pc L (.int i :: .ref (j + 100) :: st) w := by
  intro p l e R s m args below meth c Z D tc ad A H locs cells slots ls X hR hL hcc hss fin
  refine va_aldq X.1.1 X.1.2.1 X.2.2.2.1 hR.1 j 4 (cA := tc 4) (C := RX0) (f := fun q => (f q).map ad) (by rw [ab_w_at, hw]; rfl) rfl hin hd ?_
  have h1 := kk p l e R s m args below meth c Z D tc ad A H locs cells slots ls X hR hL hcc hss fin
  rw [List.map_cons, ab_rf] at h1
  exact h1
theorem G_aast {j q N : Nat} {f : Nat → Option Nat} {i : Int32} {fs : List Value} (hd : decode M.2.2.1 pc = .ok (.aastore, 1)) (hw : w[j]? = some (.inl (4, N, .inr (.inr (.inr (.inr f)))))) (hq : w[q]? = some (.inr (1, fs))) (hin : vp_in i N) (hw' : w.set j (.inl (4, N, .inr (.inr (.inr (.inr (va_up f i.toNatClampNeg (some (q + 100)))))))) = w') (kk : G xo M d k n Q (pc + 1) L st w') : G xo M d k n Q pc L (.ref (q + 100) :: .int i :: .ref (j + 100) :: st) w := by
  intro p l e R s m args below meth c Z D tc ad A H locs cells slots ls X hR hL hcc hss fin
  subst hw'
  refine va_astq X.1.1 X.1.2.1 X.2.2.2.1 hR.1 hR.2.1 hR.2.2 j 4 q 1 (cA := tc 4) (r := (RX0, TX0, 6)) (vs := fs.map (ab_v ad)) (f := fun q => (f q).map ad) (by rw [ab_w_at, hw]; rfl) rfl (by rw [ab_w_at, hq]; rfl) rfl hin hd (fun H1 locs1 h1 h2 h3 => ?_)
  have ee : va_up (fun q => (f q).map ad) i.toNatClampNeg (some (ad (q + 100))) = (fun z => (va_up f i.toNatClampNeg (some (q + 100)) z).map ad) := by
    funext z
    by_cases hz : z = i.toNatClampNeg
    · simp [va_up, hz]
    · simp [va_up, hz]
  rw [ee] at h1 h2
  exact kk p l e R s m args below meth c Z D tc ad A H1 locs1 cells slots ls X (ab_R.put (c := .inl (4, N, .inr (.inr (.inr (.inr (va_up f i.toNatClampNeg (some (q + 100)))))))) h1 h2 h3) hL hcc hss (by simp only [ab_ext, List.length_set] at fin ⊢; exact fin)
/-- the rest of a state behind something made -/
theorem G_made {c0 : ab_C} {q N : Nat} {pc' : Nat} (hsc : ab_scS (w.length + 100) L st w) {p : Program} {l : Launch} {e : Env} {R : Room} {s : State} {m : MethodId} {args : Array Value} {below : List Frame} {meth : Method} {c : Code} {Z : State → Prop} {D : va_G} {tc : Nat → ClassId} {ad : Nat → Nat} {A : Nat → Prop} {H : Heap} {locs : List Loc} {cells slots : Nat} {ls : Array Slot}
    (X : ab_X xo M d p R s m args meth c D tc ad A) (hL : ab_L ad ls L) (hcc : cells + (k + 1) ≤ R.cells) (hss : slots + (n + N) ≤ R.slots)
    (fin : ∀ (pc' : Nat) (ad' : Nat → Nat) (H' : Heap) (locs' : List Loc) (cells' slots' : Nat) (ls' : Array Slot) (w' : List ab_C) (v : Option Value),
      ab_ret M pc' v → ab_ext w ad w' ad' → ab_R D tc ad' A s H' locs' w' → cells' ≤ cells + (k + 1) → slots' ≤ slots + (n + N) → Q w' v →
      W p l e R s m args below meth c H' locs' cells' slots' Z (F0 m pc' ls' (v.toList.map (ab_v ad'))))
    (hE : ∀ f : Nat → Nat, ab_e tc f c0 = ab_e tc ad c0) (h1 : va_P D vwCl (ab_w tc ad 100 w ++ [(q, ab_e tc ad c0)]) H) (h2 : va_D A (ab_w tc ad 100 w ++ [(q, ab_e tc ad c0)])) (h3 : va_S A s.heap H locs)
    (kk : G xo M d k n Q pc' L (.ref (w.length + 100) :: st) (w ++ [c0])) : W p l e R s m args below meth c H locs (cells + 1) (slots + N) Z (F0 m pc' ls (.ref q :: st.map (ab_v ad))) := by
  have hre : ∀ t, t < w.length + 100 → va_up ad (w.length + 100) q t = ad t := fun t ht => by
    have : ¬ t = w.length + 100 := by omega
    simp [va_up, this]
  have hq : va_up ad (w.length + 100) q (w.length + 100) = q := by simp [va_up]
  have hw : ab_w tc (va_up ad (w.length + 100) q) 100 (w ++ [c0]) = ab_w tc ad 100 w ++ [(q, ab_e tc ad c0)] := by
    rw [ab_w_app, ab_w_re hre hsc.2.2]
    show _ ++ [(va_up ad (w.length + 100) q (w.length + 100), ab_e tc _ c0)] = _
    rw [hq, hE]
  have h := kk p l e R s m args below meth c Z D tc (va_up ad (w.length + 100) q) A H locs (cells + 1) (slots + N) ls (X.re (fun t ht => hre t (by omega))) ⟨by rw [hw]; exact h1, by rw [hw]; exact h2, h3⟩ (hL.re hre hsc.1) (by omega) (by omega)
    (fun pc' ad' H' locs' cells' slots' ls' w' v a1 a2 a4 a5 a6 a7 => fin pc' ad' H' locs' cells' slots' ls' w' v a1 (by
      have a3 := a2.2.1
      rw [List.length_append, List.length_singleton] at a3
      exact ⟨fun t ht => (a2.1 t (by rw [List.length_append]; omega)).trans (hre t ht), by omega, fun h => by omega⟩) a4 (by omega) (by omega) a7)
  rw [List.map_cons, ab_st_re hre hsc.2.1] at h
  have e : ab_v (va_up ad (w.length + 100) q) (.ref (w.length + 100)) = .ref q := by
    show Value.ref (va_up ad (w.length + 100) q (w.length + 100)) = .ref q
    rw [hq]
  rw [e] at h
  exact h
theorem ab_dv (f : Nat → Nat) (ty : FieldType) : ab_v f (defaultValue ty) = defaultValue ty := by cases ty <;> rfl
theorem G_new {idx ci N t : Nat} {C : String} {T : u_T} {ty : Nat → FieldType} {fs : List Value} (hc : ab_kc ci C T N ty) (hd : decode M.2.2.1 pc = .ok (.new idx, 3)) (hl : Cond.classLink M.1 idx C ∈ ab_U) (hi : Cond.instantiable C N ∈ ab_U) (hini : Cond.initialized C ∈ ab_U) (hfs : (List.range N).map (fun j => defaultValue (ty j)) = fs) (hsc : ab_scS (w.length + 100) L st w) (ht : w.length + 100 = t) (hw' : w ++ [.inr (ci, fs)] = w') (kk : G xo M d k n Q (pc + 3) L (.ref t :: st) w') : G xo M d (k + 1) (n + N) Q pc L st w := by
  intro p l e R s m args below meth c Z D tc ad A H locs cells slots ls X hR hL hcc hss fin
  subst hw'
  subst ht
  have hE : ∀ f : Nat → Nat, fs.map (ab_v f) = fs := by
    intro f
    rw [← hfs, List.map_map]
    exact List.map_congr_left fun j _ => ab_dv f _
  refine va_new X.1.1 X.1.2.1 X.2.2.1 hc.2.1 ty hc.2.2.1 X.1.2.2.2 (X.2.2.1 _ hl) (X.2.2.1 _ hi) (X.2.2.1 _ hini) X.2.2.2.1 hR.1 hR.2.1 hR.2.2 X.2.2.2.2.1 hc.1 (fs := fs) (fun j hj => by rw [← hfs]; simp [vp_V, hj]) (by omega) (by omega) hd (fun q H1 h1 h2 h3 => ?_)
  have e : ab_e tc ad (.inr (ci, fs)) = .inr (ci, fs) := by
    show (Sum.inr (ci, fs.map (ab_v ad)) : va_E) = _
    rw [hE]
  rw [← e] at h1 h2
  exact G_made hsc X hL hcc hss fin (fun f => by show (Sum.inr (ci, fs.map (ab_v f)) : va_E) = .inr (ci, fs.map (ab_v ad)); rw [hE, hE]) h1 h2 h3 kk
theorem G_newi {t N : Nat} {x : Int32} (hd : decode M.2.2.1 pc = .ok (.newarray .int, 2)) (hl : Cond.arrayClass .int ∈ ab_U) (hx : ¬ x < 0) (hN : x.toNatClampNeg = N) (hb : N * 8 ≤ 536870912) (hsc : ab_scS (w.length + 100) L st w) (ht : w.length + 100 = t) (hw' : w ++ [.inl (0, N, .inl (fun _ => 0))] = w') (kk : G xo M d k n Q (pc + 2) L (.ref t :: st) w') : G xo M d (k + 1) (n + N) Q pc L (.int x :: st) w := by
  intro p l e R s m args below meth c Z D tc ad A H locs cells slots ls X hR hL hcc hss fin
  subst hw'
  subst ht
  refine va_newa (atype := .int) (ty := .int) X.1.1 X.1.2.1 (X.2.2.1 _ hl) rfl X.2.2.2.1 hR.1 hR.2.1 hR.2.2 X.2.2.2.2.1 (a0 := (N, .inl (fun _ => 0))) (fun _ => rfl) hx hN (show N * 4 ≤ 536870912 by omega) (by omega) (by omega) hd (fun q cA H1 hK1 h1 h2 h3 => ?_)
  have e : cA = tc 0 := Option.some.inj ((va_nm_int (hK1.2 5 _ rfl).2).symm.trans (va_nm_int (hK1.2 0 _ rfl).2))
  subst e
  exact G_made (c0 := .inl (0, N, .inl (fun _ => 0))) hsc X hL hcc hss fin (fun _ => rfl) h1 h2 h3 kk
theorem G_newl {t N : Nat} {x : Int32} (hd : decode M.2.2.1 pc = .ok (.newarray .long, 2)) (hl : Cond.arrayClass .long ∈ ab_U) (hx : ¬ x < 0) (hN : x.toNatClampNeg = N) (hb : N * 8 ≤ 536870912) (hsc : ab_scS (w.length + 100) L st w) (ht : w.length + 100 = t) (hw' : w ++ [.inl (1, N, .inr (.inl (fun _ => 0)))] = w') (kk : G xo M d k n Q (pc + 2) L (.ref t :: st) w') : G xo M d (k + 1) (n + N) Q pc L (.int x :: st) w := by
  intro p l e R s m args below meth c Z D tc ad A H locs cells slots ls X hR hL hcc hss fin
  subst hw'
  subst ht
  refine va_newa (atype := .long) (ty := .long) X.1.1 X.1.2.1 (X.2.2.1 _ hl) rfl X.2.2.2.1 hR.1 hR.2.1 hR.2.2 X.2.2.2.2.1 (a0 := (N, .inr (.inl (fun _ => 0)))) (fun _ => rfl) hx hN (show N * 8 ≤ 536870912 by omega) (by omega) (by omega) hd (fun q cA H1 hK1 h1 h2 h3 => ?_)
  have e : cA = tc 1 := Option.some.inj ((va_nm_long (hK1.2 5 _ rfl).2).symm.trans (va_nm_long (hK1.2 1 _ rfl).2))
  subst e
  exact G_made (c0 := .inl (1, N, .inr (.inl (fun _ => 0)))) hsc X hL hcc hss fin (fun _ => rfl) h1 h2 h3 kk
theorem G_newb {t N : Nat} {x : Int32} (hd : decode M.2.2.1 pc = .ok (.newarray .byte, 2)) (hl : Cond.arrayClass .byte ∈ ab_U) (hx : ¬ x < 0) (hN : x.toNatClampNeg = N) (hb : N * 8 ≤ 536870912) (hsc : ab_scS (w.length + 100) L st w) (ht : w.length + 100 = t) (hw' : w ++ [.inl (2, N, .inl (fun _ => 0))] = w') (kk : G xo M d k n Q (pc + 2) L (.ref t :: st) w') : G xo M d (k + 1) (n + N) Q pc L (.int x :: st) w := by
  intro p l e R s m args below meth c Z D tc ad A H locs cells slots ls X hR hL hcc hss fin
  subst hw'
  subst ht
  refine va_newa (atype := .byte) (ty := .byte) X.1.1 X.1.2.1 (X.2.2.1 _ hl) rfl X.2.2.2.1 hR.1 hR.2.1 hR.2.2 X.2.2.2.2.1 (a0 := (N, .inl (fun _ => 0))) (fun _ => rfl) hx hN (show N * 1 ≤ 536870912 by omega) (by omega) (by omega) hd (fun q cA H1 hK1 h1 h2 h3 => ?_)
  have e : cA = tc 2 := Option.some.inj ((va_nm_byte (hK1.2 5 _ rfl).2).symm.trans (va_nm_byte (hK1.2 2 _ rfl).2))
  subst e
  exact G_made (c0 := .inl (2, N, .inl (fun _ => 0))) hsc X hL hcc hss fin (fun _ => rfl) h1 h2 h3 kk
theorem G_newz {t N : Nat} {x : Int32} (hd : decode M.2.2.1 pc = .ok (.newarray .boolean, 2)) (hl : Cond.arrayClass .boolean ∈ ab_U) (hx : ¬ x < 0) (hN : x.toNatClampNeg = N) (hb : N * 8 ≤ 536870912) (hsc : ab_scS (w.length + 100) L st w) (ht : w.length + 100 = t) (hw' : w ++ [.inl (3, N, .inl (fun _ => 0))] = w') (kk : G xo M d k n Q (pc + 2) L (.ref t :: st) w') : G xo M d (k + 1) (n + N) Q pc L (.int x :: st) w := by
  intro p l e R s m args below meth c Z D tc ad A H locs cells slots ls X hR hL hcc hss fin
  subst hw'
  subst ht
  refine va_newa (atype := .boolean) (ty := .boolean) X.1.1 X.1.2.1 (X.2.2.1 _ hl) rfl X.2.2.2.1 hR.1 hR.2.1 hR.2.2 X.2.2.2.2.1 (a0 := (N, .inl (fun _ => 0))) (fun _ => rfl) hx hN (show N * 1 ≤ 536870912 by omega) (by omega) (by omega) hd (fun q cA H1 hK1 h1 h2 h3 => ?_)
  have e : cA = tc 3 := Option.some.inj ((va_nm_boolean (hK1.2 5 _ rfl).2).symm.trans (va_nm_boolean (hK1.2 3 _ rfl).2))
  subst e
  exact G_made (c0 := .inl (3, N, .inl (fun _ => 0))) hsc X hL hcc hss fin (fun _ => rfl) h1 h2 h3 kk
theorem G_newq {idx t N : Nat} {x : Int32} (hd : decode M.2.2.1 pc = .ok (.anewarray idx, 3)) (hl : Cond.classLink M.1 idx RX0 ∈ ab_U) (hx : ¬ x < 0) (hN : x.toNatClampNeg = N) (hb : N * 4 ≤ 536870912) (hsc : ab_scS (w.length + 100) L st w) (ht : w.length + 100 = t) (hw' : w ++ [.inl (4, N, .inr (.inr (.inr (.inr (fun _ => none)))))] = w') (kk : G xo M d k n Q (pc + 3) L (.ref t :: st) w') : G xo M d (k + 1) (n + N) Q pc L (.int x :: st) w := by
  intro p l e R s m args below meth c Z D tc ad A H locs cells slots ls X hR hL hcc hss fin
  subst hw'
  subst ht
  refine va_newq X.1.1 X.1.2.1 X.1.2.2.2 (X.2.2.1 _ hl) X.2.2.2.2.2.2.2.2.2.1 X.2.2.2.1 hR.1 hR.2.1 hR.2.2 X.2.2.2.2.1 hx hN hb (by omega) (by omega) hd (fun q cA H1 hK1 h1 h2 h3 => ?_)
  obtain ⟨-, -, -, -, -, e1⟩ := (hK1.2 5 _ rfl).2
  obtain ⟨-, -, -, -, -, e2⟩ := (hK1.2 4 _ rfl).2
  have e : cA = tc 4 := Option.some.inj (e1.symm.trans e2)
  subst e
  exact G_made (c0 := .inl (4, N, .inr (.inr (.inr (.inr (fun _ => none)))))) hsc X hL hcc hss fin (fun _ => rfl) h1 h2 h3 kk
end AB
end
section
/-! Contracts (Con) and rules of G for calls. -/
/-- the locals at a method's entry -/
def ab_en : List Value → List (Option Value)
  | [] => []
  | v :: vs => match v with
    | .long x => some (.long x) :: none :: ab_en vs
    | .double x => some (.double x) :: none :: ab_en vs
    | v => some v :: ab_en vs
def ab_ent (vs : List Value) (n : Nat) : List (Option Value) := ab_en vs ++ List.replicate (n - (ab_en vs).length) none
theorem ab_en_len (ad : Nat → Nat) : ∀ vs : List Value, (lg_sl (vs.map (ab_v ad))).length = (ab_en vs).length
  | [] => rfl
  | v :: vs => by
    have ih := ab_en_len ad vs
    have h : lg_sl ((v :: vs).map (ab_v ad)) = (if (ab_v ad v).category = 2 then [.val (ab_v ad v), .second] else [.val (ab_v ad v)]) ++ lg_sl (vs.map (ab_v ad)) := rfl
    rw [h, List.length_append, ih]
    cases v <;> simp [ab_en, ab_v, Value.category] <;> omega
theorem ab_en_at (ad : Nat → Nat) : ∀ (vs : List Value) (i j : Nat) (v : Value), (ab_en vs)[j]? = some (some v) → (i + j, ab_v ad v) ∈ lv_args i (vs.map (ab_v ad))
  | [], i, j, v, h => by simp [ab_en] at h
  | u :: vs, i, j, v, h => by
    rw [List.map_cons, lv_args]
    have one : ∀ (hu : ¬ u.category = 2) (h : (some u :: ab_en vs)[j]? = some (some v)), (i + j, ab_v ad v) ∈ (i, ab_v ad u) :: lv_args (if (ab_v ad u).category = 2 then i + 2 else i + 1) (vs.map (ab_v ad)) := by
      intro hu h
      rw [ab_cat, if_neg hu]
      cases j with
      | zero =>
        rw [List.getElem?_cons_zero] at h
        cases h
        exact List.mem_cons_self
      | succ j =>
        rw [List.getElem?_cons_succ] at h
        have := ab_en_at ad vs (i + 1) j v h
        rw [show i + 1 + j = i + (j + 1) by omega] at this
        exact List.mem_cons_of_mem _ this
    have two : ∀ (hu : u.category = 2) (h : (some u :: none :: ab_en vs)[j]? = some (some v)), (i + j, ab_v ad v) ∈ (i, ab_v ad u) :: lv_args (if (ab_v ad u).category = 2 then i + 2 else i + 1) (vs.map (ab_v ad)) := by
      intro hu h
      rw [ab_cat, if_pos hu]
      match j, h with
      | 0, h =>
        rw [List.getElem?_cons_zero] at h
        cases h
        exact List.mem_cons_self
      | 1, h => simp at h
      | j + 2, h =>
        rw [List.getElem?_cons_succ, List.getElem?_cons_succ] at h
        have := ab_en_at ad vs (i + 2) j v h
        rw [show i + 2 + j = i + (j + 2) by omega] at this
        exact List.mem_cons_of_mem _ this
    cases u with
    | long x => exact two rfl h
    | double x => exact two rfl h
    | int x => exact one (fun q => by cases q) h
    | float x => exact one (fun q => by cases q) h
    | null => exact one (fun q => by cases q) h
    | ref x => exact one (fun q => by cases q) h
    | retAddr x => exact one (fun q => by cases q) h
/-- what a method leaves -/
def ab_Q (D : va_G) (tc : Nat → ClassId) (ad : Nat → Nat) (w : List ab_C) (sz : Nat) (Q : List ab_C → Option Value → Prop) : Array Value → State → Outcome → State → Prop := fun _ st oc t =>
  (∃ (w' : List ab_C) (ad' : Nat → Nat) (v : Option Value), oc = .returned (v.map (ab_v ad')) ∧ Q w' v ∧ ab_ext w ad w' ad' ∧ va_P D vwCl (ab_w tc ad' 100 w') t.heap ∧ va_D (va_A (ab_w tc ad 100 w) sz) (ab_w tc ad' 100 w')) ∧ va_F (va_A (ab_w tc ad 100 w) sz) st t
def ab_pre (D : va_G) (tc : Nat → ClassId) (ad : Nat → Nat) (w : List ab_C) (sz : Nat) (U : State) : Prop :=
  U.heap.size = sz ∧ va_P D vwCl (ab_w tc ad 100 w) U.heap ∧ va_K D vwCl (ab_tys tc) U ∧ va_D (fun _ => True) (ab_w tc ad 100 w) ∧ ab_O ab_x0 ad (va_A (ab_w tc ad 100 w) sz) U U.heap
abbrev ab_rm (d mc ms : Nat) : Room := { frames := d, cells := mc, slots := ms, locals := 64 * d }
abbrev ab_ws (M : ab_M) : List Cond := Cond.code M.2.1 M.2.2.1 M.2.2.2.1 M.2.2.2.2 :: ab_U
/-- A CONTRACT: from the world w and the arguments, with calls at most d deep, at most mc cells of ms slots are made, and Q holds of the world and the answer -/
def Con (M : ab_M) (d mc ms : Nat) (w : List ab_C) (as : List Value) (Q : List ab_C → Option Value → Prop) : Prop :=
  ∀ (l : Launch) (D : va_G) (tc : Nat → ClassId) (ad : Nat → Nat) (sz : Nat),
    Met l M.2.1 (ab_ws M) (ab_rm d mc ms) (va_Pc (as.map (ab_v ad)) (ab_pre D tc ad w sz)) (ab_Q D tc ad w sz Q) mc ms (va_A (ab_w tc ad 100 w) sz)
/-- a method of ours -/
def ab_ok (M : ab_M) : Prop := plainName M.2.1.cls = true ∧ M.1 = M.2.1.cls
set_option maxHeartbeats 4000000 in
theorem Con.of {M : ab_M} {d mc ms : Nat} {w : List ab_C} {as : List Value} {Q : List ab_C → Option Value → Prop} (hM : ab_ok M) (hlen : (ab_en as).length ≤ M.2.2.2.1) (h : G ab_x0 M d mc ms Q 0 (ab_ent as M.2.2.2.1) [] w) : Con M d mc ms w as Q := by
  intro l D tc ad sz
  refine Met.ofW (cc := M.2.2.1) (maxL := M.2.2.2.1) (ret := M.2.2.2.2) hM.1 rfl ?_
  intro p e s m args below meth c s₁ B hml hv
  obtain ⟨rfl, rfl, hP, hK, hD0, hO⟩ := hv
  have hts := atoms_spec (ws := ab_ws M) B.pre
  have hown : s.vm.findClass M.1 = some m.cls := by rw [hM.2]; exact findClass_of_methodNamed B.named
  have hD := hD0.self (sz := s.heap.size)
  have hl := lv_entry (as.map (ab_v ad)) (n := M.2.2.2.1) (by rw [ab_en_len]; exact hlen)
  rw [lg_entry_eq]
  generalize (lg_sl (as.map (ab_v ad)) ++ List.replicate (M.2.2.2.1 - (lg_sl (as.map (ab_v ad))).length) Slot.unset).toArray = ls at hl ⊢
  have hL : ab_L ad ls (ab_ent as M.2.2.2.1) := by
    refine ⟨hl.1.trans ?_, hl.2.1, fun i v hi => ?_⟩
    · rw [ab_ent, List.length_append, List.length_replicate]
      omega
    · by_cases hi2 : i < (ab_en as).length
      · rw [ab_ent, List.getElem?_append_left hi2] at hi
        have := ab_en_at ad as 0 i v hi
        rw [Nat.zero_add] at this
        exact hl.2.2 _ this
      · rw [ab_ent, List.getElem?_append_right (by omega), List.getElem?_replicate] at hi
        split at hi <;> simp at hi
  have hA : ∀ q : Nat, s.heap.size ≤ q → va_A (ab_w tc ad 100 w) s.heap.size q := fun q h => Or.inr h
  refine h p l e (ab_rm d mc ms) s m (as.map (ab_v ad)).toArray below meth c (MQ below (ab_Q D tc ad w s.heap.size Q) (as.map (ab_v ad)).toArray s mc ms (va_A (ab_w tc ad 100 w) s.heap.size)) D tc ad (va_A (ab_w tc ad 100 w) s.heap.size) s.heap [] 0 0 ls
    ⟨⟨B.exec, B.bytes, hml, hown⟩, ⟨B.returns, B.notSynchronized, (name_of_methodNamed B.named B.method).1⟩, fun w hw => hts w (List.mem_cons_of_mem _ hw), hK, hA, ⟨Nat.le_refl _, Nat.le_refl _⟩, hO⟩ ⟨hP, hD, va_S.rf⟩ hL (by show 0 + mc ≤ mc; omega) (by show 0 + ms ≤ ms; omega) ?_
  intro pc' ad' H' locs' cells' slots' ls' w' v hr hx hR hc hs hq
  refine W.widen (k := mc) (n := ms) (by omega) (by omega) ?_
  have hlocks := B.notSynchronized
  have key : ∀ (t : State), t.heap = H' → ab_Q D tc ad w s.heap.size Q (as.map (ab_v ad)).toArray s (.returned (v.map (ab_v ad'))) t := fun t ht =>
    ⟨⟨w', ad', v, rfl, hq, hx, by rw [ht]; exact hR.1, hR.2.1⟩, hR.2.2.F ht⟩
  match v, hr, key with
  | none, hr, key => exact W.vret B.exec B.bytes (B.returns.trans hr.2) (fun t ht _ => key t ht) hR.2.2.2.2 hr.1
  | some (.int x), hr, key =>
    obtain ⟨hr, ty, h1, h2⟩ := hr
    exact W.zret B.exec B.bytes (B.returns.trans h1) h2 (fun t ht _ => key t ht) hR.2.2.2.2 hr
  | some (.long x), hr, key => exact W.lret B.exec B.bytes (B.returns.trans hr.2) (fun t ht _ => key t ht) hR.2.2.2.2 hr.1
  | some (.ref x), hr, key =>
    obtain ⟨hr, nm, h1⟩ := hr
    exact W.aret B.exec B.bytes (B.returns.trans h1) (Or.inl ⟨nm, rfl⟩) (Or.inr ⟨_, rfl⟩) (fun t ht _ => key t ht) hR.2.2.2.2 hr
  | some .null, hr, key =>
    obtain ⟨hr, nm, h1⟩ := hr
    exact W.aret B.exec B.bytes (B.returns.trans h1) (Or.inl ⟨nm, rfl⟩) (Or.inl rfl) (fun t ht _ => key t ht) hR.2.2.2.2 hr
  | some (.float x), hr, key => exact hr.elim
  | some (.double x), hr, key => exact hr.elim
  | some (.retAddr x), hr, key => exact hr.elim
/-! calls -/
/-- a cell with its tokens renamed -/
def ab_rc (r : Nat → Nat) (c : ab_C) : ab_C := match c with
  | .inl (t, a) => .inl (t, ab_a r a)
  | .inr (ci, fs) => .inr (ci, fs.map (ab_v r))
theorem ab_v_v (ad r : Nat → Nat) (v : Value) : ab_v ad (ab_v r v) = ab_v (fun t => ad (r t)) v := by cases v <;> rfl
theorem ab_e_rc (tc : Nat → ClassId) (ad r : Nat → Nat) (c : ab_C) : ab_e tc ad (ab_rc r c) = ab_e tc (fun t => ad (r t)) c := by
  match c with
  | .inl (t, n, .inl f) => rfl
  | .inl (t, n, .inr (.inl f)) => rfl
  | .inl (t, n, .inr (.inr (.inl f))) => rfl
  | .inl (t, n, .inr (.inr (.inr (.inl f)))) => rfl
  | .inl (t, n, .inr (.inr (.inr (.inr f)))) =>
    show (Sum.inl (tc t, n, .inr (.inr (.inr (.inr (fun j => ((f j).map r).map ad))))) : va_E) = .inl (tc t, n, .inr (.inr (.inr (.inr (fun j => (f j).map (fun t => ad (r t)))))))
    have e : (fun j => ((f j).map r).map ad) = (fun j => (f j).map (fun t => ad (r t))) := by
      funext j
      cases f j <;> rfl
    rw [e]
  | .inr (ci, fs) =>
    show (Sum.inr (ci, (fs.map (ab_v r)).map (ab_v ad)) : va_E) = .inr (ci, fs.map (ab_v (fun t => ad (r t))))
    rw [List.map_map]
    have e : (ab_v ad ∘ ab_v r) = ab_v (fun t => ad (r t)) := by
      funext v
      exact ab_v_v ad r v
    rw [e]
/-- the callee's tokens: is: where its world's cells stand in the caller's; fo: its foreign tokens 4, 5 ..; n: how many cells the caller's world has -/
def ab_rho (is fo : List Nat) (n t : Nat) : Nat := if t < 4 then t else if t < 100 then fo.getD (t - 4) 0 else match is[t - 100]? with
  | some j => j + 100
  | none => t - is.length + n
theorem ab_rho_lo {is fo : List Nat} {n t : Nat} (h : t < 4) : ab_rho is fo n t = t := by simp [ab_rho, h]
theorem ab_rho_at {is fo : List Nat} {n j i : Nat} (h : is[j]? = some i) : ab_rho is fo n (j + 100) = i + 100 := by
  have h1 : ¬ j + 100 < 4 := by omega
  have h2 : ¬ j + 100 < 100 := by omega
  have h3 : j + 100 - 100 = j := by omega
  simp [ab_rho, h1, h2, h3, h]
def ab_put : List ab_C → List Nat → List ab_C → List ab_C
  | w, i :: is, c :: cs => ab_put (w.set i c) is cs
  | w, _, _ => w
theorem ab_put_len : ∀ (is : List Nat) (w cs : List ab_C), (ab_put w is cs).length = w.length
  | [], w, cs => by simp [ab_put]
  | i :: is, w, [] => by simp [ab_put]
  | i :: is, w, c :: cs => by rw [ab_put, ab_put_len is, List.length_set]
theorem ab_put_out : ∀ (is : List Nat) (w cs : List ab_C) (k : Nat), k ∉ is → (ab_put w is cs)[k]? = w[k]?
  | [], w, cs, k, _ => by simp [ab_put]
  | i :: is, w, [], k, _ => by simp [ab_put]
  | i :: is, w, c :: cs, k, h => by
    rw [ab_put, ab_put_out is _ cs k (fun q => h (List.mem_cons_of_mem _ q)), List.getElem?_set_ne (fun q => h (by rw [q]; exact List.mem_cons_self))]
theorem ab_put_in : ∀ (is : List Nat) (w cs : List ab_C), va_nd is = true → ∀ (j i : Nat) (c : ab_C), is[j]? = some i → cs[j]? = some c → i < w.length → (ab_put w is cs)[i]? = some c
  | [], w, cs, _, j, i, c, h, _, _ => by simp at h
  | i0 :: is, w, [], _, j, i, c, _, h, _ => by simp at h
  | i0 :: is, w, c0 :: cs, hn, j, i, c, h1, h2, hl => by
    simp only [va_nd, Bool.and_eq_true, decide_eq_true_eq] at hn
    rw [ab_put]
    cases j with
    | zero =>
      rw [List.getElem?_cons_zero] at h1 h2
      have h1 := Option.some.inj h1
      have h2 := Option.some.inj h2
      subst h1
      subst h2
      rw [ab_put_out is _ cs _ hn.1, List.getElem?_set_self hl]
    | succ j =>
      rw [List.getElem?_cons_succ] at h1 h2
      exact ab_put_in is _ cs hn.2 j i c h1 h2 (by rw [List.length_set]; exact hl)
theorem ab_fm {α β : Type} {f : α → Option β} : ∀ {is : List α} {l : List β}, is.map f = l.map some → is.filterMap f = l
  | [], [], _ => rfl
  | [], b :: l, h => by simp at h
  | a :: is, [], h => by simp at h
  | a :: is, b :: l, h => by
    rw [List.map_cons, List.map_cons] at h
    injection h with h1 h2
    rw [List.filterMap_cons, h1, ab_fm h2]
/-- the callee's world in the caller's -/
def ab_fits (is fo : List Nat) (wc w : List ab_C) : Prop := (wc.map (ab_rc (ab_rho is fo w.length))).map some = is.map (fun i => w[i]?)
theorem ab_fits.len {is fo : List Nat} {wc w : List ab_C} (h : ab_fits is fo wc w) : wc.length = is.length := by
  have := congrArg List.length h
  simpa using this
theorem ab_fits.at {is fo : List Nat} {wc w : List ab_C} (h : ab_fits is fo wc w) {j : Nat} {c : ab_C} (hc : wc[j]? = some c) : ∃ i, is[j]? = some i ∧ w[i]? = some (ab_rc (ab_rho is fo w.length) c) := by
  have h1 := congrArg (fun l => l[j]?) h
  simp only [List.getElem?_map, hc, Option.map_some] at h1
  cases hi : is[j]? with
  | none => rw [hi] at h1; cases h1
  | some i =>
    rw [hi] at h1
    exact ⟨i, rfl, (Option.some.inj h1).symm⟩
theorem ab_fits.ws {is fo : List Nat} {wc w : List ab_C} (h : ab_fits is fo wc w) (tc : Nat → ClassId) (ad : Nat → Nat) : is.map (fun i => (ab_w tc ad 100 w)[i]?) = (ab_w tc (fun t => ad (ab_rho is fo w.length t)) 100 wc).map some := by
  apply List.ext_getElem?
  intro j
  rw [List.getElem?_map, List.getElem?_map, ab_w_at]
  cases hc : wc[j]? with
  | none =>
    have h1 : is[j]? = none := by
      rw [List.getElem?_eq_none_iff] at hc ⊢
      rw [← h.len]
      exact hc
    rw [h1]
    rfl
  | some c =>
    obtain ⟨i, h1, h2⟩ := h.at hc
    rw [h1]
    show some ((ab_w tc ad 100 w)[i]?) = some (some (ad (ab_rho is fo w.length (j + 100)), ab_e tc _ c))
    rw [ab_w_at, h2, ab_rho_at h1]
    show some (some (ad (i + 100), ab_e tc ad (ab_rc _ c))) = _
    rw [ab_e_rc]
theorem ab_O.less {xo : ab_XO} {ad ad' : Nat → Nat} {A : Nat → Prop} {U : State} {H : Heap} (h : ab_O xo ad A U H) (hx : ∀ (i : Nat) (q : Nat × (Nat → Int32)), ab_x0[i]? = some q → xo[i]? = some q) (hq : ∀ t, t < 4 → ad' t = ad t) : ab_O ab_x0 ad' A U H := by
  refine ⟨fun i q hi => ?_, fun i q hi => ?_, h.2.2.1, h.2.2.2.1, by decide⟩
  · have hl : i < 4 := Nat.lt_of_lt_of_le (List.getElem?_eq_some_iff.mp hi).1 (by decide)
    rw [hq i hl]
    exact h.1 i q (hx i q hi)
  · have hl : i < 4 := Nat.lt_of_lt_of_le (List.getElem?_eq_some_iff.mp hi).1 (by decide)
    rw [hq i hl]
    exact h.2.1 i q hi
theorem ab_O.calls {xo : ab_XO} {ad : Nat → Nat} {A : Nat → Prop} {U : State} {H : Heap} (g : JFrame) (mk : MethodId) (a : Array Value) (h : ab_O xo ad A U H) : ab_O xo ad A (U.calling g mk a) H := by
  refine ⟨fun i q hq => (h.1 i q hq).moved (U := U.calling g mk a) (Vm.Alike.refl U.vm), fun i q hq => (h.2.1 i q hq).moved (U := U.calling g mk a) (Vm.Alike.refl U.vm), fun w hw => ?_, h.2.2.2.1.moved (U := U.calling g mk a) (Vm.Alike.refl U.vm), h.2.2.2.2⟩
  have h1 := h.2.2.1 w hw
  have h2 := (List.mem_filter.mp hw).2
  cases w <;> first | exact va_Nw.same rfl rfl h1 | (simp [ab_isN] at h2)
theorem ab_blind {av : List Value} {D : va_G} {tc : Nat → ClassId} {ad : Nat → Nat} {w : List ab_C} {sz : Nat} : FrameBlind (va_Pc av (ab_pre D tc ad w sz)) := by
  intro a U g mk h
  obtain ⟨h1, h2, h3, h4, h5, h6⟩ := h
  exact ⟨h1, h2, h3, va_K.moved (u := U) (U := U.calling g mk a) (Vm.Alike.refl U.vm) h4, h5, h6.calls g mk a⟩
section ABC
variable {xo : ab_XO} {M N : ab_M} {d k n mc ms : Nat} {Q Qc : List ab_C → Option Value → Prop} {pc : Nat} {L : List (Option Value)} {st : List Value} {w wc : List ab_C} {is fo : List Nat}
variable {p : Program} {l : Launch} {e : Env} {R : Room} {s : State} {m : MethodId} {args : Array Value} {below : List Frame} {meth : Method} {c : Code} {Z : State → Prop} {D : va_G} {tc : Nat → ClassId} {ad : Nat → Nat} {A : Nat → Prop} {H : Heap} {locs : List Loc} {cells slots : Nat} {ls : Array Slot}
theorem ab_pre.of (X : ab_X xo M d p R s m args meth c D tc ad A) (hR : ab_R D tc ad A s H locs w) (hx : ∀ (i : Nat) (q : Nat × (Nat → Int32)), ab_x0[i]? = some q → xo[i]? = some q) (hf : ab_fits is fo wc w) (hn : va_nd is = true) (U : State) (hU : U.heap = H) (hW : s.WarmedH U.vm) : ab_pre D tc (fun t => ad (ab_rho is fo w.length t)) wc H.size U := by
  have hC := hf.ws tc ad
  refine ⟨by rw [hU], by rw [hU]; exact hR.1.sub is (ab_fm hC), va_K.moved hW.alike X.2.2.2.1, (hR.2.1.sub is hn hC).weaken (fun _ _ _ _ => trivial), ?_⟩
  rw [hU]
  refine ab_O.narrow (A := A) (ab_O.less (ab_O.kept (ab_O.moved hW X.2.2.2.2.2.2) (fun a h1 h2 => hR.2.2.2.1 a h1 h2)) hx (fun t ht => ?_)) (va_free hR.2.1 hR.2.2 X.2.2.2.2.1 is hC)
  show ad (ab_rho is fo w.length t) = ad t
  rw [ab_rho_lo ht]
theorem ab_D_iff {w : List ab_C} : va_D A (ab_w tc ad 100 w) ↔ (∀ i j, i < w.length → j < w.length → ad (i + 100) = ad (j + 100) → i = j) ∧ ∀ i, i < w.length → A (ad (i + 100)) := by
  have at' : ∀ i, i < w.length → ∃ ce, (ab_w tc ad 100 w)[i]? = some (ad (i + 100), ce) := fun i hi => by
    rw [ab_w_at, List.getElem?_eq_getElem hi]
    exact ⟨_, rfl⟩
  have of' : ∀ (i : Nat) (q : Nat × va_E), (ab_w tc ad 100 w)[i]? = some q → i < w.length ∧ q.1 = ad (i + 100) := fun i q h => by
    rw [ab_w_at] at h
    cases hw : w[i]? with
    | none => rw [hw] at h; cases h
    | some ce =>
      rw [hw] at h
      cases h
      exact ⟨(List.getElem?_eq_some_iff.mp hw).1, rfl⟩
  constructor
  · intro h
    refine ⟨fun i j hi hj hij => ?_, fun i hi => ?_⟩
    · obtain ⟨a, ha⟩ := at' i hi
      obtain ⟨b, hb⟩ := at' j hj
      exact h.1 i j _ _ ha hb hij
    · obtain ⟨a, ha⟩ := at' i hi
      exact h.2 i _ ha
  · intro h
    refine ⟨fun i j x y hi hj hxy => ?_, fun i x hi => ?_⟩
    · obtain ⟨a1, a2⟩ := of' i x hi
      obtain ⟨b1, b2⟩ := of' j y hj
      exact h.1 i j a1 b1 (by rw [← a2, ← b2, hxy])
    · obtain ⟨a1, a2⟩ := of' i x hi
      rw [a2]
      exact h.2 i a1
/-- the world behind a call that makes nothing -/
theorem ab_R.back {w' : List ab_C} {H1 : Heap} {locs1 : List Loc} (hR : ab_R D tc ad A s H locs w) (hf : ab_fits is fo wc w) (hn : va_nd is = true) (hl : w'.length = wc.length) (hS : va_S A s.heap H1 locs1)
    (hk : ∀ q : Nat, q < H.size → ¬ va_A (ab_w tc (fun t => ad (ab_rho is fo w.length t)) 100 wc) H.size q → H1[q]? = H[q]?) (hP1 : va_P D vwCl (ab_w tc (fun t => ad (ab_rho is fo w.length t)) 100 w') H1) : ab_R D tc ad A s H1 locs1 (ab_put w is (w'.map (ab_rc (ab_rho is fo w.length)))) := by
  refine ⟨fun x q hx => ?_, ab_D_iff.mpr (by rw [ab_put_len]; exact ab_D_iff.mp hR.2.1), hS⟩
  rw [ab_w_at] at hx
  by_cases hin : x ∈ is
  · obtain ⟨j, hj⟩ := List.getElem?_of_mem hin
    have hjl : j < w'.length := by
      rw [hl, hf.len]
      exact (List.getElem?_eq_some_iff.mp hj).1
    have hw' : w'[j]? = some w'[j] := List.getElem?_eq_getElem hjl
    obtain ⟨i, h1, h2⟩ := hf.at (List.getElem?_eq_getElem (by rw [← hl]; exact hjl))
    have hi : i = x := Option.some.inj (h1.symm.trans hj)
    subst hi
    rw [ab_put_in is w _ hn j i _ hj (by rw [List.getElem?_map, hw']; rfl) (List.getElem?_eq_some_iff.mp h2).1] at hx
    cases hx
    have h3 := hP1 j _ (by rw [ab_w_at, hw']; rfl)
    rw [ab_rho_at hj] at h3
    have h3 : va_at D vwCl (ad (i + 100), ab_e tc (fun t => ad (ab_rho is fo w.length t)) w'[j]) H1 := h3
    rw [← ab_e_rc] at h3
    exact h3
  · rw [ab_put_out is w _ x hin] at hx
    cases hw : w[x]? with
    | none => rw [hw] at hx; cases hx
    | some cx =>
      rw [hw] at hx
      cases hx
      have h3 := hR.1 x _ (by rw [ab_w_at, hw]; rfl)
      refine h3.kept (hk _ h3.lt (fun hA => ?_))
      rcases hA with ⟨j, ce, hj⟩ | hA
      · rw [ab_w_at] at hj
        cases hc : wc[j]? with
        | none => rw [hc] at hj; cases hj
        | some cj =>
          rw [hc] at hj
          obtain ⟨i, h4, h5⟩ := hf.at hc
          have hj := congrArg Prod.fst (Option.some.inj hj)
          have hj : ad (ab_rho is fo w.length (j + 100)) = ad (x + 100) := hj
          rw [ab_rho_at h4] at hj
          have := (ab_D_iff.mp hR.2.1).1 i x (List.getElem?_eq_some_iff.mp h5).1 (List.getElem?_eq_some_iff.mp hw).1 hj
          subst this
          exact hin (List.mem_of_getElem? h4)
      · have := h3.lt
        omega
theorem ab_vl (r : Nat → Nat) (v : Option Value) : (v.map (ab_v (fun t => ad (r t)))).toList = (v.map (ab_v r)).toList.map (ab_v ad) := by
  cases v with
  | none => rfl
  | some v => show [ab_v (fun t => ad (r t)) v] = [ab_v ad (ab_v r v)]; rw [ab_v_v]
/-- G's rule behind a call that makes nothing -/
theorem ab_run {a : Array Value} {stk : List Value} (X : ab_X xo M d p R s m args meth c D tc ad A) (hR : ab_R D tc ad A s H locs w) (hL : ab_L ad ls L) (hf : ab_fits is fo wc w) (hn : va_nd is = true) (hl : ∀ w' v, Qc w' v → w'.length = wc.length)
    (hr : va_Run p l e R s m args below meth c H locs cells slots mc ms (F0 m pc ls stk) (st.map (ab_v ad)) (ab_Q D tc (fun t => ad (ab_rho is fo w.length t)) wc H.size Qc a) (va_A (ab_w tc (fun t => ad (ab_rho is fo w.length t)) 100 wc) H.size))
    (hcc : cells + (k + mc) ≤ R.cells) (hss : slots + (n + ms) ≤ R.slots)
    (fin : ∀ (pc' : Nat) (ad' : Nat → Nat) (H' : Heap) (locs' : List Loc) (cells' slots' : Nat) (ls' : Array Slot) (w' : List ab_C) (v : Option Value),
      ab_ret M pc' v → ab_ext w ad w' ad' → ab_R D tc ad' A s H' locs' w' → cells' ≤ cells + (k + mc) → slots' ≤ slots + (n + ms) → Q w' v →
      W p l e R s m args below meth c H' locs' cells' slots' Z (F0 m pc' ls' (v.toList.map (ab_v ad'))))
    (kk : ∀ w' v, Qc w' v → G xo M d k n Q (pc + 3) L ((v.map (ab_v (ab_rho is fo w.length))).toList ++ st) (ab_put w is (w'.map (ab_rc (ab_rho is fo w.length))))) :
    W p l e R s m args below meth c H locs cells slots Z (F0 m pc ls stk) := by
  intro T hT Y
  obtain ⟨v0, st₀, t, T', LL, h0, Y', hLL, e1, e2, ⟨⟨w', adc, v, hv, hq, hx, hP1, hD1⟩, hz, hk⟩, go⟩ := hr T hT Y
  have hv := Outcome.returned.inj hv
  subst hv
  have hx := hx.2.2 (hl w' v hq)
  subst hx
  rw [h0] at hz hk
  have hA := va_free hR.2.1 hR.2.2 X.2.2.2.2.1 is (hf.ws tc ad)
  have hS : va_S A s.heap T'.heap (locs ++ LL) := ⟨Nat.le_trans hR.2.2.1 (by rw [e1]; exact hz), fun q h1 h2 => by rw [e1, hk q (Nat.lt_of_lt_of_le h1 hR.2.2.1) (fun z => h2 (hA q z))]; exact hR.2.2.2.1 q h1 h2, fun q hq => by
    rcases List.mem_append.mp hq with h | h
    · exact hR.2.2.2.2 q h
    · exact hA _ (hLL q h)⟩
  have hR1 := hR.back hf hn (hl w' v hq) hS (fun q h1 h2 => by rw [e1]; exact hk q h1 h2) (by rw [e1]; exact hP1)
  have g := kk w' v hq p l e R s m args below meth c Z D tc ad A T'.heap (locs ++ LL) (cells + mc) (slots + ms) ls X hR1 hL (by omega) (by omega)
    (fun pc' ad' H' locs' cells' slots' ls' w2 v2 a1 a2 a4 a5 a6 a7 => fin pc' ad' H' locs' cells' slots' ls' w2 v2 a1 (by simp only [ab_ext, ab_put_len] at a2 ⊢; exact a2) a4 (by omega) (by omega) a7)
  obtain ⟨t2, a1, b1⟩ := g T' rfl Y'
  refine ⟨t2, go t2 ?_, b1⟩
  rw [List.map_append, ← ab_vl] at a1
  exact a1
end ABC
end
section
/-! The rules of G for the kinds of calls. -/
/-- what every call needs of its callee -/
def ab_cl0 (N : ab_M) : Prop := Cond.code N.2.1 N.2.2.1 N.2.2.2.1 N.2.2.2.2 ∈ ab_U ∧ Cond.initialized N.2.1.cls ∈ ab_U ∧ N.2.2.2.1 ≤ 45 ∧ N.2.1.cls ≠ "java/lang/invoke/MethodHandle" ∧ N.2.1.cls ≠ "java/lang/invoke/VarHandle"
theorem ab_good {l : List Cond} (h : ∀ w ∈ l, w ∈ ab_U) : GoodIn ab_U l := fun w hw => ab_goodU w (h w hw)
theorem ab_wsU {N : ab_M} (h : ab_cl0 N) : ∀ w ∈ ab_ws N, w ∈ ab_U := fun w hw => by
  rcases List.mem_cons.mp hw with h1 | h1
  · rw [h1]; exact h.1
  · exact h1
theorem ab_sum (ad : Nat → Nat) (st : List Value) : ((st.map (ab_v ad)).map fun v => v.category).sum = (st.map fun v => v.category).sum := by
  rw [List.map_map]
  congr 1
  exact List.map_congr_left fun v _ => ab_cat ad v
section ABR
variable {xo : ab_XO} {M N : ab_M} {d k n mc ms : Nat} {Q Qc : List ab_C → Option Value → Prop} {pc : Nat} {L : List (Option Value)} {st stk : List Value} {w wc : List ab_C} {idx : Nat}
/-- a static method, ours or a nest mate's -/
def ab_S (M N : ab_M) (idx na : Nat) : Prop := ab_cl0 N ∧ Cond.methodLink M.1 idx N.2.1 ∈ ab_U ∧ Cond.static N.2.1 ∈ ab_U ∧ (parseMethodDescriptor N.2.1.desc).map (fun d => d.parameters.length) = some na
def ab_SN (M N : ab_M) (idx na : Nat) : Prop := ab_cl0 N ∧ Cond.methodLinkNest M.1 idx N.2.1 RX7 ∈ ab_N ∧ Cond.static N.2.1 ∈ ab_U ∧ (parseMethodDescriptor N.2.1.desc).map (fun d => d.parameters.length) = some na
def ab_V (M N : ab_M) (idx na : Nat) : Prop := ab_cl0 N ∧ (Cond.methodLink M.1 idx N.2.1 ∈ ab_U ∧ Cond.instanceMethod N.2.1 ∈ ab_U ∧ Cond.selects N.2.1.cls N.2.1 N.2.1 ∈ ab_U) ∧ (parseMethodDescriptor N.2.1.desc).map (fun d => d.parameters.length) = some na
def ab_I (M N : ab_M) (idx na : Nat) : Prop := ab_cl0 N ∧ (Cond.methodLink M.1 idx N.2.1 ∈ ab_U ∧ Cond.instanceMethod N.2.1 ∈ ab_U ∧ N.2.1.name = "<init>" ∧ N.2.2.2.2 = none) ∧ (parseMethodDescriptor N.2.1.desc).map (fun d => d.parameters.length) = some na
def ab_IN (M N : ab_M) (idx na : Nat) : Prop := ab_cl0 N ∧ (Cond.methodLinkNest M.1 idx N.2.1 RX7 ∈ ab_N ∧ Cond.instanceMethod N.2.1 ∈ ab_U ∧ N.2.1.name = "<init>" ∧ N.2.2.2.2 = none) ∧ (parseMethodDescriptor N.2.1.desc).map (fun d => d.parameters.length) = some na
variable {p : Program} {l : Launch} {e : Env} {R : Room} {s : State} {m : MethodId} {args : Array Value} {below : List Frame} {meth : Method} {c : Code} {Z : State → Prop} {D : va_G} {tc : Nat → ClassId} {ad : Nat → Nat} {A : Nat → Prop} {H : Heap} {locs : List Loc} {cells slots : Nat} {ls : Array Slot} {na : Nat}
theorem ab_vv (is fo : List Nat) (q : Nat) (as : List Value) : as.map (ab_v (fun t => ad (ab_rho is fo q t))) = (as.map (ab_v (ab_rho is fo q))).map (ab_v ad) := by
  rw [List.map_map]
  exact List.map_congr_left fun v _ => (ab_v_v ad _ v).symm
theorem ab_runS {is fo : List Nat} {as as' : List Value} (hl : ab_S M N idx na) (hC : Con N d mc ms wc as Qc) (hx : ∀ (i : Nat) (q : Nat × (Nat → Int32)), ab_x0[i]? = some q → xo[i]? = some q) (hf : ab_fits is fo wc w) (hn : va_nd is = true) (has : as.map (ab_v (ab_rho is fo w.length)) = as') (hstk : as'.reverse ++ st = stk) (hna : as.length = na) (hLl : L.length = M.2.2.2.1) (hsum : (st.map fun v => v.category).sum ≤ 8) (hd : decode M.2.2.1 pc = .ok (.invokestatic idx, 3))
    (X : ab_X xo M (d + 1) p R s m args meth c D tc ad A) (hR : ab_R D tc ad A s H locs w) (hL : ab_L ad ls L) (hcc : cells + mc ≤ R.cells) (hss : slots + ms ≤ R.slots) :
    va_Run p l e R s m args below meth c H locs cells slots mc ms (F0 m pc ls (stk.map (ab_v ad))) (st.map (ab_v ad)) (ab_Q D tc (fun t => ad (ab_rho is fo w.length t)) wc H.size Qc (as'.map (ab_v ad)).toArray) (va_A (ab_w tc (fun t => ad (ab_rho is fo w.length t)) 100 wc) H.size) := by
  have hroom : (ab_rm d mc ms).frames + 1 ≤ R.frames ∧ 8 + (N.2.2.2.1 + 11) + (ab_rm d mc ms).locals ≤ R.locals := by
    have h1 := X.2.2.2.2.2.1
    have h2 := hl.1.2.2.1
    exact ⟨h1.1, by show 8 + (N.2.2.2.1 + 11) + 64 * d ≤ R.locals; omega⟩
  have hG : GoodIn ab_U (va_wsS M.1 idx N.2.1 (ab_ws N)) := ab_good fun w hw => by
    rcases List.mem_append.mp hw with h | h
    · simp only [List.mem_cons, List.not_mem_nil, or_false] at h
      rcases h with h | h | h <;> rw [h]
      · exact hl.2.1
      · exact hl.2.2.1
      · exact hl.1.2.1
    · exact ab_wsU hl.1 w h
  have has' : as'.map (ab_v ad) = as.map (ab_v (fun t => ad (ab_rho is fo w.length t))) := by rw [← has, ab_vv]
  exact va_runS (As := as'.map (ab_v ad)) ⟨X.1.1, X.1.2.1, X.1.2.2.1, X.1.2.2.2, X.2.2.1⟩ (hC l D tc (fun t => ad (ab_rho is fo w.length t)) H.size) (va_cwS na X.2.2.1 hG rfl rfl rfl ⟨hl.1.2.2.2.1, hl.1.2.2.2.2, hl.2.2.2⟩ hroom)
    ⟨ab_blind, fun U hU hW => ⟨by rw [has'], ab_pre.of X hR hx hf hn U hU hW⟩⟩ rfl (by rw [List.length_map, ← has, List.length_map]; exact hna) (by show ls.size = _; rw [hL.1, hLl]) (by show stk.map (ab_v ad) = _; rw [← hstk, List.map_append, List.map_reverse]) (lv_room (by rw [ab_sum]; exact hsum)) hd ⟨hcc, hss⟩
theorem ab_runSN {is fo : List Nat} {as as' : List Value} (hl : ab_SN M N idx na) (hC : Con N d mc ms wc as Qc) (hx : ∀ (i : Nat) (q : Nat × (Nat → Int32)), ab_x0[i]? = some q → xo[i]? = some q) (hf : ab_fits is fo wc w) (hn : va_nd is = true) (has : as.map (ab_v (ab_rho is fo w.length)) = as') (hstk : as'.reverse ++ st = stk) (hna : as.length = na) (hLl : L.length = M.2.2.2.1) (hsum : (st.map fun v => v.category).sum ≤ 8) (hd : decode M.2.2.1 pc = .ok (.invokestatic idx, 3))
    (X : ab_X xo M (d + 1) p R s m args meth c D tc ad A) (hR : ab_R D tc ad A s H locs w) (hL : ab_L ad ls L) (hcc : cells + mc ≤ R.cells) (hss : slots + ms ≤ R.slots) :
    va_Run p l e R s m args below meth c H locs cells slots mc ms (F0 m pc ls (stk.map (ab_v ad))) (st.map (ab_v ad)) (ab_Q D tc (fun t => ad (ab_rho is fo w.length t)) wc H.size Qc (as'.map (ab_v ad)).toArray) (va_A (ab_w tc (fun t => ad (ab_rho is fo w.length t)) 100 wc) H.size) := by
  have hroom : (ab_rm d mc ms).frames + 1 ≤ R.frames ∧ 8 + (N.2.2.2.1 + 11) + (ab_rm d mc ms).locals ≤ R.locals := by
    have h1 := X.2.2.2.2.2.1
    have h2 := hl.1.2.2.1
    exact ⟨h1.1, by show 8 + (N.2.2.2.1 + 11) + 64 * d ≤ R.locals; omega⟩
  have has' : as'.map (ab_v ad) = as.map (ab_v (fun t => ad (ab_rho is fo w.length t))) := by rw [← has, ab_vv]
  exact va_runSN (As := as'.map (ab_v ad)) ⟨X.1.1, X.1.2.1, X.1.2.2.1, X.1.2.2.2, X.2.2.1⟩ (hC l D tc (fun t => ad (ab_rho is fo w.length t)) H.size) ⟨va_cnB na X.2.2.1 (ab_good (ab_wsU hl.1)) rfl rfl rfl (X.2.2.2.2.2.2.2.2.1 _ hl.2.1) (X.2.2.1 _ hl.1.2.1) ⟨hl.1.2.2.2.1, hl.1.2.2.2.2, hl.2.2.2⟩ hroom, X.2.2.1 _ hl.2.2.1, trivial⟩
    ⟨ab_blind, fun U hU hW => ⟨by rw [has'], ab_pre.of X hR hx hf hn U hU hW⟩⟩ rfl (by rw [List.length_map, ← has, List.length_map]; exact hna) (by show ls.size = _; rw [hL.1, hLl]) (by show stk.map (ab_v ad) = _; rw [← hstk, List.map_append, List.map_reverse]) (lv_room (by rw [ab_sum]; exact hsum)) hd ⟨hcc, hss⟩
theorem ab_runV {is fo : List Nat} {as as' : List Value} {j ci : Nat} {fs : List Value} {T : u_T} {nf : Nat} (hl : ab_V M N idx na) (hC : Con N d mc ms wc as Qc) (hx : ∀ (i : Nat) (q : Nat × (Nat → Int32)), ab_x0[i]? = some q → xo[i]? = some q) (hf : ab_fits is fo wc w) (hn : va_nd is = true) (has : as.map (ab_v (ab_rho is fo w.length)) = .ref (j + 100) :: as') (hrc : w[j]? = some (.inr (ci, fs))) (hcl : vwCl[ci]? = some (N.2.1.cls, T, nf)) (hstk : as'.reverse ++ .ref (j + 100) :: st = stk) (hna : as.length = na + 1) (hLl : L.length = M.2.2.2.1) (hsum : (st.map fun v => v.category).sum ≤ 8) (hd : decode M.2.2.1 pc = .ok (.invokevirtual idx, 3))
    (X : ab_X xo M (d + 1) p R s m args meth c D tc ad A) (hR : ab_R D tc ad A s H locs w) (hL : ab_L ad ls L) (hcc : cells + mc ≤ R.cells) (hss : slots + ms ≤ R.slots) :
    va_Run p l e R s m args below meth c H locs cells slots mc ms (F0 m pc ls (stk.map (ab_v ad))) (st.map (ab_v ad)) (ab_Q D tc (fun t => ad (ab_rho is fo w.length t)) wc H.size Qc (.ref (ad (j + 100)) :: as'.map (ab_v ad)).toArray) (va_A (ab_w tc (fun t => ad (ab_rho is fo w.length t)) 100 wc) H.size) := by
  have hroom : (ab_rm d mc ms).frames + 1 ≤ R.frames ∧ 8 + (N.2.2.2.1 + 11) + (ab_rm d mc ms).locals ≤ R.locals := by
    have h1 := X.2.2.2.2.2.1
    have h2 := hl.1.2.2.1
    exact ⟨h1.1, by show 8 + (N.2.2.2.1 + 11) + 64 * d ≤ R.locals; omega⟩
  have hG : GoodIn ab_U (wsV M.1 idx N.2.1.cls N.2.1 (ab_ws N)) := ab_good fun w hw => by
    rcases List.mem_append.mp hw with h | h
    · simp only [List.mem_cons, List.not_mem_nil, or_false] at h
      rcases h with h | h | h | h <;> rw [h]
      · exact hl.2.1.1
      · exact hl.2.1.2.1
      · exact hl.2.1.2.2
      · exact hl.1.2.1
    · exact ab_wsU hl.1 w h
  have has' : as.map (ab_v (fun t => ad (ab_rho is fo w.length t))) = .ref (ad (j + 100)) :: as'.map (ab_v ad) := by rw [ab_vv, has]; rfl
  have hlen : as'.length = na := by
    have := congrArg List.length has
    rw [List.length_map, List.length_cons] at this
    omega
  exact va_runV (As := as'.map (ab_v ad)) (b := ad (j + 100)) ⟨X.1.1, X.1.2.1, X.1.2.2.1, X.1.2.2.2, X.2.2.1⟩ (hC l D tc (fun t => ad (ab_rho is fo w.length t)) H.size) (cwV na X.2.2.1 hG rfl rfl rfl ⟨rfl, hl.1.2.2.2.1, hl.1.2.2.2.2, hl.2.2⟩ hroom)
    ⟨ab_blind, va_recv X.2.2.2.1 hR.1 (ci := ci) (q0 := j) (fs := fs.map (ab_v ad)) hcl (by rw [ab_w_at, hrc]; rfl), fun U hU hW => ⟨by rw [has'], ab_pre.of X hR hx hf hn U hU hW⟩⟩ rfl (by rw [List.length_map]; exact hlen) (by show ls.size = _; rw [hL.1, hLl]) (by show stk.map (ab_v ad) = _; rw [← hstk, List.map_append, List.map_reverse]; rfl) (lv_room (by rw [ab_sum]; exact hsum)) hd ⟨hcc, hss⟩
theorem ab_runI {is fo : List Nat} {as as' : List Value} {j : Nat} (hl : ab_I M N idx na) (hC : Con N d mc ms wc as Qc) (hx : ∀ (i : Nat) (q : Nat × (Nat → Int32)), ab_x0[i]? = some q → xo[i]? = some q) (hf : ab_fits is fo wc w) (hn : va_nd is = true) (has : as.map (ab_v (ab_rho is fo w.length)) = .ref (j + 100) :: as') (hstk : as'.reverse ++ .ref (j + 100) :: st = stk) (hna : as.length = na + 1) (hLl : L.length = M.2.2.2.1) (hsum : (st.map fun v => v.category).sum ≤ 8) (hd : decode M.2.2.1 pc = .ok (.invokespecial idx, 3))
    (X : ab_X xo M (d + 1) p R s m args meth c D tc ad A) (hR : ab_R D tc ad A s H locs w) (hL : ab_L ad ls L) (hcc : cells + mc ≤ R.cells) (hss : slots + ms ≤ R.slots) :
    va_Run p l e R s m args below meth c H locs cells slots mc ms (F0 m pc ls (stk.map (ab_v ad))) (st.map (ab_v ad)) (ab_Q D tc (fun t => ad (ab_rho is fo w.length t)) wc H.size Qc (.ref (ad (j + 100)) :: as'.map (ab_v ad)).toArray) (va_A (ab_w tc (fun t => ad (ab_rho is fo w.length t)) 100 wc) H.size) := by
  have hroom : (ab_rm d mc ms).frames + 1 ≤ R.frames ∧ 8 + (N.2.2.2.1 + 11) + (ab_rm d mc ms).locals ≤ R.locals := by
    have h1 := X.2.2.2.2.2.1
    have h2 := hl.1.2.2.1
    exact ⟨h1.1, by show 8 + (N.2.2.2.1 + 11) + 64 * d ≤ R.locals; omega⟩
  have has' : as.map (ab_v (fun t => ad (ab_rho is fo w.length t))) = .ref (ad (j + 100)) :: as'.map (ab_v ad) := by rw [ab_vv, has]; rfl
  have hlen : as'.length = na := by
    have := congrArg List.length has
    rw [List.length_map, List.length_cons] at this
    omega
  have hCl := hC l D tc (fun t => ad (ab_rho is fo w.length t)) H.size
  have hG := ab_good (ab_wsU hl.1)
  unfold ab_ws at hCl hG
  rw [hl.2.1.2.2.2] at hCl hG
  exact va_runI (As := as'.map (ab_v ad)) (b := ad (j + 100)) ⟨X.1.1, X.1.2.1, X.1.2.2.1, X.1.2.2.2, X.2.2.1⟩ hCl (cwI na X.2.2.1 hG rfl rfl rfl (X.2.2.1 _ hl.1.2.1) (X.2.2.1 _ hl.2.1.1) (X.2.2.1 _ hl.2.1.2.1) hl.2.1.2.2.1 ⟨hl.1.2.2.2.1, hl.1.2.2.2.2, hl.2.2⟩ hroom)
    ⟨ab_blind, fun U hU hW => ⟨by rw [has'], ab_pre.of X hR hx hf hn U hU hW⟩⟩ rfl (by rw [List.length_map]; exact hlen) (by show ls.size = _; rw [hL.1, hLl]) (by show stk.map (ab_v ad) = _; rw [← hstk, List.map_append, List.map_reverse]; rfl) (lv_room (by rw [ab_sum]; exact hsum)) hd ⟨hcc, hss⟩
theorem ab_runIN {is fo : List Nat} {as as' : List Value} {j : Nat} (hl : ab_IN M N idx na) (hC : Con N d mc ms wc as Qc) (hx : ∀ (i : Nat) (q : Nat × (Nat → Int32)), ab_x0[i]? = some q → xo[i]? = some q) (hf : ab_fits is fo wc w) (hn : va_nd is = true) (has : as.map (ab_v (ab_rho is fo w.length)) = .ref (j + 100) :: as') (hstk : as'.reverse ++ .ref (j + 100) :: st = stk) (hna : as.length = na + 1) (hLl : L.length = M.2.2.2.1) (hsum : (st.map fun v => v.category).sum ≤ 8) (hd : decode M.2.2.1 pc = .ok (.invokespecial idx, 3))
    (X : ab_X xo M (d + 1) p R s m args meth c D tc ad A) (hR : ab_R D tc ad A s H locs w) (hL : ab_L ad ls L) (hcc : cells + mc ≤ R.cells) (hss : slots + ms ≤ R.slots) :
    va_Run p l e R s m args below meth c H locs cells slots mc ms (F0 m pc ls (stk.map (ab_v ad))) (st.map (ab_v ad)) (ab_Q D tc (fun t => ad (ab_rho is fo w.length t)) wc H.size Qc (.ref (ad (j + 100)) :: as'.map (ab_v ad)).toArray) (va_A (ab_w tc (fun t => ad (ab_rho is fo w.length t)) 100 wc) H.size) := by
  have hroom : (ab_rm d mc ms).frames + 1 ≤ R.frames ∧ 8 + (N.2.2.2.1 + 11) + (ab_rm d mc ms).locals ≤ R.locals := by
    have h1 := X.2.2.2.2.2.1
    have h2 := hl.1.2.2.1
    exact ⟨h1.1, by show 8 + (N.2.2.2.1 + 11) + 64 * d ≤ R.locals; omega⟩
  have has' : as.map (ab_v (fun t => ad (ab_rho is fo w.length t))) = .ref (ad (j + 100)) :: as'.map (ab_v ad) := by rw [ab_vv, has]; rfl
  have hlen : as'.length = na := by
    have := congrArg List.length has
    rw [List.length_map, List.length_cons] at this
    omega
  have hCl := hC l D tc (fun t => ad (ab_rho is fo w.length t)) H.size
  have hG := ab_good (ab_wsU hl.1)
  unfold ab_ws at hCl hG
  rw [hl.2.1.2.2.2] at hCl hG
  exact va_runIN (As := as'.map (ab_v ad)) (b := ad (j + 100)) ⟨X.1.1, X.1.2.1, X.1.2.2.1, X.1.2.2.2, X.2.2.1⟩ hCl ⟨va_cnB na X.2.2.1 hG rfl rfl rfl (X.2.2.2.2.2.2.2.2.1 _ hl.2.1.1) (X.2.2.1 _ hl.1.2.1) ⟨hl.1.2.2.2.1, hl.1.2.2.2.2, hl.2.2⟩ hroom, hl.2.1.2.2.1, X.2.2.1 _ hl.2.1.2.1⟩
    ⟨ab_blind, fun U hU hW => ⟨by rw [has'], ab_pre.of X hR hx hf hn U hU hW⟩⟩ rfl (by rw [List.length_map]; exact hlen) (by show ls.size = _; rw [hL.1, hLl]) (by show stk.map (ab_v ad) = _; rw [← hstk, List.map_append, List.map_reverse]; rfl) (lv_room (by rw [ab_sum]; exact hsum)) hd ⟨hcc, hss⟩
theorem ab_pfx : ∀ (i : Nat) (q : Nat × (Nat → Int32)), ab_x0[i]? = some q → ab_x0[i]? = some q := fun _ _ h => h
end ABR
end
section
/-! G's rules for calls; calls that make cells; the library's methods. -/
section ABG
variable {xo : ab_XO} {M N : ab_M} {d k n mc ms : Nat} {Q Qc : List ab_C → Option Value → Prop} {pc : Nat} {L : List (Option Value)} {st stk : List Value} {w wc : List ab_C} {idx na : Nat} {is fo : List Nat} {as as' : List Value}
theorem G_S (hl : ab_S M N idx na) (hC : Con N d mc ms wc as Qc) (hx : ∀ (i : Nat) (q : Nat × (Nat → Int32)), ab_x0[i]? = some q → xo[i]? = some q) (hf : ab_fits is fo wc w) (hn : va_nd is = true) (has : as.map (ab_v (ab_rho is fo w.length)) = as') (hstk : as'.reverse ++ st = stk) (hna : as.length = na) (hLl : L.length = M.2.2.2.1) (hsum : (st.map fun v => v.category).sum ≤ 8) (hd : decode M.2.2.1 pc = .ok (.invokestatic idx, 3)) (hlen : ∀ w' v, Qc w' v → w'.length = wc.length)
    (kk : ∀ w' v, Qc w' v → G xo M (d + 1) k n Q (pc + 3) L ((v.map (ab_v (ab_rho is fo w.length))).toList ++ st) (ab_put w is (w'.map (ab_rc (ab_rho is fo w.length))))) : G xo M (d + 1) (k + mc) (n + ms) Q pc L stk w := by
  intro p l e R s m args below meth c Z D tc ad A H locs cells slots ls X hR hL hcc hss fin
  exact ab_run X hR hL hf hn hlen (ab_runS hl hC hx hf hn has hstk hna hLl hsum hd X hR hL (by omega) (by omega)) hcc hss fin kk
theorem G_SN (hl : ab_SN M N idx na) (hC : Con N d mc ms wc as Qc) (hx : ∀ (i : Nat) (q : Nat × (Nat → Int32)), ab_x0[i]? = some q → xo[i]? = some q) (hf : ab_fits is fo wc w) (hn : va_nd is = true) (has : as.map (ab_v (ab_rho is fo w.length)) = as') (hstk : as'.reverse ++ st = stk) (hna : as.length = na) (hLl : L.length = M.2.2.2.1) (hsum : (st.map fun v => v.category).sum ≤ 8) (hd : decode M.2.2.1 pc = .ok (.invokestatic idx, 3)) (hlen : ∀ w' v, Qc w' v → w'.length = wc.length)
    (kk : ∀ w' v, Qc w' v → G xo M (d + 1) k n Q (pc + 3) L ((v.map (ab_v (ab_rho is fo w.length))).toList ++ st) (ab_put w is (w'.map (ab_rc (ab_rho is fo w.length))))) : G xo M (d + 1) (k + mc) (n + ms) Q pc L stk w := by
  intro p l e R s m args below meth c Z D tc ad A H locs cells slots ls X hR hL hcc hss fin
  exact ab_run X hR hL hf hn hlen (ab_runSN hl hC hx hf hn has hstk hna hLl hsum hd X hR hL (by omega) (by omega)) hcc hss fin kk
theorem G_V {j ci : Nat} {fs : List Value} {T : u_T} {nf : Nat} (hl : ab_V M N idx na) (hC : Con N d mc ms wc as Qc) (hx : ∀ (i : Nat) (q : Nat × (Nat → Int32)), ab_x0[i]? = some q → xo[i]? = some q) (hf : ab_fits is fo wc w) (hn : va_nd is = true) (has : as.map (ab_v (ab_rho is fo w.length)) = .ref (j + 100) :: as') (hrc : w[j]? = some (.inr (ci, fs))) (hcl : vwCl[ci]? = some (N.2.1.cls, T, nf)) (hstk : as'.reverse ++ .ref (j + 100) :: st = stk) (hna : as.length = na + 1) (hLl : L.length = M.2.2.2.1) (hsum : (st.map fun v => v.category).sum ≤ 8) (hd : decode M.2.2.1 pc = .ok (.invokevirtual idx, 3)) (hlen : ∀ w' v, Qc w' v → w'.length = wc.length)
    (kk : ∀ w' v, Qc w' v → G xo M (d + 1) k n Q (pc + 3) L ((v.map (ab_v (ab_rho is fo w.length))).toList ++ st) (ab_put w is (w'.map (ab_rc (ab_rho is fo w.length))))) : G xo M (d + 1) (k + mc) (n + ms) Q pc L stk w := by
  intro p l e R s m args below meth c Z D tc ad A H locs cells slots ls X hR hL hcc hss fin
  exact ab_run X hR hL hf hn hlen (ab_runV hl hC hx hf hn has hrc hcl hstk hna hLl hsum hd X hR hL (by omega) (by omega)) hcc hss fin kk
/-- the addresses behind a call that makes cells -/
def ab_ad2 (ad adc : Nat → Nat) (lw li t : Nat) : Nat := if t < lw + 100 then ad t else adc (t - lw + li)
theorem ab_ad2_eq {ad adc : Nat → Nat} (hf : ab_fits is fo wc w) (hfo : ∀ t ∈ fo, t < w.length + 100) (hx : ∀ t, t < wc.length + 100 → adc t = ad (ab_rho is fo w.length t)) : adc = fun t => ab_ad2 ad adc w.length is.length (ab_rho is fo w.length t) := by
  funext t
  have hlen := hf.len
  unfold ab_ad2
  by_cases h1 : t < 4
  · rw [hx t (by omega), ab_rho_lo h1, if_pos (by omega)]
  · by_cases h2 : t < 100
    · have h3 : ab_rho is fo w.length t < w.length + 100 := by
        have e : ab_rho is fo w.length t = fo.getD (t - 4) 0 := by simp [ab_rho, h1, h2]
        rw [e, List.getD_eq_getElem?_getD]
        cases hg : fo[t - 4]? with
        | none => show 0 < w.length + 100; omega
        | some q => exact hfo q (List.mem_of_getElem? hg)
      rw [if_pos h3, hx t (by omega)]
    · obtain ⟨j, rfl⟩ : ∃ j, t = j + 100 := ⟨t - 100, by omega⟩
      cases hj : is[j]? with
      | some i =>
        have hjl : j < wc.length := by rw [hlen]; exact (List.getElem?_eq_some_iff.mp hj).1
        obtain ⟨i2, h4, h5⟩ := hf.at (List.getElem?_eq_getElem hjl)
        have : i2 = i := Option.some.inj (h4.symm.trans hj)
        subst this
        have := (List.getElem?_eq_some_iff.mp h5).1
        rw [hx _ (by omega), ab_rho_at hj, if_pos (by omega)]
      | none =>
        have hge : is.length ≤ j := List.getElem?_eq_none_iff.mp hj
        have e : ab_rho is fo w.length (j + 100) = j + 100 - is.length + w.length := by
          have h3 : j + 100 - 100 = j := by omega
          simp [ab_rho, h1, h2, h3, hj]
        rw [e, if_neg (by omega)]
        congr 1
        omega
variable {p : Program} {l : Launch} {e : Env} {R : Room} {s : State} {m : MethodId} {args : Array Value} {below : List Frame} {meth : Method} {c : Code} {Z : State → Prop} {D : va_G} {tc : Nat → ClassId} {ad : Nat → Nat} {A : Nat → Prop} {H : Heap} {locs : List Loc} {cells slots : Nat} {ls : Array Slot}
/-- the world behind a call that makes cells -/
theorem ab_R.backA {w' : List ab_C} {adc : Nat → Nat} {H1 : Heap} {locs1 : List Loc} (hR : ab_R D tc ad A s H locs w) (hf : ab_fits is fo wc w) (hn : va_nd is = true) (hfo : ∀ t ∈ fo, t < w.length + 100) (hsc : ∀ ce ∈ w, ab_scC (w.length + 100) ce) (hl : wc.length ≤ w'.length) (hx : ∀ t, t < wc.length + 100 → adc t = ad (ab_rho is fo w.length t)) (hS : va_S A s.heap H1 locs1)
    (hA : ∀ q, va_A (ab_w tc (fun t => ad (ab_rho is fo w.length t)) 100 wc) H.size q → A q)
    (hk : ∀ q : Nat, q < H.size → ¬ va_A (ab_w tc (fun t => ad (ab_rho is fo w.length t)) 100 wc) H.size q → H1[q]? = H[q]?) (hP1 : va_P D vwCl (ab_w tc adc 100 w') H1) (hD1 : va_D (va_A (ab_w tc (fun t => ad (ab_rho is fo w.length t)) 100 wc) H.size) (ab_w tc adc 100 w')) :
    ab_R D tc (ab_ad2 ad adc w.length is.length) A s H1 locs1 (ab_put w is ((w'.take is.length).map (ab_rc (ab_rho is fo w.length))) ++ (w'.drop is.length).map (ab_rc (ab_rho is fo w.length))) := by
  have hlen := hf.len
  have hre : ∀ t, t < w.length + 100 → ab_ad2 ad adc w.length is.length t = ad t := fun t ht => by unfold ab_ad2; rw [if_pos ht]
  have hnew : ∀ y, ab_ad2 ad adc w.length is.length (w.length + y + 100) = adc (is.length + y + 100) := fun y => by
    unfold ab_ad2
    rw [if_neg (by omega)]
    congr 1
    omega
  have hee := ab_ad2_eq hf hfo hx
  have hce : ∀ ce, ab_e tc (ab_ad2 ad adc w.length is.length) (ab_rc (ab_rho is fo w.length) ce) = ab_e tc adc ce := fun ce => by
    rw [ab_e_rc]
    exact congrArg (fun f => ab_e tc f ce) hee.symm
  have hD1' := ab_D_iff.mp hD1
  have hDw := ab_D_iff.mp hR.2.1
  have hfresh : ∀ y, is.length + y < w'.length → H.size ≤ adc (is.length + y + 100) := fun y hy => by
    rcases hD1'.2 _ hy with ⟨j, ce, hj⟩ | h
    · exfalso
      rw [ab_w_at] at hj
      cases hc : wc[j]? with
      | none => rw [hc] at hj; cases hj
      | some cj =>
        rw [hc] at hj
        have hjl := (List.getElem?_eq_some_iff.mp hc).1
        have hj := congrArg Prod.fst (Option.some.inj hj)
        have hj : ad (ab_rho is fo w.length (j + 100)) = adc (is.length + y + 100) := hj
        rw [← hx _ (by omega)] at hj
        have := hD1'.1 j (is.length + y) (by omega) hy hj
        omega
    · exact h
  refine ⟨fun x q hq => ?_, ab_D_iff.mpr ?_, hS⟩
  · rw [ab_w_at] at hq
    by_cases hxl : x < w.length
    · rw [List.getElem?_append_left (by rw [ab_put_len]; exact hxl)] at hq
      by_cases hin : x ∈ is
      · obtain ⟨j, hj⟩ := List.getElem?_of_mem hin
        have hji : j < is.length := (List.getElem?_eq_some_iff.mp hj).1
        have hjl : j < w'.length := by omega
        have hw' : w'[j]? = some w'[j] := List.getElem?_eq_getElem hjl
        rw [ab_put_in is w _ hn j x (ab_rc (ab_rho is fo w.length) w'[j]) hj (by rw [List.getElem?_map, List.getElem?_take, if_pos hji, hw']; rfl) hxl] at hq
        cases hq
        have h3 : va_at D vwCl (adc (j + 100), ab_e tc adc w'[j]) H1 := hP1 j _ (by rw [ab_w_at, hw']; rfl)
        show va_at D vwCl (ab_ad2 ad adc w.length is.length (x + 100), ab_e tc _ (ab_rc _ w'[j])) H1
        rw [hce, hre _ (by omega), ← ab_rho_at (fo := fo) (n := w.length) hj, ← hx _ (by omega)]
        exact h3
      · rw [ab_put_out is w _ x hin] at hq
        cases hw : w[x]? with
        | none => rw [hw] at hq; cases hq
        | some cx =>
          rw [hw] at hq
          cases hq
          have h3 : va_at D vwCl (ad (x + 100), ab_e tc ad cx) H := hR.1 x _ (by rw [ab_w_at, hw]; rfl)
          show va_at D vwCl (ab_ad2 ad adc w.length is.length (x + 100), ab_e tc _ cx) H1
          rw [hre _ (by omega), ab_e_re hre (hsc cx (List.mem_of_getElem? hw))]
          refine h3.kept (hk _ h3.lt (fun hA => ?_))
          rcases hA with ⟨j, ce, hj⟩ | hA
          · rw [ab_w_at] at hj
            cases hc : wc[j]? with
            | none => rw [hc] at hj; cases hj
            | some cj =>
              rw [hc] at hj
              obtain ⟨i, h4, h5⟩ := hf.at hc
              have hj := congrArg Prod.fst (Option.some.inj hj)
              have hj : ad (ab_rho is fo w.length (j + 100)) = ad (x + 100) := hj
              rw [ab_rho_at h4] at hj
              have := hDw.1 i x (List.getElem?_eq_some_iff.mp h5).1 hxl hj
              subst this
              exact hin (List.mem_of_getElem? h4)
          · have := h3.lt
            have : (ad (x + 100), ab_e tc ad cx).fst = ad (x + 100) := rfl
            omega
    · obtain ⟨y, rfl⟩ : ∃ y, x = w.length + y := ⟨x - w.length, by omega⟩
      rw [List.getElem?_append_right (by rw [ab_put_len]; omega), ab_put_len, show w.length + y - w.length = y by omega, List.getElem?_map, List.getElem?_drop] at hq
      cases hw : w'[is.length + y]? with
      | none => rw [hw] at hq; cases hq
      | some cy =>
        rw [hw] at hq
        cases hq
        have h3 : va_at D vwCl (adc (is.length + y + 100), ab_e tc adc cy) H1 := hP1 _ _ (by rw [ab_w_at, hw]; rfl)
        show va_at D vwCl (ab_ad2 ad adc w.length is.length (w.length + y + 100), ab_e tc _ (ab_rc _ cy)) H1
        rw [hce, hnew]
        exact h3
  · have hL2 : (ab_put w is ((w'.take is.length).map (ab_rc (ab_rho is fo w.length))) ++ (w'.drop is.length).map (ab_rc (ab_rho is fo w.length))).length = w.length + (w'.length - is.length) := by
      rw [List.length_append, ab_put_len, List.length_map, List.length_drop]
    rw [hL2]
    have old : ∀ i, i < w.length → ad (i + 100) < H.size := fun i hi => by
      have h3 := hR.1 i _ (by rw [ab_w_at, List.getElem?_eq_getElem hi]; rfl)
      exact h3.lt
    have cas : ∀ i, i < w.length + (w'.length - is.length) → (i < w.length ∧ ab_ad2 ad adc w.length is.length (i + 100) = ad (i + 100)) ∨ ∃ y, i = w.length + y ∧ is.length + y < w'.length ∧ ab_ad2 ad adc w.length is.length (i + 100) = adc (is.length + y + 100) := fun i hi => by
      by_cases h : i < w.length
      · exact Or.inl ⟨h, hre _ (by omega)⟩
      · exact Or.inr ⟨i - w.length, by omega, by omega, by rw [← hnew]; congr 1; omega⟩
    refine ⟨fun i j hi hj hij => ?_, fun i hi => ?_⟩
    · rcases cas i hi with ⟨a1, a2⟩ | ⟨y, a1, a2, a3⟩ <;> rcases cas j hj with ⟨b1, b2⟩ | ⟨z, b1, b2, b3⟩
      · exact hDw.1 i j a1 b1 (by rw [← a2, ← b2, hij])
      · have h1 := old i a1
        have h2 := hfresh z b2
        rw [← a2, hij, b3] at h1
        omega
      · have h1 := old j b1
        have h2 := hfresh y a2
        rw [← b2, ← hij, a3] at h1
        omega
      · have := hD1'.1 (is.length + y) (is.length + z) a2 b2 (by rw [← a3, ← b3, hij])
        omega
    · rcases cas i hi with ⟨a1, a2⟩ | ⟨y, a1, a2, a3⟩
      · rw [a2]
        exact hDw.2 i a1
      · rw [a3]
        exact hA _ (Or.inr (hfresh y a2))
theorem ab_runA {a : Array Value} (X : ab_X xo M d p R s m args meth c D tc ad A) (hR : ab_R D tc ad A s H locs w) (hL : ab_L ad ls L) (hf : ab_fits is fo wc w) (hn : va_nd is = true) (hfo : ∀ t ∈ fo, t < w.length + 100) (hsc : ab_scS (w.length + 100) L st w)
    (hr : va_Run p l e R s m args below meth c H locs cells slots mc ms (F0 m pc ls stk) (st.map (ab_v ad)) (ab_Q D tc (fun t => ad (ab_rho is fo w.length t)) wc H.size Qc a) (va_A (ab_w tc (fun t => ad (ab_rho is fo w.length t)) 100 wc) H.size))
    (hcc : cells + (k + mc) ≤ R.cells) (hss : slots + (n + ms) ≤ R.slots)
    (fin : ∀ (pc' : Nat) (ad' : Nat → Nat) (H' : Heap) (locs' : List Loc) (cells' slots' : Nat) (ls' : Array Slot) (w' : List ab_C) (v : Option Value),
      ab_ret M pc' v → ab_ext w ad w' ad' → ab_R D tc ad' A s H' locs' w' → cells' ≤ cells + (k + mc) → slots' ≤ slots + (n + ms) → Q w' v →
      W p l e R s m args below meth c H' locs' cells' slots' Z (F0 m pc' ls' (v.toList.map (ab_v ad'))))
    (hgr : ∀ w' v, Qc w' v → wc.length < w'.length)
    (kk : ∀ w' v, Qc w' v → G xo M d k n Q (pc + 3) L ((v.map (ab_v (ab_rho is fo w.length))).toList ++ st) (ab_put w is ((w'.take is.length).map (ab_rc (ab_rho is fo w.length))) ++ (w'.drop is.length).map (ab_rc (ab_rho is fo w.length)))) :
    W p l e R s m args below meth c H locs cells slots Z (F0 m pc ls stk) := by
  intro T hT Y
  obtain ⟨v0, st₀, t, T', LL, h0, Y', hLL, e1, e2, ⟨⟨w', adc, v, hv, hq, hx, hP1, hD1⟩, hz, hk⟩, go⟩ := hr T hT Y
  have hv := Outcome.returned.inj hv
  subst hv
  rw [h0] at hz hk
  have hgr := hgr w' v hq
  have hlen := hf.len
  have hA := va_free hR.2.1 hR.2.2 X.2.2.2.2.1 is (hf.ws tc ad)
  have hS : va_S A s.heap T'.heap (locs ++ LL) := ⟨Nat.le_trans hR.2.2.1 (by rw [e1]; exact hz), fun q h1 h2 => by rw [e1, hk q (Nat.lt_of_lt_of_le h1 hR.2.2.1) (fun z => h2 (hA q z))]; exact hR.2.2.2.1 q h1 h2, fun q hq => by
    rcases List.mem_append.mp hq with h | h
    · exact hR.2.2.2.2 q h
    · exact hA _ (hLL q h)⟩
  have hR1 := hR.backA hf hn hfo hsc.2.2 hx.2.1 hx.1 hS hA (fun q h1 h2 => by rw [e1]; exact hk q h1 h2) (by rw [e1]; exact hP1) hD1
  have hre : ∀ t, t < w.length + 100 → ab_ad2 ad adc w.length is.length t = ad t := fun t ht => by unfold ab_ad2; rw [if_pos ht]
  have hLn : (ab_put w is ((w'.take is.length).map (ab_rc (ab_rho is fo w.length))) ++ (w'.drop is.length).map (ab_rc (ab_rho is fo w.length))).length = w.length + (w'.length - is.length) := by
    rw [List.length_append, ab_put_len, List.length_map, List.length_drop]
  have g := kk w' v hq p l e R s m args below meth c Z D tc (ab_ad2 ad adc w.length is.length) A T'.heap (locs ++ LL) (cells + mc) (slots + ms) ls (X.re (fun t ht => hre t (by omega))) hR1 (hL.re hre hsc.1) (by omega) (by omega)
    (fun pc' ad' H' locs' cells' slots' ls' w2 v2 a1 a2 a4 a5 a6 a7 => fin pc' ad' H' locs' cells' slots' ls' w2 v2 a1 (by
      have a3 := a2.2.1
      rw [hLn] at a3
      exact ⟨fun t ht => (a2.1 t (by rw [hLn]; omega)).trans (hre t ht), by omega, fun h => by omega⟩) a4 (by omega) (by omega) a7)
  obtain ⟨t2, a1, b1⟩ := g T' rfl Y'
  refine ⟨t2, go t2 ?_, b1⟩
  rw [List.map_append, ab_st_re hre hsc.2.1, ← ab_vl, ← ab_ad2_eq hf hfo hx.1] at a1
  exact a1
end ABG
section ABH
variable {xo : ab_XO} {M N : ab_M} {d k n mc ms : Nat} {Q Qc : List ab_C → Option Value → Prop} {pc : Nat} {L : List (Option Value)} {st stk : List Value} {w wc w1 : List ab_C} {idx na : Nat} {is fo : List Nat} {as as' : List Value}
theorem G_I {j : Nat} (hl : ab_I M N idx na) (hC : Con N d mc ms wc as Qc) (hx : ∀ (i : Nat) (q : Nat × (Nat → Int32)), ab_x0[i]? = some q → xo[i]? = some q) (hf : ab_fits is fo wc w) (hn : va_nd is = true) (has : as.map (ab_v (ab_rho is fo w.length)) = .ref (j + 100) :: as') (hstk : as'.reverse ++ .ref (j + 100) :: st = stk) (hna : as.length = na + 1) (hLl : L.length = M.2.2.2.1) (hsum : (st.map fun v => v.category).sum ≤ 8) (hd : decode M.2.2.1 pc = .ok (.invokespecial idx, 3)) (hfo : ∀ t ∈ fo, t < w.length + 100) (hsc : ab_scS (w.length + 100) L st w) (hgr : ∀ w' v, Qc w' v → wc.length < w'.length)
    (kk : ∀ w' v, Qc w' v → G xo M (d + 1) k n Q (pc + 3) L ((v.map (ab_v (ab_rho is fo w.length))).toList ++ st) (ab_put w is ((w'.take is.length).map (ab_rc (ab_rho is fo w.length))) ++ (w'.drop is.length).map (ab_rc (ab_rho is fo w.length)))) : G xo M (d + 1) (k + mc) (n + ms) Q pc L stk w := by
  intro p l e R s m args below meth c Z D tc ad A H locs cells slots ls X hR hL hcc hss fin
  exact ab_runA X hR hL hf hn hfo hsc (ab_runI hl hC hx hf hn has hstk hna hLl hsum hd X hR hL (by omega) (by omega)) hcc hss fin hgr kk
theorem G_IN {j : Nat} (hl : ab_IN M N idx na) (hC : Con N d mc ms wc as Qc) (hx : ∀ (i : Nat) (q : Nat × (Nat → Int32)), ab_x0[i]? = some q → xo[i]? = some q) (hf : ab_fits is fo wc w) (hn : va_nd is = true) (has : as.map (ab_v (ab_rho is fo w.length)) = .ref (j + 100) :: as') (hstk : as'.reverse ++ .ref (j + 100) :: st = stk) (hna : as.length = na + 1) (hLl : L.length = M.2.2.2.1) (hsum : (st.map fun v => v.category).sum ≤ 8) (hd : decode M.2.2.1 pc = .ok (.invokespecial idx, 3)) (hfo : ∀ t ∈ fo, t < w.length + 100) (hsc : ab_scS (w.length + 100) L st w) (hgr : ∀ w' v, Qc w' v → wc.length < w'.length)
    (kk : ∀ w' v, Qc w' v → G xo M (d + 1) k n Q (pc + 3) L ((v.map (ab_v (ab_rho is fo w.length))).toList ++ st) (ab_put w is ((w'.take is.length).map (ab_rc (ab_rho is fo w.length))) ++ (w'.drop is.length).map (ab_rc (ab_rho is fo w.length)))) : G xo M (d + 1) (k + mc) (n + ms) Q pc L stk w := by
  intro p l e R s m args below meth c Z D tc ad A H locs cells slots ls X hR hL hcc hss fin
  exact ab_runA X hR hL hf hn hfo hsc (ab_runIN hl hC hx hf hn has hstk hna hLl hsum hd X hR hL (by omega) (by omega)) hcc hss fin hgr kk
theorem G_VA {j ci : Nat} {fs : List Value} {T : u_T} {nf : Nat} (hl : ab_V M N idx na) (hC : Con N d mc ms wc as Qc) (hx : ∀ (i : Nat) (q : Nat × (Nat → Int32)), ab_x0[i]? = some q → xo[i]? = some q) (hf : ab_fits is fo wc w) (hn : va_nd is = true) (has : as.map (ab_v (ab_rho is fo w.length)) = .ref (j + 100) :: as') (hrc : w[j]? = some (.inr (ci, fs))) (hcl : vwCl[ci]? = some (N.2.1.cls, T, nf)) (hstk : as'.reverse ++ .ref (j + 100) :: st = stk) (hna : as.length = na + 1) (hLl : L.length = M.2.2.2.1) (hsum : (st.map fun v => v.category).sum ≤ 8) (hd : decode M.2.2.1 pc = .ok (.invokevirtual idx, 3)) (hfo : ∀ t ∈ fo, t < w.length + 100) (hsc : ab_scS (w.length + 100) L st w) (hgr : ∀ w' v, Qc w' v → wc.length < w'.length)
    (kk : ∀ w' v, Qc w' v → G xo M (d + 1) k n Q (pc + 3) L ((v.map (ab_v (ab_rho is fo w.length))).toList ++ st) (ab_put w is ((w'.take is.length).map (ab_rc (ab_rho is fo w.length))) ++ (w'.drop is.length).map (ab_rc (ab_rho is fo w.length)))) : G xo M (d + 1) (k + mc) (n + ms) Q pc L stk w := by
  intro p l e R s m args below meth c Z D tc ad A H locs cells slots ls X hR hL hcc hss fin
  exact ab_runA X hR hL hf hn hfo hsc (ab_runV hl hC hx hf hn has hrc hcl hstk hna hLl hsum hd X hR hL (by omega) (by omega)) hcc hss fin hgr kk
/-- Object.<init> -/
theorem G_obj {t : Nat} (hd : decode M.2.2.1 pc = .ok (.invokespecial idx, 3)) (hl : Cond.methodLink M.1 idx Lib.objectInit ∈ ab_U ∧ Cond.instanceMethod Lib.objectInit ∈ ab_U ∧ Cond.code Lib.objectInit ⟨#[0xb1]⟩ 1 none ∈ ab_U) (hLl : L.length = M.2.2.2.1) (hsum : (st.map fun v => v.category).sum ≤ 8) (kk : G xo M (d + 1) k n Q (pc + 3) L st w) : G xo M (d + 1) k n Q pc L (.ref t :: st) w := by
  intro p l e R s m args below meth c Z D tc ad A H locs cells slots ls X hR hL hcc hss fin
  have h1 := X.2.2.2.2.2.1
  exact W.objInit X.1.1 X.1.2.1 X.1.2.2.2 (X.2.2.1 _ hl.1) (X.2.2.1 _ hl.2.1) (X.2.2.1 _ hl.2.2) rfl (by show ls.size = _; rw [hL.1, hLl, X.1.2.2.1]) (rest := st.map (ab_v ad)) rfl hd (by omega) (by
    have h2 : 2 * (F0 m pc ls (.ref (ad t) :: st.map (ab_v ad))).monitorRoom = 0 := rfl
    show 2 * (F0 m pc ls (.ref (ad t) :: st.map (ab_v ad))).monitorRoom + _ + 12 ≤ R.locals
    rw [ab_sum, h2]
    omega) (kk p l e R s m args below meth c Z D tc ad A H locs cells slots ls X hR hL hcc hss fin)
theorem G_max {x y : Int32} (hd : decode M.2.2.1 pc = .ok (.invokestatic idx, 3)) (hl : Cond.methodLink M.1 idx Lib.Math.max.name ∈ ab_U ∧ Cond.static Lib.Math.max.name ∈ ab_U ∧ Cond.initialized "java/lang/Math" ∈ ab_U ∧ Cond.code Lib.Math.max.name Lib.Math.max.code 2 (some .int) ∈ ab_U) (hLl : L.length = M.2.2.2.1) (hsum : (st.map fun v => v.category).sum ≤ 8) (kk : G xo M (d + 1) k n Q (pc + 3) L (.int (if x < y then y else x) :: st) w) : G xo M (d + 1) k n Q pc L (.int y :: .int x :: st) w := by
  intro p l e R s m args below meth c Z D tc ad A H locs cells slots ls X hR hL hcc hss fin
  have h1 := X.2.2.2.2.2.1
  exact va_mmax X.1.1 X.1.2.1 (by rw [hL.1, hLl]; exact X.1.2.2.1) X.1.2.2.2 (X.2.2.1 _ hl.1) (X.2.2.1 _ hl.2.1) (X.2.2.1 _ hl.2.2.1) (X.2.2.1 _ hl.2.2.2) (by omega) (by rw [ab_sum]; omega) (by omega) (by omega) hd (kk p l e R s m args below meth c Z D tc ad A H locs cells slots ls X hR hL hcc hss fin)
theorem G_min {x y : Int32} (hd : decode M.2.2.1 pc = .ok (.invokestatic idx, 3)) (hl : Cond.methodLink M.1 idx Lib.Math.min.name ∈ ab_U ∧ Cond.static Lib.Math.min.name ∈ ab_U ∧ Cond.initialized "java/lang/Math" ∈ ab_U ∧ Cond.code Lib.Math.min.name Lib.Math.min.code 2 (some .int) ∈ ab_U) (hLl : L.length = M.2.2.2.1) (hsum : (st.map fun v => v.category).sum ≤ 8) (kk : G xo M (d + 1) k n Q (pc + 3) L (.int (if y < x then y else x) :: st) w) : G xo M (d + 1) k n Q pc L (.int y :: .int x :: st) w := by
  intro p l e R s m args below meth c Z D tc ad A H locs cells slots ls X hR hL hcc hss fin
  have h1 := X.2.2.2.2.2.1
  exact va_mmin X.1.1 X.1.2.1 (by rw [hL.1, hLl]; exact X.1.2.2.1) X.1.2.2.2 (X.2.2.1 _ hl.1) (X.2.2.1 _ hl.2.1) (X.2.2.1 _ hl.2.2.1) (X.2.2.1 _ hl.2.2.2) (by omega) (by rw [ab_sum]; omega) (by omega) (by omega) hd (kk p l e R s m args below meth c Z D tc ad A H locs cells slots ls X hR hL hcc hss fin)
/-- System.arraycopy between two arrays of ints of the world -/
theorem G_copy {j0 j1 n0 n1 : Nat} {f g : Nat → Int32} {sp dp z : Int32} (hd : decode M.2.2.1 pc = .ok (.invokestatic idx, 3)) (hl : Cond.methodLink M.1 idx arraycopyName ∈ ab_U ∧ Cond.native arraycopyName ∈ ab_U ∧ Cond.static arraycopyName ∈ ab_U ∧ Cond.initialized "java/lang/System" ∈ ab_U) (hLl : L.length = M.2.2.2.1) (hsum : (st.map fun v => v.category).sum ≤ 8) (h0 : w[j0]? = some (.inl (0, n0, .inl f))) (h1 : w[j1]? = some (.inl (0, n1, .inl g))) (hs : ¬ sp < 0) (hp : ¬ dp < 0) (hz : ¬ z < 0) (hb0 : sp.toNatClampNeg + z.toNatClampNeg ≤ n0) (hb1 : dp.toNatClampNeg + z.toNatClampNeg ≤ n1) (hw1 : w.set j1 (.inl (0, n1, .inl (va_cpy f g sp.toNatClampNeg dp.toNatClampNeg z.toNatClampNeg))) = w1) (kk : G xo M (d + 1) k n Q (pc + 3) L st w1) : G xo M (d + 1) k n Q pc L (.int z :: .int dp :: .ref (j1 + 100) :: .int sp :: .ref (j0 + 100) :: st) w := by
  intro p l e R s m args below meth c Z D tc ad A H locs cells slots ls X hR hL hcc hss fin
  subst hw1
  have hr := X.2.2.2.2.2.1
  refine va_copyi X.1.1 X.1.2.1 (by rw [hL.1, hLl]; exact X.1.2.2.1) X.1.2.2.2 (X.2.2.1 _ hl.1) (X.2.2.1 _ hl.2.1) (X.2.2.1 _ hl.2.2.1) (X.2.2.1 _ hl.2.2.2) X.2.2.2.1 hR.1 hR.2.1 hR.2.2 j0 j1 0 0 (c0 := tc 0) (c1 := tc 0) (f := f) (g := g) (ty := .int) (by rw [ab_w_at, h0]; rfl) (by rw [ab_w_at, h1]; rfl) rfl rfl rfl hs hp hz hb0 hb1 (fun _ _ => rfl) (by omega) (by
    have : nativeFrameWords "java/lang/System" "arraycopy" 5 ≤ 40 := by decide +kernel
    rw [ab_sum]
    omega) hd (fun H1 locs1 a1 a2 a3 => ?_)
  exact kk p l e R s m args below meth c Z D tc ad A H1 locs1 cells slots ls X (ab_R.put (c := .inl (0, n1, .inl (va_cpy f g sp.toNatClampNeg dp.toNatClampNeg z.toNatClampNeg))) a1 a2 a3) hL hcc hss (by simp only [ab_ext, List.length_set] at fin ⊢; exact fin)
end ABH
end
section
/-! System.arraycopy out of a static array; tableswitch. -/
section ABX
variable {xo : ab_XO} {M : ab_M} {d k n : Nat} {Q : List ab_C → Option Value → Prop} {pc : Nat} {L : List (Option Value)} {st : List Value} {w w1 : List ab_C} {idx : Nat}
theorem G_copyX {i j1 n0 n1 : Nat} {f g : Nat → Int32} {sp dp z : Int32} (hd : decode M.2.2.1 pc = .ok (.invokestatic idx, 3)) (hl : Cond.methodLink M.1 idx arraycopyName ∈ ab_U ∧ Cond.native arraycopyName ∈ ab_U ∧ Cond.static arraycopyName ∈ ab_U ∧ Cond.initialized "java/lang/System" ∈ ab_U) (hLl : L.length = M.2.2.2.1) (hsum : (st.map fun v => v.category).sum ≤ 8) (h0 : xo[i]? = some (n0, f)) (h1 : w[j1]? = some (.inl (0, n1, .inl g))) (hs : ¬ sp < 0) (hp : ¬ dp < 0) (hz : ¬ z < 0) (hb0 : sp.toNatClampNeg + z.toNatClampNeg ≤ n0) (hb1 : dp.toNatClampNeg + z.toNatClampNeg ≤ n1) (hw1 : w.set j1 (.inl (0, n1, .inl (va_cpy f g sp.toNatClampNeg dp.toNatClampNeg z.toNatClampNeg))) = w1) (kk : G xo M (d + 1) k n Q (pc + 3) L st w1) : G xo M (d + 1) k n Q pc L (.int z :: .int dp :: .ref (j1 + 100) :: .int sp :: .ref i :: st) w := by
  intro p l e R s m args below meth c Z D tc ad A H locs cells slots ls X hR hL hcc hss fin
  subst hw1
  have hr := X.2.2.2.2.2.1
  have nat : ∀ q : Int32, ¬ q < 0 → q.toInt = (q.toNatClampNeg : Int) := fun q hq => by
    have h := Int32.le_iff_toInt_le.mp (Int32.not_lt.mp hq)
    rw [Int32.toInt_zero] at h
    show q.toInt = ((q.toInt.toNat : Nat) : Int)
    omega
  have hlo : ((st.map (ab_v ad)).map fun v => v.category).sum + (nativeFrameWords "java/lang/System" "arraycopy" 5 + 11) ≤ R.locals := by
    have : nativeFrameWords "java/lang/System" "arraycopy" 5 ≤ 40 := by decide +kernel
    rw [ab_sum]
    omega
  obtain ⟨cs, t1, ⟨t2, k0, hk0, cm0, hkk0⟩, t3, t4, -, t6, t7⟩ := X.2.2.2.2.2.2.1 i _ h0
  have hcs : H[ad i]? = some cs := by rw [hR.2.2.2.1 _ (Array.getElem?_eq_some_iff.mp t1).1 t7]; exact t1
  have ha1 : (ab_w tc ad 100 w)[j1]? = some (ad (j1 + 100), .inl (tc 0, n1, .inl g)) := by rw [ab_w_at, h1]; rfl
  have hcd : H[ad (j1 + 100)]? = some (vp_cell (tc 0) (n1, .inl g)) := hR.1 j1 _ ha1
  have hKi : ArrOfT s (tc 0) .int := (X.2.2.2.1.2 0 _ rfl).1
  obtain ⟨-, k1, hk1, cm1, hkk1⟩ := hKi n1 (fun j => .int (g j))
  have hel : ∀ q, q < z.toNatClampNeg → cs.slots.getD (sp.toNatClampNeg + q) .null = .int (f (sp.toNatClampNeg + q)) := fun q hq => by
    rw [Array.getD_eq_getD_getElem?, t6 _ (by omega)]
    rfl
  have hcop : copied cs (vp_cell (tc 0) (n1, .inl g)) sp dp z = vp_cell (tc 0) (n1, .inl (va_cpy f g sp.toNatClampNeg dp.toNatClampNeg z.toNatClampNeg)) := va_copiedX (fun q => .int q) cs (tc 0) f g t6 hb0
  have hlt : ad (j1 + 100) < H.size := (Array.getElem?_eq_some_iff.mp hcd).1
  intro T hT Y
  obtain ⟨vm', Y', go⟩ := Y.arraycopy X.1.1 X.1.2.2.2 (X.2.2.1 _ hl.1) (X.2.2.1 _ hl.2.1) (X.2.2.1 _ hl.2.2.1) (X.2.2.1 _ hl.2.2.2) (src := ad i) (dst := ad (j1 + 100)) (cs := cs) (cd := vp_cell (tc 0) (n1, .inl g)) (srcPos := sp) (destPos := dp) (n := z) (by rw [hT]; exact hcs) (by rw [hT]; exact hcd)
    t2 (fun _ h => by cases h) t3 (fun h => by cases h) hk0 hk1 hkk0 hkk1 (by simp [refKind]) hs hp hz
    (by rw [nat sp hs, nat z hz]; omega)
    (by rw [nat dp hp, nat z hz]; show ¬ _ > ((arrV (tc 0) n1 (fun j => .int (g j))).slots.size : Int); rw [arrV_size]; omega)
    (fun vm₁ _ q hq => by
      rw [hel q hq]
      exact ⟨rfl, trivial⟩)
    (g := F0 m pc ls (.int z :: .int dp :: .ref (ad (j1 + 100)) :: .int sp :: .ref (ad i) :: st.map (ab_v ad))) rfl (by show ls.size = _; rw [hL.1, hLl, X.1.2.2.1]) (rest := st.map (ab_v ad)) rfl (by rw [X.1.2.1]; exact hd) (by omega) (by show 2 * 0 + _ + _ ≤ _; omega)
  rw [hcop] at Y' go
  have hheap : ((T.setVm vm').setCell (ad (j1 + 100)) (vp_cell (tc 0) (n1, .inl (va_cpy f g sp.toNatClampNeg dp.toNatClampNeg z.toNatClampNeg)))).heap = H.setIfInBounds (ad (j1 + 100)) (vp_cell (tc 0) (n1, .inl (va_cpy f g sp.toNatClampNeg dp.toNatClampNeg z.toNatClampNeg))) := by rw [← hT]; rfl
  have off : ∀ q : Nat, q ≠ ad (j1 + 100) → (H.setIfInBounds (ad (j1 + 100)) (vp_cell (tc 0) (n1, .inl (va_cpy f g sp.toNatClampNeg dp.toNatClampNeg z.toNatClampNeg))))[q]? = H[q]? := fun q hq => by simp [Array.getElem?_setIfInBounds, Ne.symm hq]
  have hin := hR.2.1.2 j1 _ ha1
  obtain ⟨t, a1, b1⟩ := kk p l e R s m args below meth c Z D tc ad A _ _ cells slots ls X (ab_R.put (c := .inl (0, n1, .inl (va_cpy f g sp.toNatClampNeg dp.toNatClampNeg z.toNatClampNeg))) (hR.1.set hR.2.1 ha1 (show (H.setIfInBounds (ad (j1 + 100)) (vp_cell (tc 0) (n1, .inl (va_cpy f g sp.toNatClampNeg dp.toNatClampNeg z.toNatClampNeg))))[ad (j1 + 100)]? = some (vp_cell (tc 0) (n1, .inl (va_cpy f g sp.toNatClampNeg dp.toNatClampNeg z.toNatClampNeg))) by simp [Array.getElem?_setIfInBounds, hlt]) off) (hR.2.1.set ha1) ⟨by simp; exact hR.2.2.1, fun q g1 g2 => by
      rw [off q (fun e => g2 (by rw [e]; exact hin))]
      exact hR.2.2.2.1 q g1 g2, fun q hq => by
      rcases List.mem_append.mp hq with h | h
      · exact hR.2.2.2.2 q h
      · obtain ⟨y, -, hy⟩ := List.mem_map.mp h
        rw [← hy]
        exact hin⟩) hL hcc hss (by simp only [ab_ext, List.length_set] at fin ⊢; exact fin) _ hheap Y'
  exact ⟨t, go t a1, b1⟩
theorem G_table {dflt lo hi : Int} {offs : Array Int} {len : Nat} {x : Int32} {off : Int} {tgt : Nat} (hd : decode M.2.2.1 pc = .ok (.tableswitch dflt lo hi offs, len)) (h1 : ¬ x.toInt < lo) (h2 : ¬ hi < x.toInt) (ho : offs[(x.toInt - lo).toNat]? = some off) (ht : (pc : Int) + off = (tgt : Int)) (kk : G xo M d k n Q tgt L st w) : G xo M d k n Q pc L (.int x :: st) w := by
  intro p l e R s m args below meth c Z D tc ad A H locs cells slots ls X hR hL hcc hss fin
  exact lv_tableIn X.1.1 X.1.2.1 hd h1 h2 ho ht (kk p l e R s m args below meth c Z D tc ad A H locs cells slots ls X hR hL hcc hss fin)
end ABX
end
section
/-! Methods, links (by program). -/
theorem ab_t0 {w : Cond} {i : Nat} (h : (k2_sels lw_privs)[i]? = some w) (g : goodWord w = true) : w ∈ ab_U := List.mem_filter.mpr ⟨List.mem_append_left _ (List.mem_of_getElem? h), g⟩
theorem ab_t1 {w : Cond} {i : Nat} (h : tables_1_1[i]? = some w) (g : goodWord w = true) : w ∈ ab_U := List.mem_filter.mpr ⟨List.mem_append_right _ (List.mem_append_left _ (List.mem_of_getElem? h)), g⟩
theorem ab_t2 {w : Cond} {i : Nat} (h : tables_1_2[i]? = some w) (g : goodWord w = true) : w ∈ ab_U := List.mem_filter.mpr ⟨List.mem_append_right _ (List.mem_append_right _ (List.mem_append_left _ (List.mem_of_getElem? h))), g⟩
theorem ab_t3 {w : Cond} {i : Nat} (h : tables_1_3[i]? = some w) (g : goodWord w = true) : w ∈ ab_U := List.mem_filter.mpr ⟨List.mem_append_right _ (List.mem_append_right _ (List.mem_append_right _ (List.mem_append_left _ (List.mem_of_getElem? h)))), g⟩
theorem ab_t4 {w : Cond} {i : Nat} (h : tables_1_4[i]? = some w) (g : goodWord w = true) : w ∈ ab_U := List.mem_filter.mpr ⟨List.mem_append_right _ (List.mem_append_right _ (List.mem_append_right _ (List.mem_append_right _ (List.mem_of_getElem? h)))), g⟩
theorem ab_n1 {w : Cond} {i : Nat} (h : tables_1_1[i]? = some w) (g : ab_isN w = true) : w ∈ ab_N := List.mem_filter.mpr ⟨List.mem_append_right _ (List.mem_append_left _ (List.mem_of_getElem? h)), g⟩
theorem ab_n2 {w : Cond} {i : Nat} (h : tables_1_2[i]? = some w) (g : ab_isN w = true) : w ∈ ab_N := List.mem_filter.mpr ⟨List.mem_append_right _ (List.mem_append_right _ (List.mem_append_left _ (List.mem_of_getElem? h))), g⟩
theorem ab_n3 {w : Cond} {i : Nat} (h : tables_1_3[i]? = some w) (g : ab_isN w = true) : w ∈ ab_N := List.mem_filter.mpr ⟨List.mem_append_right _ (List.mem_append_right _ (List.mem_append_right _ (List.mem_append_left _ (List.mem_of_getElem? h)))), g⟩
theorem ab_n4 {w : Cond} {i : Nat} (h : tables_1_4[i]? = some w) (g : ab_isN w = true) : w ∈ ab_N := List.mem_filter.mpr ⟨List.mem_append_right _ (List.mem_append_right _ (List.mem_append_right _ (List.mem_append_right _ (List.mem_of_getElem? h)))), g⟩
abbrev mX1_init : ab_M := (RX1, yX1_init, cX1_init, 1, none)
abbrev mX0_init : ab_M := (RX0, yX0_init, cX0_init, 1, none)
abbrev mX0_isPoint : ab_M := (RX0, yX0_isPoint, cX0_isPoint, 2, (some .boolean))
abbrev mX0_hasPoints : ab_M := (RX0, yX0_hasPoints, cX0_hasPoints, 4, (some .boolean))
abbrev mX7_isIn : ab_M := (RX7, yX7_isIn, cX7_isIn, 4, (some .boolean))
abbrev mX0_holds : ab_M := (RX0, yX0_holds, cX0_holds, 2, (some .boolean))
abbrev mX0_hasSizesOf : ab_M := (RX0, yX0_hasSizesOf, cX0_hasSizesOf, 2, (some .boolean))
abbrev mX7_placeFor : ab_M := (RX7, yX7_placeFor, cX7_placeFor, 4, (some .int))
abbrev mX0_insert : ab_M := (RX0, yX0_insert, cX0_insert, 4, none)
abbrev mX0_remove : ab_M := (RX0, yX0_remove, cX0_remove, 3, none)
abbrev mX1_sizeOf : ab_M := (RX1, yX1_sizeOf, cX1_sizeOf, 2, (some .int))
abbrev mX1_compareHashes : ab_M := (RX1, yX1_compareHashes, cX1_compareHashes, 6, (some .int))
abbrev mX1_arrange : ab_M := (RX1, yX1_arrange, cX1_arrange, 4, none)
abbrev mX1_hasHashesOf : ab_M := (RX1, yX1_hasHashesOf, cX1_hasHashesOf, 5, (some .boolean))
abbrev mX1_namings : ab_M := (RX1, yX1_namings, cX1_namings, 4, (some .int))
abbrev mX2_init : ab_M := (RX2, yX2_init, cX2_init, 2, none)
abbrev mX7_partAt : ab_M := (RX7, yX7_partAt, cX7_partAt, 2, (some .int))
abbrev mX7_pointAt : ab_M := (RX7, yX7_pointAt, cX7_pointAt, 2, (some .int))
abbrev mX2_partFor : ab_M := (RX2, yX2_partFor, cX2_partFor, 3, (some .int))
abbrev mX2_describe : ab_M := (RX2, yX2_describe, cX2_describe, 9, (some .int))
abbrev mX7_sort : ab_M := (RX7, yX7_sort, cX7_sort, 5, none)
abbrev mX6_begin : ab_M := (RX6, yX6_begin, cX6_begin, 1, none)
abbrev mX6_mix : ab_M := (RX6, yX6_mix, cX6_mix, 13, none)
abbrev mX6_put : ab_M := (RX6, yX6_put, cX6_put, 5, none)
abbrev mX2_putContent : ab_M := (RX2, yX2_putContent, cX2_putContent, 5, none)
abbrev mX6_end : ab_M := (RX6, yX6_end, cX6_end, 5, none)
abbrev mX2_makesMore : ab_M := (RX2, yX2_makesMore, cX2_makesMore, 7, (some .boolean))
abbrev mX2_takeRound : ab_M := (RX2, yX2_takeRound, cX2_takeRound, 3, none)
abbrev mX2_refresh : ab_M := (RX2, yX2_refresh, cX2_refresh, 5, none)
abbrev mX3_init : ab_M := (RX3, yX3_init, cX3_init, 1, none)
abbrev mX7_renumbered : ab_M := (RX7, yX7_renumbered, cX7_renumbered, 5, (some .int))
abbrev mX3_layTrial : ab_M := (RX3, yX3_layTrial, cX3_layTrial, 6, none)
abbrev mX3_compare : ab_M := (RX3, yX3_compare, cX3_compare, 4, (some .int))
abbrev mX3_greatestDifference : ab_M := (RX3, yX3_greatestDifference, cX3_greatestDifference, 4, (some .int))
abbrev mX3_settle : ab_M := (RX3, yX3_settle, cX3_settle, 4, (some .int))
abbrev mX3_search : ab_M := (RX3, yX3_search, cX3_search, 11, (some .int))
abbrev mX3_find : ab_M := (RX3, yX3_find, cX3_find, 4, none)
abbrev mX4_init : ab_M := (RX4, yX4_init, cX4_init, 1, none)
abbrev mX4_readLasts : ab_M := (RX4, yX4_readLasts, cX4_readLasts, 4, none)
abbrev mX4_keepsTriples : ab_M := (RX4, yX4_keepsTriples, cX4_keepsTriples, 5, (some .boolean))
abbrev mX4_fits : ab_M := (RX4, yX4_fits, cX4_fits, 5, (some .boolean))
abbrev mX4_completes : ab_M := (RX4, yX4_completes, cX4_completes, 6, (some .boolean))
abbrev mX4_matches : ab_M := (RX4, yX4_matches, cX4_matches, 3, (some .boolean))
abbrev mX4_automorphisms : ab_M := (RX4, yX4_automorphisms, cX4_automorphisms, 7, (some .int))
abbrev mX5_init : ab_M := (RX5, yX5_init, cX5_init, 1, none)
abbrev mX5_adopt : ab_M := (RX5, yX5_adopt, cX5_adopt, 3, none)
abbrev mX5_refreshDigest : ab_M := (RX5, yX5_refreshDigest, cX5_refreshDigest, 4, none)
abbrev mX6_init : ab_M := (RX6, yX6_init, cX6_init, 1, none)
abbrev mX7_init : ab_M := (RX7, yX7_init, cX7_init, 1, none)
abbrev mX7_blank : ab_M := (RX7, yX7_blank, cX7_blank, 1, (some .int))
abbrev mX7_keyOf : ab_M := (RX7, yX7_keyOf, cX7_keyOf, 6, (some .int))
abbrev mX7_triple : ab_M := (RX7, yX7_triple, cX7_triple, 5, (some .int))
abbrev mX7_drop : ab_M := (RX7, yX7_drop, cX7_drop, 5, (some .int))
abbrev mX7_name : ab_M := (RX7, yX7_name, cX7_name, 3, (some .int))
abbrev mX7_named : ab_M := (RX7, yX7_named, cX7_named, 2, (some .int))
abbrev mX7_form : ab_M := (RX7, yX7_form, cX7_form, 3, (some .int))
abbrev mX7_octet : ab_M := (RX7, yX7_octet, cX7_octet, 2, (some .byte))
abbrev mX7_hash : ab_M := (RX7, yX7_hash, cX7_hash, 3, (some .int))
abbrev mX7_rounds : ab_M := (RX7, yX7_rounds, cX7_rounds, 1, (some .int))
abbrev mX7_first : ab_M := (RX7, yX7_first, cX7_first, 4, (some .int))
abbrev mX7_keep : ab_M := (RX7, yX7_keep, cX7_keep, 1, (some .int))
abbrev mX7_keptAt : ab_M := (RX7, yX7_keptAt, cX7_keptAt, 2, (some (.object "CanonNames$Graph")))
abbrev mX7_becomes : ab_M := (RX7, yX7_becomes, cX7_becomes, 2, (some .boolean))
abbrev mX7_isomorphic : ab_M := (RX7, yX7_isomorphic, cX7_isomorphic, 3, (some .int))
abbrev mX7_ways : ab_M := (RX7, yX7_ways, cX7_ways, 3, (some .int))
abbrev mX7_sameRows : ab_M := (RX7, yX7_sameRows, cX7_sameRows, 4, (some .boolean))
abbrev mX7_equal : ab_M := (RX7, yX7_equal, cX7_equal, 3, (some .int))
abbrev mX7_triples : ab_M := (RX7, yX7_triples, cX7_triples, 1, (some .int))
abbrev mX7_blanks : ab_M := (RX7, yX7_blanks, cX7_blanks, 1, (some .int))
abbrev mX8_thrown : ab_M := (RX8, yX8_thrown, cX8_thrown, 1, (some .int))
abbrev mX8_turned : ab_M := (RX8, yX8_turned, cX8_turned, 3, (some .long))
abbrev mX8_block : ab_M := (RX8, yX8_block, cX8_block, 23, none)
abbrev mX8_digestOf : ab_M := (RX8, yX8_digestOf, cX8_digestOf, 4, none)
abbrev mX8_octetsOf : ab_M := (RX8, yX8_octetsOf, cX8_octetsOf, 2, none)
abbrev mX8_init : ab_M := (RX8, yX8_init, cX8_init, 1, none)
abbrev mX8_say : ab_M := (RX8, yX8_say, cX8_say, 2, none)
abbrev mX8_sayNumber : ab_M := (RX8, yX8_sayNumber, cX8_sayNumber, 4, none)
abbrev mX8_at : ab_M := (RX8, yX8_at, cX8_at, 2, (some .int))
abbrev mX8_blank : ab_M := (RX8, yX8_blank, cX8_blank, 1, (some .int))
abbrev mX8_isPoint : ab_M := (RX8, yX8_isPoint, cX8_isPoint, 2, (some .boolean))
abbrev mX8_find : ab_M := (RX8, yX8_find, cX8_find, 7, (some .int))
abbrev mX8_triple : ab_M := (RX8, yX8_triple, cX8_triple, 5, (some .int))
abbrev mX8_drop : ab_M := (RX8, yX8_drop, cX8_drop, 6, (some .int))
abbrev mX8_describe : ab_M := (RX8, yX8_describe, cX8_describe, 8, none)
abbrev mX8_isBefore : ab_M := (RX8, yX8_isBefore, cX8_isBefore, 8, (some .boolean))
abbrev mX8_next : ab_M := (RX8, yX8_next, cX8_next, 5, none)
abbrev mX8_compare : ab_M := (RX8, yX8_compare, cX8_compare, 4, (some .int))
abbrev mX8_different : ab_M := (RX8, yX8_different, cX8_different, 6, (some .int))
abbrev mX8_makeGroups : ab_M := (RX8, yX8_makeGroups, cX8_makeGroups, 6, none)
abbrev mX8_makeHashes : ab_M := (RX8, yX8_makeHashes, cX8_makeHashes, 5, none)
abbrev mX8_hash : ab_M := (RX8, yX8_hash, cX8_hash, 3, (some .int))
abbrev mX8_rounds : ab_M := (RX8, yX8_rounds, cX8_rounds, 1, (some .int))
abbrev mX8_first : ab_M := (RX8, yX8_first, cX8_first, 5, (some .int))
abbrev mX8_change : ab_M := (RX8, yX8_change, cX8_change, 4, none)
abbrev mX8_turn : ab_M := (RX8, yX8_turn, cX8_turn, 5, (some .boolean))
abbrev mX8_begin : ab_M := (RX8, yX8_begin, cX8_begin, 3, none)
abbrev mX8_isNaming : ab_M := (RX8, yX8_isNaming, cX8_isNaming, 4, (some .boolean))
abbrev mX8_compareTriples : ab_M := (RX8, yX8_compareTriples, cX8_compareTriples, 5, (some .int))
abbrev mX8_numbered : ab_M := (RX8, yX8_numbered, cX8_numbered, 2, (some .int))
abbrev mX8_makeRow : ab_M := (RX8, yX8_makeRow, cX8_makeRow, 9, none)
abbrev mX8_compareForm : ab_M := (RX8, yX8_compareForm, cX8_compareForm, 3, (some .int))
abbrev mX8_namings : ab_M := (RX8, yX8_namings, cX8_namings, 6, (some .long))
abbrev mX8_take : ab_M := (RX8, yX8_take, cX8_take, 3, none)
abbrev mX8_name : ab_M := (RX8, yX8_name, cX8_name, 7, (some .int))
abbrev mX8_named : ab_M := (RX8, yX8_named, cX8_named, 2, (some .int))
abbrev mX8_form : ab_M := (RX8, yX8_form, cX8_form, 3, (some .int))
abbrev mX8_octet : ab_M := (RX8, yX8_octet, cX8_octet, 2, (some .byte))
abbrev mX8_keep : ab_M := (RX8, yX8_keep, cX8_keep, 2, (some .int))
abbrev mX8_isKept : ab_M := (RX8, yX8_isKept, cX8_isKept, 2, (some .boolean))
abbrev mX8_becomes : ab_M := (RX8, yX8_becomes, cX8_becomes, 4, (some .boolean))
abbrev mX8_ways : ab_M := (RX8, yX8_ways, cX8_ways, 5, (some .int))
abbrev mX8_isomorphic : ab_M := (RX8, yX8_isomorphic, cX8_isomorphic, 3, (some .int))
abbrev mX8_equal : ab_M := (RX8, yX8_equal, cX8_equal, 2, (some .int))
abbrev mX8_triples : ab_M := (RX8, yX8_triples, cX8_triples, 1, (some .int))
abbrev mX8_blanks : ab_M := (RX8, yX8_blanks, cX8_blanks, 1, (some .int))
abbrev mL_law : ab_M := (RL, yL_law, cL_law, 7, (some .boolean))
theorem kc1 : ab_kc 1 RX0 TX0 6 tyX0 := ⟨rfl, List.forall_mem_cons.mpr ⟨ab_t1 (i := 171) (by decide +kernel) (by decide +kernel), List.forall_mem_cons.mpr ⟨ab_t1 (i := 173) (by decide +kernel) (by decide +kernel), List.forall_mem_cons.mpr ⟨ab_t1 (i := 175) (by decide +kernel) (by decide +kernel), List.forall_mem_cons.mpr ⟨ab_t1 (i := 177) (by decide +kernel) (by decide +kernel), List.forall_mem_cons.mpr ⟨ab_t1 (i := 179) (by decide +kernel) (by decide +kernel), List.forall_mem_cons.mpr ⟨ab_t1 (i := 181) (by decide +kernel) (by decide +kernel), fun _ h => absurd h List.not_mem_nil⟩⟩⟩⟩⟩⟩, tyX0_ok, nmX0⟩
theorem iC1 : Cond.instantiable RX0 6 ∈ ab_U := ab_t1 (i := 136) (by decide +kernel) (by decide +kernel)
theorem jC1 : Cond.initialized RX0 ∈ ab_U := ab_t1 (i := 8) (by decide +kernel) (by decide +kernel)
theorem kc2 : ab_kc 2 RX1 TX1 5 tyX1 := ⟨rfl, List.forall_mem_cons.mpr ⟨ab_t1 (i := 75) (by decide +kernel) (by decide +kernel), List.forall_mem_cons.mpr ⟨ab_t1 (i := 77) (by decide +kernel) (by decide +kernel), List.forall_mem_cons.mpr ⟨ab_t1 (i := 79) (by decide +kernel) (by decide +kernel), List.forall_mem_cons.mpr ⟨ab_t1 (i := 81) (by decide +kernel) (by decide +kernel), List.forall_mem_cons.mpr ⟨ab_t1 (i := 83) (by decide +kernel) (by decide +kernel), fun _ h => absurd h List.not_mem_nil⟩⟩⟩⟩⟩, tyX1_ok, nmX1⟩
theorem iC2 : Cond.instantiable RX1 5 ∈ ab_U := ab_t1 (i := 52) (by decide +kernel) (by decide +kernel)
theorem jC2 : Cond.initialized RX1 ∈ ab_U := ab_t1 (i := 4) (by decide +kernel) (by decide +kernel)
theorem kc3 : ab_kc 3 RX2 TX2 3 tyX2 := ⟨rfl, List.forall_mem_cons.mpr ⟨ab_t1 (i := 89) (by decide +kernel) (by decide +kernel), List.forall_mem_cons.mpr ⟨ab_t1 (i := 91) (by decide +kernel) (by decide +kernel), List.forall_mem_cons.mpr ⟨ab_t1 (i := 93) (by decide +kernel) (by decide +kernel), fun _ h => absurd h List.not_mem_nil⟩⟩⟩, tyX2_ok, nmX2⟩
theorem iC3 : Cond.instantiable RX2 3 ∈ ab_U := ab_t1 (i := 46) (by decide +kernel) (by decide +kernel)
theorem jC3 : Cond.initialized RX2 ∈ ab_U := ab_t1 (i := 3) (by decide +kernel) (by decide +kernel)
theorem kc4 : ab_kc 4 RX3 TX3 4 tyX3 := ⟨rfl, List.forall_mem_cons.mpr ⟨ab_t1 (i := 120) (by decide +kernel) (by decide +kernel), List.forall_mem_cons.mpr ⟨ab_t1 (i := 122) (by decide +kernel) (by decide +kernel), List.forall_mem_cons.mpr ⟨ab_t1 (i := 124) (by decide +kernel) (by decide +kernel), List.forall_mem_cons.mpr ⟨ab_t1 (i := 126) (by decide +kernel) (by decide +kernel), fun _ h => absurd h List.not_mem_nil⟩⟩⟩⟩, tyX3_ok, nmX3⟩
theorem iC4 : Cond.instantiable RX3 4 ∈ ab_U := ab_t1 (i := 111) (by decide +kernel) (by decide +kernel)
theorem jC4 : Cond.initialized RX3 ∈ ab_U := ab_t1 (i := 6) (by decide +kernel) (by decide +kernel)
theorem kc5 : ab_kc 5 RX4 TX4 2 tyX4 := ⟨rfl, List.forall_mem_cons.mpr ⟨ab_t1 (i := 105) (by decide +kernel) (by decide +kernel), List.forall_mem_cons.mpr ⟨ab_t1 (i := 107) (by decide +kernel) (by decide +kernel), fun _ h => absurd h List.not_mem_nil⟩⟩, tyX4_ok, nmX4⟩
theorem iC5 : Cond.instantiable RX4 2 ∈ ab_U := ab_t1 (i := 97) (by decide +kernel) (by decide +kernel)
theorem jC5 : Cond.initialized RX4 ∈ ab_U := ab_t1 (i := 5) (by decide +kernel) (by decide +kernel)
theorem kc6 : ab_kc 6 RX5 TX5 4 tyX5 := ⟨rfl, List.forall_mem_cons.mpr ⟨ab_t1 (i := 191) (by decide +kernel) (by decide +kernel), List.forall_mem_cons.mpr ⟨ab_t1 (i := 193) (by decide +kernel) (by decide +kernel), List.forall_mem_cons.mpr ⟨ab_t1 (i := 195) (by decide +kernel) (by decide +kernel), List.forall_mem_cons.mpr ⟨ab_t1 (i := 197) (by decide +kernel) (by decide +kernel), fun _ h => absurd h List.not_mem_nil⟩⟩⟩⟩, tyX5_ok, nmX5⟩
theorem iC6 : Cond.instantiable RX5 4 ∈ ab_U := ab_t1 (i := 130) (by decide +kernel) (by decide +kernel)
theorem jC6 : Cond.initialized RX5 ∈ ab_U := ab_t1 (i := 7) (by decide +kernel) (by decide +kernel)
theorem kc7 : ab_kc 7 RX6 TX6 4 tyX6 := ⟨rfl, List.forall_mem_cons.mpr ⟨ab_t1 (i := 35) (by decide +kernel) (by decide +kernel), List.forall_mem_cons.mpr ⟨ab_t1 (i := 37) (by decide +kernel) (by decide +kernel), List.forall_mem_cons.mpr ⟨ab_t1 (i := 39) (by decide +kernel) (by decide +kernel), List.forall_mem_cons.mpr ⟨ab_t1 (i := 41) (by decide +kernel) (by decide +kernel), fun _ h => absurd h List.not_mem_nil⟩⟩⟩⟩, tyX6_ok, nmX6⟩
theorem iC7 : Cond.instantiable RX6 4 ∈ ab_U := ab_t1 (i := 26) (by decide +kernel) (by decide +kernel)
theorem jC7 : Cond.initialized RX6 ∈ ab_U := ab_t1 (i := 2) (by decide +kernel) (by decide +kernel)
theorem kc8 : ab_kc 8 RX7 TX7 8 tyX7 := ⟨rfl, List.forall_mem_cons.mpr ⟨ab_t1 (i := 211) (by decide +kernel) (by decide +kernel), List.forall_mem_cons.mpr ⟨ab_t1 (i := 213) (by decide +kernel) (by decide +kernel), List.forall_mem_cons.mpr ⟨ab_t1 (i := 215) (by decide +kernel) (by decide +kernel), List.forall_mem_cons.mpr ⟨ab_t1 (i := 217) (by decide +kernel) (by decide +kernel), List.forall_mem_cons.mpr ⟨ab_t1 (i := 219) (by decide +kernel) (by decide +kernel), List.forall_mem_cons.mpr ⟨ab_t1 (i := 221) (by decide +kernel) (by decide +kernel), List.forall_mem_cons.mpr ⟨ab_t1 (i := 223) (by decide +kernel) (by decide +kernel), List.forall_mem_cons.mpr ⟨ab_t1 (i := 225) (by decide +kernel) (by decide +kernel), fun _ h => absurd h List.not_mem_nil⟩⟩⟩⟩⟩⟩⟩⟩, tyX7_ok, nmX7⟩
theorem iC8 : Cond.instantiable RX7 8 ∈ ab_U := ab_t1 (i := 18) (by decide +kernel) (by decide +kernel)
theorem jC8 : Cond.initialized RX7 ∈ ab_U := ab_t1 (i := 1) (by decide +kernel) (by decide +kernel)
theorem kc9 : ab_kc 9 RX8 TX8 27 tyX8 := ⟨rfl, List.forall_mem_cons.mpr ⟨ab_t3 (i := 216) (by decide +kernel) (by decide +kernel), List.forall_mem_cons.mpr ⟨ab_t3 (i := 218) (by decide +kernel) (by decide +kernel), List.forall_mem_cons.mpr ⟨ab_t3 (i := 220) (by decide +kernel) (by decide +kernel), List.forall_mem_cons.mpr ⟨ab_t3 (i := 222) (by decide +kernel) (by decide +kernel), List.forall_mem_cons.mpr ⟨ab_t3 (i := 224) (by decide +kernel) (by decide +kernel), List.forall_mem_cons.mpr ⟨ab_t3 (i := 226) (by decide +kernel) (by decide +kernel), List.forall_mem_cons.mpr ⟨ab_t3 (i := 228) (by decide +kernel) (by decide +kernel), List.forall_mem_cons.mpr ⟨ab_t3 (i := 230) (by decide +kernel) (by decide +kernel), List.forall_mem_cons.mpr ⟨ab_t3 (i := 232) (by decide +kernel) (by decide +kernel), List.forall_mem_cons.mpr ⟨ab_t3 (i := 234) (by decide +kernel) (by decide +kernel), List.forall_mem_cons.mpr ⟨ab_t3 (i := 236) (by decide +kernel) (by decide +kernel), List.forall_mem_cons.mpr ⟨ab_t3 (i := 238) (by decide +kernel) (by decide +kernel), List.forall_mem_cons.mpr ⟨ab_t4 (i := 0) (by decide +kernel) (by decide +kernel), List.forall_mem_cons.mpr ⟨ab_t4 (i := 2) (by decide +kernel) (by decide +kernel), List.forall_mem_cons.mpr ⟨ab_t4 (i := 4) (by decide +kernel) (by decide +kernel), List.forall_mem_cons.mpr ⟨ab_t4 (i := 6) (by decide +kernel) (by decide +kernel), List.forall_mem_cons.mpr ⟨ab_t4 (i := 8) (by decide +kernel) (by decide +kernel), List.forall_mem_cons.mpr ⟨ab_t4 (i := 10) (by decide +kernel) (by decide +kernel), List.forall_mem_cons.mpr ⟨ab_t4 (i := 12) (by decide +kernel) (by decide +kernel), List.forall_mem_cons.mpr ⟨ab_t4 (i := 14) (by decide +kernel) (by decide +kernel), List.forall_mem_cons.mpr ⟨ab_t4 (i := 16) (by decide +kernel) (by decide +kernel), List.forall_mem_cons.mpr ⟨ab_t4 (i := 18) (by decide +kernel) (by decide +kernel), List.forall_mem_cons.mpr ⟨ab_t4 (i := 20) (by decide +kernel) (by decide +kernel), List.forall_mem_cons.mpr ⟨ab_t4 (i := 22) (by decide +kernel) (by decide +kernel), List.forall_mem_cons.mpr ⟨ab_t4 (i := 24) (by decide +kernel) (by decide +kernel), List.forall_mem_cons.mpr ⟨ab_t4 (i := 26) (by decide +kernel) (by decide +kernel), List.forall_mem_cons.mpr ⟨ab_t4 (i := 28) (by decide +kernel) (by decide +kernel), fun _ h => absurd h List.not_mem_nil⟩⟩⟩⟩⟩⟩⟩⟩⟩⟩⟩⟩⟩⟩⟩⟩⟩⟩⟩⟩⟩⟩⟩⟩⟩⟩⟩, tyX8_ok, nmX8⟩
theorem iC9 : Cond.instantiable RX8 27 ∈ ab_U := ab_t3 (i := 94) (by decide +kernel) (by decide +kernel)
theorem jC9 : Cond.initialized RX8 ∈ ab_U := ab_t1 (i := 9) (by decide +kernel) (by decide +kernel)
theorem aC_int : Cond.arrayClass .int ∈ ab_U := ab_t1 (i := 44) (by decide +kernel) (by decide +kernel)
theorem aC_long : Cond.arrayClass .long ∈ ab_U := ab_t4 (i := 31) (by decide +kernel) (by decide +kernel)
theorem aC_byte : Cond.arrayClass .byte ∈ ab_U := ab_t3 (i := 80) (by decide +kernel) (by decide +kernel)
theorem aC_boolean : Cond.arrayClass .boolean ∈ ab_U := ab_t4 (i := 32) (by decide +kernel) (by decide +kernel)
theorem fX0_9 : Cond.fieldLink RX0 9 "CanonNames$Graph" "keys" "[I" ∈ ab_U := ab_t1 (i := 143) (by decide +kernel) (by decide +kernel)
theorem fX0_15 : Cond.fieldLink RX0 15 "CanonNames$Graph" "blanks" "I" ∈ ab_U := ab_t1 (i := 149) (by decide +kernel) (by decide +kernel)
theorem fX0_19 : Cond.fieldLink RX0 19 "CanonNames$Graph" "triples" "I" ∈ ab_U := ab_t1 (i := 154) (by decide +kernel) (by decide +kernel)
theorem fX0_22 : Cond.fieldLink RX0 22 "CanonNames$Graph" "hashed" "Z" ∈ ab_U := ab_t1 (i := 160) (by decide +kernel) (by decide +kernel)
theorem fX0_26 : Cond.fieldLink RX0 26 "CanonNames$Graph" "rounds" "I" ∈ ab_U := ab_t1 (i := 163) (by decide +kernel) (by decide +kernel)
theorem fX0_32 : Cond.fieldLink RX0 32 "CanonNames$Graph" "groups" "LCanonNames$Groups;" ∈ ab_U := ab_t1 (i := 166) (by decide +kernel) (by decide +kernel)
theorem fX1_9 : Cond.fieldLink RX1 9 "CanonNames$Groups" "hashes" "[I" ∈ ab_U := ab_t1 (i := 57) (by decide +kernel) (by decide +kernel)
theorem fX1_15 : Cond.fieldLink RX1 15 "CanonNames$Groups" "order" "[I" ∈ ab_U := ab_t1 (i := 60) (by decide +kernel) (by decide +kernel)
theorem fX1_18 : Cond.fieldLink RX1 18 "CanonNames$Groups" "rank" "[I" ∈ ab_U := ab_t1 (i := 64) (by decide +kernel) (by decide +kernel)
theorem fX1_21 : Cond.fieldLink RX1 21 "CanonNames$Groups" "start" "[I" ∈ ab_U := ab_t1 (i := 68) (by decide +kernel) (by decide +kernel)
theorem fX1_24 : Cond.fieldLink RX1 24 "CanonNames$Groups" "count" "I" ∈ ab_U := ab_t1 (i := 72) (by decide +kernel) (by decide +kernel)
theorem fX2_9 : Cond.fieldLink RX2 9 "CanonNames$Hasher" "descriptions" "[I" ∈ ab_U := ab_t1 (i := 87) (by decide +kernel) (by decide +kernel)
theorem fX2_18 : Cond.fieldLink RX2 18 "CanonNames$Hasher" "next" "LCanonNames$Groups;" ∈ ab_U := ab_t1 (i := 88) (by decide +kernel) (by decide +kernel)
theorem fX2_22 : Cond.fieldLink RX2 22 "CanonNames$Hasher" "sha" "LCanonNames$Sha;" ∈ ab_U := ab_t1 (i := 86) (by decide +kernel) (by decide +kernel)
theorem fX2_26 : Cond.fieldLink RX2 26 "CanonNames$Graph" "hashed" "Z" ∈ ab_U := ab_t1 (i := 161) (by decide +kernel) (by decide +kernel)
theorem fX2_32 : Cond.fieldLink RX2 32 "CanonNames$Graph" "blanks" "I" ∈ ab_U := ab_t1 (i := 152) (by decide +kernel) (by decide +kernel)
theorem fX2_36 : Cond.fieldLink RX2 36 "CanonNames$Hasher" "NO_BYTES" "[I" ∈ ab_U := ab_t2 (i := 37) (by decide +kernel) (by decide +kernel)
theorem fX2_39 : Cond.fieldLink RX2 39 "CanonNames$Graph" "groups" "LCanonNames$Groups;" ∈ ab_U := ab_t1 (i := 167) (by decide +kernel) (by decide +kernel)
theorem fX2_42 : Cond.fieldLink RX2 42 "CanonNames$Groups" "hashes" "[I" ∈ ab_U := ab_t1 (i := 58) (by decide +kernel) (by decide +kernel)
theorem fX2_55 : Cond.fieldLink RX2 55 "CanonNames$Graph" "rounds" "I" ∈ ab_U := ab_t1 (i := 164) (by decide +kernel) (by decide +kernel)
theorem fX2_66 : Cond.fieldLink RX2 66 "CanonNames$Groups" "count" "I" ∈ ab_U := ab_t1 (i := 73) (by decide +kernel) (by decide +kernel)
theorem fX2_82 : Cond.fieldLink RX2 82 "CanonNames$Groups" "rank" "[I" ∈ ab_U := ab_t1 (i := 66) (by decide +kernel) (by decide +kernel)
theorem fX2_100 : Cond.fieldLink RX2 100 "CanonNames$Graph" "triples" "I" ∈ ab_U := ab_t1 (i := 159) (by decide +kernel) (by decide +kernel)
theorem fX2_103 : Cond.fieldLink RX2 103 "CanonNames$Graph" "keys" "[I" ∈ ab_U := ab_t1 (i := 147) (by decide +kernel) (by decide +kernel)
theorem fX2_113 : Cond.fieldLink RX2 113 "CanonNames$Groups" "order" "[I" ∈ ab_U := ab_t1 (i := 62) (by decide +kernel) (by decide +kernel)
theorem fX2_116 : Cond.fieldLink RX2 116 "CanonNames$Groups" "start" "[I" ∈ ab_U := ab_t1 (i := 70) (by decide +kernel) (by decide +kernel)
theorem fX3_9 : Cond.fieldLink RX3 9 "CanonNames$LeastRow" "numbers" "[I" ∈ ab_U := ab_t1 (i := 116) (by decide +kernel) (by decide +kernel)
theorem fX3_15 : Cond.fieldLink RX3 15 "CanonNames$LeastRow" "bestNumbers" "[I" ∈ ab_U := ab_t1 (i := 117) (by decide +kernel) (by decide +kernel)
theorem fX3_18 : Cond.fieldLink RX3 18 "CanonNames$LeastRow" "trial" "[I" ∈ ab_U := ab_t1 (i := 118) (by decide +kernel) (by decide +kernel)
theorem fX3_21 : Cond.fieldLink RX3 21 "CanonNames$LeastRow" "found" "Z" ∈ ab_U := ab_t1 (i := 119) (by decide +kernel) (by decide +kernel)
theorem fX3_25 : Cond.fieldLink RX3 25 "CanonNames$Graph" "blanks" "I" ∈ ab_U := ab_t1 (i := 150) (by decide +kernel) (by decide +kernel)
theorem fX3_31 : Cond.fieldLink RX3 31 "CanonNames$Graph" "triples" "I" ∈ ab_U := ab_t1 (i := 155) (by decide +kernel) (by decide +kernel)
theorem fX3_34 : Cond.fieldLink RX3 34 "CanonNames$Graph" "groups" "LCanonNames$Groups;" ∈ ab_U := ab_t1 (i := 168) (by decide +kernel) (by decide +kernel)
theorem fX3_38 : Cond.fieldLink RX3 38 "CanonNames$Groups" "rank" "[I" ∈ ab_U := ab_t1 (i := 65) (by decide +kernel) (by decide +kernel)
theorem fX3_43 : Cond.fieldLink RX3 43 "CanonNames$Groups" "order" "[I" ∈ ab_U := ab_t1 (i := 61) (by decide +kernel) (by decide +kernel)
theorem fX3_54 : Cond.fieldLink RX3 54 "CanonNames$Graph" "keys" "[I" ∈ ab_U := ab_t1 (i := 144) (by decide +kernel) (by decide +kernel)
theorem fX3_65 : Cond.fieldLink RX3 65 "CanonNames$Groups" "start" "[I" ∈ ab_U := ab_t1 (i := 69) (by decide +kernel) (by decide +kernel)
theorem fX4_9 : Cond.fieldLink RX4 9 "CanonNames$Matcher" "images" "[I" ∈ ab_U := ab_t1 (i := 102) (by decide +kernel) (by decide +kernel)
theorem fX4_15 : Cond.fieldLink RX4 15 "CanonNames$Matcher" "lasts" "[I" ∈ ab_U := ab_t1 (i := 104) (by decide +kernel) (by decide +kernel)
theorem fX4_30 : Cond.fieldLink RX4 30 "CanonNames$Graph" "blanks" "I" ∈ ab_U := ab_t1 (i := 153) (by decide +kernel) (by decide +kernel)
theorem fX4_39 : Cond.fieldLink RX4 39 "CanonNames$Graph" "triples" "I" ∈ ab_U := ab_t1 (i := 158) (by decide +kernel) (by decide +kernel)
theorem fX4_42 : Cond.fieldLink RX4 42 "CanonNames$Graph" "keys" "[I" ∈ ab_U := ab_t1 (i := 146) (by decide +kernel) (by decide +kernel)
theorem fX4_54 : Cond.fieldLink RX4 54 "CanonNames$Graph" "groups" "LCanonNames$Groups;" ∈ ab_U := ab_t1 (i := 170) (by decide +kernel) (by decide +kernel)
theorem fX4_58 : Cond.fieldLink RX4 58 "CanonNames$Groups" "rank" "[I" ∈ ab_U := ab_t1 (i := 67) (by decide +kernel) (by decide +kernel)
theorem fX5_12 : Cond.fieldLink RX5 12 "CanonNames$Named" "form" "LCanonNames$Graph;" ∈ ab_U := ab_t1 (i := 184) (by decide +kernel) (by decide +kernel)
theorem fX5_18 : Cond.fieldLink RX5 18 "CanonNames$Named" "numbers" "[I" ∈ ab_U := ab_t1 (i := 186) (by decide +kernel) (by decide +kernel)
theorem fX5_22 : Cond.fieldLink RX5 22 "CanonNames$Named" "digest" "[I" ∈ ab_U := ab_t1 (i := 188) (by decide +kernel) (by decide +kernel)
theorem fX5_25 : Cond.fieldLink RX5 25 "CanonNames$Named" "digested" "Z" ∈ ab_U := ab_t1 (i := 190) (by decide +kernel) (by decide +kernel)
theorem fX5_40 : Cond.fieldLink RX5 40 "CanonNames$Graph" "triples" "I" ∈ ab_U := ab_t1 (i := 156) (by decide +kernel) (by decide +kernel)
theorem fX5_44 : Cond.fieldLink RX5 44 "CanonNames$Graph" "keys" "[I" ∈ ab_U := ab_t1 (i := 145) (by decide +kernel) (by decide +kernel)
theorem fX6_9 : Cond.fieldLink RX6 9 "CanonNames$Sha" "state" "[I" ∈ ab_U := ab_t1 (i := 31) (by decide +kernel) (by decide +kernel)
theorem fX6_15 : Cond.fieldLink RX6 15 "CanonNames$Sha" "words" "[I" ∈ ab_U := ab_t1 (i := 32) (by decide +kernel) (by decide +kernel)
theorem fX6_18 : Cond.fieldLink RX6 18 "CanonNames$Sha" "filled" "I" ∈ ab_U := ab_t1 (i := 33) (by decide +kernel) (by decide +kernel)
theorem fX6_22 : Cond.fieldLink RX6 22 "CanonNames$Sha" "length" "I" ∈ ab_U := ab_t1 (i := 34) (by decide +kernel) (by decide +kernel)
theorem fX6_25 : Cond.fieldLink RX6 25 "CanonNames$Sha" "START" "[I" ∈ ab_U := ab_t2 (i := 75) (by decide +kernel) (by decide +kernel)
theorem fX6_41 : Cond.fieldLink RX6 41 "CanonNames$Sha" "STEPS" "[I" ∈ ab_U := ab_t2 (i := 90) (by decide +kernel) (by decide +kernel)
theorem fX7_10 : Cond.fieldLink RX7 10 "CanonNames" "sha" "LCanonNames$Sha;" ∈ ab_U := ab_t1 (i := 203) (by decide +kernel) (by decide +kernel)
theorem fX7_21 : Cond.fieldLink RX7 21 "CanonNames" "hasher" "LCanonNames$Hasher;" ∈ ab_U := ab_t1 (i := 204) (by decide +kernel) (by decide +kernel)
theorem fX7_28 : Cond.fieldLink RX7 28 "CanonNames" "matcher" "LCanonNames$Matcher;" ∈ ab_U := ab_t1 (i := 205) (by decide +kernel) (by decide +kernel)
theorem fX7_35 : Cond.fieldLink RX7 35 "CanonNames" "leastRow" "LCanonNames$LeastRow;" ∈ ab_U := ab_t1 (i := 206) (by decide +kernel) (by decide +kernel)
theorem fX7_42 : Cond.fieldLink RX7 42 "CanonNames" "latest" "LCanonNames$Named;" ∈ ab_U := ab_t1 (i := 207) (by decide +kernel) (by decide +kernel)
theorem fX7_48 : Cond.fieldLink RX7 48 "CanonNames" "kept" "[LCanonNames$Graph;" ∈ ab_U := ab_t1 (i := 208) (by decide +kernel) (by decide +kernel)
theorem fX7_52 : Cond.fieldLink RX7 52 "CanonNames" "keptCount" "I" ∈ ab_U := ab_t1 (i := 209) (by decide +kernel) (by decide +kernel)
theorem fX7_57 : Cond.fieldLink RX7 57 "CanonNames" "graph" "LCanonNames$Graph;" ∈ ab_U := ab_t1 (i := 210) (by decide +kernel) (by decide +kernel)
theorem fX7_61 : Cond.fieldLink RX7 61 "CanonNames$Graph" "blanks" "I" ∈ ab_U := ab_t1 (i := 151) (by decide +kernel) (by decide +kernel)
theorem fX7_64 : Cond.fieldLink RX7 64 "CanonNames$Graph" "hashed" "Z" ∈ ab_U := ab_t1 (i := 162) (by decide +kernel) (by decide +kernel)
theorem fX7_80 : Cond.fieldLink RX7 80 "CanonNames$Graph" "triples" "I" ∈ ab_U := ab_t1 (i := 157) (by decide +kernel) (by decide +kernel)
theorem fX7_94 : Cond.fieldLink RX7 94 "CanonNames$Graph" "groups" "LCanonNames$Groups;" ∈ ab_U := ab_t1 (i := 169) (by decide +kernel) (by decide +kernel)
theorem fX7_104 : Cond.fieldLink RX7 104 "CanonNames$Named" "form" "LCanonNames$Graph;" ∈ ab_U := ab_t1 (i := 185) (by decide +kernel) (by decide +kernel)
theorem fX7_115 : Cond.fieldLink RX7 115 "CanonNames$Matcher" "images" "[I" ∈ ab_U := ab_t1 (i := 103) (by decide +kernel) (by decide +kernel)
theorem fX7_127 : Cond.fieldLink RX7 127 "CanonNames$Named" "numbers" "[I" ∈ ab_U := ab_t1 (i := 187) (by decide +kernel) (by decide +kernel)
theorem fX7_130 : Cond.fieldLink RX7 130 "CanonNames$Graph" "keys" "[I" ∈ ab_U := ab_t1 (i := 148) (by decide +kernel) (by decide +kernel)
theorem fX7_147 : Cond.fieldLink RX7 147 "CanonNames$Named" "digest" "[I" ∈ ab_U := ab_t1 (i := 189) (by decide +kernel) (by decide +kernel)
theorem fX7_150 : Cond.fieldLink RX7 150 "CanonNames$Groups" "hashes" "[I" ∈ ab_U := ab_t1 (i := 59) (by decide +kernel) (by decide +kernel)
theorem fX7_153 : Cond.fieldLink RX7 153 "CanonNames$Graph" "rounds" "I" ∈ ab_U := ab_t1 (i := 165) (by decide +kernel) (by decide +kernel)
theorem fX7_156 : Cond.fieldLink RX7 156 "CanonNames$Groups" "count" "I" ∈ ab_U := ab_t1 (i := 74) (by decide +kernel) (by decide +kernel)
theorem fX7_163 : Cond.fieldLink RX7 163 "CanonNames$Groups" "order" "[I" ∈ ab_U := ab_t1 (i := 63) (by decide +kernel) (by decide +kernel)
theorem fX7_166 : Cond.fieldLink RX7 166 "CanonNames$Groups" "start" "[I" ∈ ab_U := ab_t1 (i := 71) (by decide +kernel) (by decide +kernel)
theorem fX8_1 : Cond.fieldLink RX8 1 "CanonNamesModel" "thrown" "I" ∈ ab_U := ab_t3 (i := 214) (by decide +kernel) (by decide +kernel)
theorem fX8_141 : Cond.fieldLink RX8 141 "CanonNamesModel" "constants" "[J" ∈ ab_U := ab_t3 (i := 189) (by decide +kernel) (by decide +kernel)
theorem fX8_145 : Cond.fieldLink RX8 145 "CanonNamesModel" "blanks" "[I" ∈ ab_U := ab_t3 (i := 190) (by decide +kernel) (by decide +kernel)
theorem fX8_149 : Cond.fieldLink RX8 149 "CanonNamesModel" "counts" "[I" ∈ ab_U := ab_t3 (i := 191) (by decide +kernel) (by decide +kernel)
theorem fX8_152 : Cond.fieldLink RX8 152 "CanonNamesModel" "points" "[I" ∈ ab_U := ab_t3 (i := 192) (by decide +kernel) (by decide +kernel)
theorem fX8_155 : Cond.fieldLink RX8 155 "CanonNamesModel" "hashes" "[J" ∈ ab_U := ab_t3 (i := 194) (by decide +kernel) (by decide +kernel)
theorem fX8_158 : Cond.fieldLink RX8 158 "CanonNamesModel" "news" "[J" ∈ ab_U := ab_t3 (i := 195) (by decide +kernel) (by decide +kernel)
theorem fX8_161 : Cond.fieldLink RX8 161 "CanonNamesModel" "groups" "[I" ∈ ab_U := ab_t3 (i := 198) (by decide +kernel) (by decide +kernel)
theorem fX8_164 : Cond.fieldLink RX8 164 "CanonNamesModel" "groupOf" "[I" ∈ ab_U := ab_t3 (i := 199) (by decide +kernel) (by decide +kernel)
theorem fX8_167 : Cond.fieldLink RX8 167 "CanonNamesModel" "trial" "[I" ∈ ab_U := ab_t3 (i := 201) (by decide +kernel) (by decide +kernel)
theorem fX8_170 : Cond.fieldLink RX8 170 "CanonNamesModel" "row" "[I" ∈ ab_U := ab_t3 (i := 202) (by decide +kernel) (by decide +kernel)
theorem fX8_173 : Cond.fieldLink RX8 173 "CanonNamesModel" "names" "[I" ∈ ab_U := ab_t3 (i := 203) (by decide +kernel) (by decide +kernel)
theorem fX8_176 : Cond.fieldLink RX8 176 "CanonNamesModel" "form" "[I" ∈ ab_U := ab_t3 (i := 205) (by decide +kernel) (by decide +kernel)
theorem fX8_179 : Cond.fieldLink RX8 179 "CanonNamesModel" "octets" "[B" ∈ ab_U := ab_t3 (i := 207) (by decide +kernel) (by decide +kernel)
theorem fX8_183 : Cond.fieldLink RX8 183 "CanonNamesModel" "descriptions" "[I" ∈ ab_U := ab_t3 (i := 208) (by decide +kernel) (by decide +kernel)
theorem fX8_186 : Cond.fieldLink RX8 186 "CanonNamesModel" "message" "[B" ∈ ab_U := ab_t3 (i := 210) (by decide +kernel) (by decide +kernel)
theorem fX8_189 : Cond.fieldLink RX8 189 "CanonNamesModel" "words" "[J" ∈ ab_U := ab_t3 (i := 212) (by decide +kernel) (by decide +kernel)
theorem fX8_192 : Cond.fieldLink RX8 192 "CanonNamesModel" "schedule" "[J" ∈ ab_U := ab_t3 (i := 213) (by decide +kernel) (by decide +kernel)
theorem fX8_195 : Cond.fieldLink RX8 195 "CanonNamesModel" "said" "[Z" ∈ ab_U := ab_t3 (i := 215) (by decide +kernel) (by decide +kernel)
theorem fX8_235 : Cond.fieldLink RX8 235 "CanonNamesModel" "size" "I" ∈ ab_U := ab_t3 (i := 211) (by decide +kernel) (by decide +kernel)
theorem fX8_241 : Cond.fieldLink RX8 241 "CanonNamesModel" "hashed" "Z" ∈ ab_U := ab_t3 (i := 197) (by decide +kernel) (by decide +kernel)
theorem fX8_257 : Cond.fieldLink RX8 257 "CanonNamesModel" "described" "I" ∈ ab_U := ab_t3 (i := 209) (by decide +kernel) (by decide +kernel)
theorem fX8_278 : Cond.fieldLink RX8 278 "CanonNamesModel" "rounds" "I" ∈ ab_U := ab_t3 (i := 196) (by decide +kernel) (by decide +kernel)
theorem fX8_291 : Cond.fieldLink RX8 291 "CanonNamesModel" "groupCount" "I" ∈ ab_U := ab_t3 (i := 200) (by decide +kernel) (by decide +kernel)
theorem fX8_331 : Cond.fieldLink RX8 331 "CanonNamesModel" "namedBlanks" "I" ∈ ab_U := ab_t3 (i := 204) (by decide +kernel) (by decide +kernel)
theorem fX8_334 : Cond.fieldLink RX8 334 "CanonNamesModel" "formCount" "I" ∈ ab_U := ab_t3 (i := 206) (by decide +kernel) (by decide +kernel)
theorem fX8_337 : Cond.fieldLink RX8 337 "CanonNamesModel" "kept" "I" ∈ ab_U := ab_t3 (i := 193) (by decide +kernel) (by decide +kernel)
theorem nL_8 : Cond.classLink RL 8 RX7 ∈ ab_U := ab_t1 (i := 17) (by decide +kernel) (by decide +kernel)
theorem nL_16 : Cond.classLink RL 16 RX8 ∈ ab_U := ab_t3 (i := 93) (by decide +kernel) (by decide +kernel)
theorem nX0_29 : Cond.classLink RX0 29 RX1 ∈ ab_U := ab_t1 (i := 141) (by decide +kernel) (by decide +kernel)
theorem nX2_15 : Cond.classLink RX2 15 RX1 ∈ ab_U := ab_t1 (i := 51) (by decide +kernel) (by decide +kernel)
theorem nX5_9 : Cond.classLink RX5 9 RX0 ∈ ab_U := ab_t1 (i := 135) (by decide +kernel) (by decide +kernel)
theorem nX7_7 : Cond.classLink RX7 7 RX6 ∈ ab_U := ab_t1 (i := 25) (by decide +kernel) (by decide +kernel)
theorem nX7_16 : Cond.classLink RX7 16 RX2 ∈ ab_U := ab_t1 (i := 45) (by decide +kernel) (by decide +kernel)
theorem nX7_25 : Cond.classLink RX7 25 RX4 ∈ ab_U := ab_t1 (i := 96) (by decide +kernel) (by decide +kernel)
theorem nX7_32 : Cond.classLink RX7 32 RX3 ∈ ab_U := ab_t1 (i := 110) (by decide +kernel) (by decide +kernel)
theorem nX7_39 : Cond.classLink RX7 39 RX5 ∈ ab_U := ab_t1 (i := 129) (by decide +kernel) (by decide +kernel)
theorem nX7_46 : Cond.classLink RX7 46 RX0 ∈ ab_U := ab_t1 (i := 200) (by decide +kernel) (by decide +kernel)
theorem kL_33 : Jvm.Cond.constantLong RL 33 (4294967295) ∈ ab_U := ab_t4 (i := 192) (by decide +kernel) (by decide +kernel)
theorem kX1_32 : Jvm.Cond.constant RX1 32 (-2147483648) ∈ ab_U := ab_t2 (i := 50) (by decide +kernel) (by decide +kernel)
theorem kX8_13 : Jvm.Cond.constantLong RX8 13 (1116352408) ∈ ab_U := ab_t3 (i := 99) (by decide +kernel) (by decide +kernel)
theorem kX8_15 : Jvm.Cond.constantLong RX8 15 (1899447441) ∈ ab_U := ab_t3 (i := 100) (by decide +kernel) (by decide +kernel)
theorem kX8_17 : Jvm.Cond.constantLong RX8 17 (3049323471) ∈ ab_U := ab_t3 (i := 101) (by decide +kernel) (by decide +kernel)
theorem kX8_19 : Jvm.Cond.constantLong RX8 19 (3921009573) ∈ ab_U := ab_t3 (i := 102) (by decide +kernel) (by decide +kernel)
theorem kX8_21 : Jvm.Cond.constantLong RX8 21 (961987163) ∈ ab_U := ab_t3 (i := 103) (by decide +kernel) (by decide +kernel)
theorem kX8_23 : Jvm.Cond.constantLong RX8 23 (1508970993) ∈ ab_U := ab_t3 (i := 104) (by decide +kernel) (by decide +kernel)
theorem kX8_25 : Jvm.Cond.constantLong RX8 25 (2453635748) ∈ ab_U := ab_t3 (i := 105) (by decide +kernel) (by decide +kernel)
theorem kX8_27 : Jvm.Cond.constantLong RX8 27 (2870763221) ∈ ab_U := ab_t3 (i := 106) (by decide +kernel) (by decide +kernel)
theorem kX8_29 : Jvm.Cond.constantLong RX8 29 (3624381080) ∈ ab_U := ab_t3 (i := 107) (by decide +kernel) (by decide +kernel)
theorem kX8_31 : Jvm.Cond.constantLong RX8 31 (310598401) ∈ ab_U := ab_t3 (i := 108) (by decide +kernel) (by decide +kernel)
theorem kX8_33 : Jvm.Cond.constantLong RX8 33 (607225278) ∈ ab_U := ab_t3 (i := 109) (by decide +kernel) (by decide +kernel)
theorem kX8_35 : Jvm.Cond.constantLong RX8 35 (1426881987) ∈ ab_U := ab_t3 (i := 110) (by decide +kernel) (by decide +kernel)
theorem kX8_37 : Jvm.Cond.constantLong RX8 37 (1925078388) ∈ ab_U := ab_t3 (i := 111) (by decide +kernel) (by decide +kernel)
theorem kX8_39 : Jvm.Cond.constantLong RX8 39 (2162078206) ∈ ab_U := ab_t3 (i := 112) (by decide +kernel) (by decide +kernel)
theorem kX8_41 : Jvm.Cond.constantLong RX8 41 (2614888103) ∈ ab_U := ab_t3 (i := 113) (by decide +kernel) (by decide +kernel)
theorem kX8_43 : Jvm.Cond.constantLong RX8 43 (3248222580) ∈ ab_U := ab_t3 (i := 114) (by decide +kernel) (by decide +kernel)
theorem kX8_45 : Jvm.Cond.constantLong RX8 45 (3835390401) ∈ ab_U := ab_t3 (i := 115) (by decide +kernel) (by decide +kernel)
theorem kX8_47 : Jvm.Cond.constantLong RX8 47 (4022224774) ∈ ab_U := ab_t3 (i := 116) (by decide +kernel) (by decide +kernel)
theorem kX8_49 : Jvm.Cond.constantLong RX8 49 (264347078) ∈ ab_U := ab_t3 (i := 117) (by decide +kernel) (by decide +kernel)
theorem kX8_51 : Jvm.Cond.constantLong RX8 51 (604807628) ∈ ab_U := ab_t3 (i := 118) (by decide +kernel) (by decide +kernel)
theorem kX8_53 : Jvm.Cond.constantLong RX8 53 (770255983) ∈ ab_U := ab_t3 (i := 119) (by decide +kernel) (by decide +kernel)
theorem kX8_55 : Jvm.Cond.constantLong RX8 55 (1249150122) ∈ ab_U := ab_t3 (i := 120) (by decide +kernel) (by decide +kernel)
theorem kX8_57 : Jvm.Cond.constantLong RX8 57 (1555081692) ∈ ab_U := ab_t3 (i := 121) (by decide +kernel) (by decide +kernel)
theorem kX8_59 : Jvm.Cond.constantLong RX8 59 (1996064986) ∈ ab_U := ab_t3 (i := 122) (by decide +kernel) (by decide +kernel)
theorem kX8_61 : Jvm.Cond.constantLong RX8 61 (2554220882) ∈ ab_U := ab_t3 (i := 123) (by decide +kernel) (by decide +kernel)
theorem kX8_63 : Jvm.Cond.constantLong RX8 63 (2821834349) ∈ ab_U := ab_t3 (i := 124) (by decide +kernel) (by decide +kernel)
theorem kX8_65 : Jvm.Cond.constantLong RX8 65 (2952996808) ∈ ab_U := ab_t3 (i := 125) (by decide +kernel) (by decide +kernel)
theorem kX8_67 : Jvm.Cond.constantLong RX8 67 (3210313671) ∈ ab_U := ab_t3 (i := 126) (by decide +kernel) (by decide +kernel)
theorem kX8_69 : Jvm.Cond.constantLong RX8 69 (3336571891) ∈ ab_U := ab_t3 (i := 127) (by decide +kernel) (by decide +kernel)
theorem kX8_71 : Jvm.Cond.constantLong RX8 71 (3584528711) ∈ ab_U := ab_t3 (i := 128) (by decide +kernel) (by decide +kernel)
theorem kX8_73 : Jvm.Cond.constantLong RX8 73 (113926993) ∈ ab_U := ab_t3 (i := 129) (by decide +kernel) (by decide +kernel)
theorem kX8_75 : Jvm.Cond.constantLong RX8 75 (338241895) ∈ ab_U := ab_t3 (i := 130) (by decide +kernel) (by decide +kernel)
theorem kX8_77 : Jvm.Cond.constantLong RX8 77 (666307205) ∈ ab_U := ab_t3 (i := 131) (by decide +kernel) (by decide +kernel)
theorem kX8_79 : Jvm.Cond.constantLong RX8 79 (773529912) ∈ ab_U := ab_t3 (i := 132) (by decide +kernel) (by decide +kernel)
theorem kX8_81 : Jvm.Cond.constantLong RX8 81 (1294757372) ∈ ab_U := ab_t3 (i := 133) (by decide +kernel) (by decide +kernel)
theorem kX8_83 : Jvm.Cond.constantLong RX8 83 (1396182291) ∈ ab_U := ab_t3 (i := 134) (by decide +kernel) (by decide +kernel)
theorem kX8_85 : Jvm.Cond.constantLong RX8 85 (1695183700) ∈ ab_U := ab_t3 (i := 135) (by decide +kernel) (by decide +kernel)
theorem kX8_87 : Jvm.Cond.constantLong RX8 87 (1986661051) ∈ ab_U := ab_t3 (i := 136) (by decide +kernel) (by decide +kernel)
theorem kX8_89 : Jvm.Cond.constantLong RX8 89 (2177026350) ∈ ab_U := ab_t3 (i := 137) (by decide +kernel) (by decide +kernel)
theorem kX8_91 : Jvm.Cond.constantLong RX8 91 (2456956037) ∈ ab_U := ab_t3 (i := 138) (by decide +kernel) (by decide +kernel)
theorem kX8_93 : Jvm.Cond.constantLong RX8 93 (2730485921) ∈ ab_U := ab_t3 (i := 139) (by decide +kernel) (by decide +kernel)
theorem kX8_95 : Jvm.Cond.constantLong RX8 95 (2820302411) ∈ ab_U := ab_t3 (i := 140) (by decide +kernel) (by decide +kernel)
theorem kX8_97 : Jvm.Cond.constantLong RX8 97 (3259730800) ∈ ab_U := ab_t3 (i := 141) (by decide +kernel) (by decide +kernel)
theorem kX8_99 : Jvm.Cond.constantLong RX8 99 (3345764771) ∈ ab_U := ab_t3 (i := 142) (by decide +kernel) (by decide +kernel)
theorem kX8_101 : Jvm.Cond.constantLong RX8 101 (3516065817) ∈ ab_U := ab_t3 (i := 143) (by decide +kernel) (by decide +kernel)
theorem kX8_103 : Jvm.Cond.constantLong RX8 103 (3600352804) ∈ ab_U := ab_t3 (i := 144) (by decide +kernel) (by decide +kernel)
theorem kX8_105 : Jvm.Cond.constantLong RX8 105 (4094571909) ∈ ab_U := ab_t3 (i := 145) (by decide +kernel) (by decide +kernel)
theorem kX8_107 : Jvm.Cond.constantLong RX8 107 (275423344) ∈ ab_U := ab_t3 (i := 146) (by decide +kernel) (by decide +kernel)
theorem kX8_109 : Jvm.Cond.constantLong RX8 109 (430227734) ∈ ab_U := ab_t3 (i := 147) (by decide +kernel) (by decide +kernel)
theorem kX8_111 : Jvm.Cond.constantLong RX8 111 (506948616) ∈ ab_U := ab_t3 (i := 148) (by decide +kernel) (by decide +kernel)
theorem kX8_113 : Jvm.Cond.constantLong RX8 113 (659060556) ∈ ab_U := ab_t3 (i := 149) (by decide +kernel) (by decide +kernel)
theorem kX8_115 : Jvm.Cond.constantLong RX8 115 (883997877) ∈ ab_U := ab_t3 (i := 150) (by decide +kernel) (by decide +kernel)
theorem kX8_117 : Jvm.Cond.constantLong RX8 117 (958139571) ∈ ab_U := ab_t3 (i := 151) (by decide +kernel) (by decide +kernel)
theorem kX8_119 : Jvm.Cond.constantLong RX8 119 (1322822218) ∈ ab_U := ab_t3 (i := 152) (by decide +kernel) (by decide +kernel)
theorem kX8_121 : Jvm.Cond.constantLong RX8 121 (1537002063) ∈ ab_U := ab_t3 (i := 153) (by decide +kernel) (by decide +kernel)
theorem kX8_123 : Jvm.Cond.constantLong RX8 123 (1747873779) ∈ ab_U := ab_t3 (i := 154) (by decide +kernel) (by decide +kernel)
theorem kX8_125 : Jvm.Cond.constantLong RX8 125 (1955562222) ∈ ab_U := ab_t3 (i := 155) (by decide +kernel) (by decide +kernel)
theorem kX8_127 : Jvm.Cond.constantLong RX8 127 (2024104815) ∈ ab_U := ab_t3 (i := 156) (by decide +kernel) (by decide +kernel)
theorem kX8_129 : Jvm.Cond.constantLong RX8 129 (2227730452) ∈ ab_U := ab_t3 (i := 157) (by decide +kernel) (by decide +kernel)
theorem kX8_131 : Jvm.Cond.constantLong RX8 131 (2361852424) ∈ ab_U := ab_t3 (i := 158) (by decide +kernel) (by decide +kernel)
theorem kX8_133 : Jvm.Cond.constantLong RX8 133 (2428436474) ∈ ab_U := ab_t3 (i := 159) (by decide +kernel) (by decide +kernel)
theorem kX8_135 : Jvm.Cond.constantLong RX8 135 (2756734187) ∈ ab_U := ab_t3 (i := 160) (by decide +kernel) (by decide +kernel)
theorem kX8_137 : Jvm.Cond.constantLong RX8 137 (3204031479) ∈ ab_U := ab_t3 (i := 161) (by decide +kernel) (by decide +kernel)
theorem kX8_139 : Jvm.Cond.constantLong RX8 139 (3329325298) ∈ ab_U := ab_t3 (i := 162) (by decide +kernel) (by decide +kernel)
theorem kX8_206 : Jvm.Cond.constantLong RX8 206 (4294967295) ∈ ab_U := ab_t3 (i := 184) (by decide +kernel) (by decide +kernel)
theorem kX8_208 : Jvm.Cond.constantLong RX8 208 (1779033703) ∈ ab_U := ab_t3 (i := 167) (by decide +kernel) (by decide +kernel)
theorem kX8_210 : Jvm.Cond.constantLong RX8 210 (3144134277) ∈ ab_U := ab_t3 (i := 168) (by decide +kernel) (by decide +kernel)
theorem kX8_212 : Jvm.Cond.constantLong RX8 212 (1013904242) ∈ ab_U := ab_t3 (i := 169) (by decide +kernel) (by decide +kernel)
theorem kX8_214 : Jvm.Cond.constantLong RX8 214 (2773480762) ∈ ab_U := ab_t3 (i := 170) (by decide +kernel) (by decide +kernel)
theorem kX8_216 : Jvm.Cond.constantLong RX8 216 (1359893119) ∈ ab_U := ab_t3 (i := 171) (by decide +kernel) (by decide +kernel)
theorem kX8_218 : Jvm.Cond.constantLong RX8 218 (2600822924) ∈ ab_U := ab_t3 (i := 172) (by decide +kernel) (by decide +kernel)
theorem kX8_220 : Jvm.Cond.constantLong RX8 220 (528734635) ∈ ab_U := ab_t3 (i := 173) (by decide +kernel) (by decide +kernel)
theorem kX8_222 : Jvm.Cond.constantLong RX8 222 (1541459225) ∈ ab_U := ab_t3 (i := 174) (by decide +kernel) (by decide +kernel)
theorem kX8_224 : Jvm.Cond.constantLong RX8 224 (8) ∈ ab_U := ab_t3 (i := 175) (by decide +kernel) (by decide +kernel)
theorem kX8_229 : Jvm.Cond.constantLong RX8 229 (256) ∈ ab_U := ab_t3 (i := 180) (by decide +kernel) (by decide +kernel)
theorem kX8_260 : Jvm.Cond.constantLong RX8 260 (255) ∈ ab_U := ab_t4 (i := 72) (by decide +kernel) (by decide +kernel)
theorem ab_obj1 : Cond.instanceMethod Lib.objectInit ∈ ab_U := ab_t1 (i := 23) (by decide +kernel) (by decide +kernel)
theorem ab_obj2 : Cond.code Lib.objectInit ⟨#[0xb1]⟩ 1 none ∈ ab_U := ab_t1 (i := 24) (by decide +kernel) (by decide +kernel)
theorem ab_max1 : Cond.static Lib.Math.max.name ∈ ab_U := ab_t2 (i := 130) (by decide +kernel) (by decide +kernel)
theorem ab_max2 : Cond.code Lib.Math.max.name Lib.Math.max.code 2 (some .int) ∈ ab_U := ab_t2 (i := 131) (by decide +kernel) (by decide +kernel)
theorem ab_min1 : Cond.static Lib.Math.min.name ∈ ab_U := ab_t2 (i := 123) (by decide +kernel) (by decide +kernel)
theorem ab_min2 : Cond.code Lib.Math.min.name Lib.Math.min.code 2 (some .int) ∈ ab_U := ab_t2 (i := 124) (by decide +kernel) (by decide +kernel)
theorem ab_ma : Cond.initialized "java/lang/Math" ∈ ab_U := ab_t1 (i := 11) (by decide +kernel) (by decide +kernel)
theorem ab_cp : Cond.native arraycopyName ∈ ab_U ∧ Cond.static arraycopyName ∈ ab_U ∧ Cond.initialized "java/lang/System" ∈ ab_U := ⟨ab_t2 (i := 41) (by decide +kernel) (by decide +kernel), ab_t2 (i := 40) (by decide +kernel) (by decide +kernel), ab_t1 (i := 10) (by decide +kernel) (by decide +kernel)⟩
theorem oX0_3 : Cond.methodLink RX0 3 Lib.objectInit ∈ ab_U ∧ Cond.instanceMethod Lib.objectInit ∈ ab_U ∧ Cond.code Lib.objectInit ⟨#[0xb1]⟩ 1 none ∈ ab_U := ⟨ab_t1 (i := 140) (by decide +kernel) (by decide +kernel), ab_obj1, ab_obj2⟩
theorem oX1_3 : Cond.methodLink RX1 3 Lib.objectInit ∈ ab_U ∧ Cond.instanceMethod Lib.objectInit ∈ ab_U ∧ Cond.code Lib.objectInit ⟨#[0xb1]⟩ 1 none ∈ ab_U := ⟨ab_t1 (i := 56) (by decide +kernel) (by decide +kernel), ab_obj1, ab_obj2⟩
theorem oX2_3 : Cond.methodLink RX2 3 Lib.objectInit ∈ ab_U ∧ Cond.instanceMethod Lib.objectInit ∈ ab_U ∧ Cond.code Lib.objectInit ⟨#[0xb1]⟩ 1 none ∈ ab_U := ⟨ab_t1 (i := 50) (by decide +kernel) (by decide +kernel), ab_obj1, ab_obj2⟩
theorem uX2_45 : Cond.methodLink RX2 45 arraycopyName ∈ ab_U ∧ Cond.native arraycopyName ∈ ab_U ∧ Cond.static arraycopyName ∈ ab_U ∧ Cond.initialized "java/lang/System" ∈ ab_U := ⟨ab_t2 (i := 39) (by decide +kernel) (by decide +kernel), ab_cp⟩
theorem oX3_3 : Cond.methodLink RX3 3 Lib.objectInit ∈ ab_U ∧ Cond.instanceMethod Lib.objectInit ∈ ab_U ∧ Cond.code Lib.objectInit ⟨#[0xb1]⟩ 1 none ∈ ab_U := ⟨ab_t1 (i := 115) (by decide +kernel) (by decide +kernel), ab_obj1, ab_obj2⟩
theorem uX3_68 : Cond.methodLink RX3 68 arraycopyName ∈ ab_U ∧ Cond.native arraycopyName ∈ ab_U ∧ Cond.static arraycopyName ∈ ab_U ∧ Cond.initialized "java/lang/System" ∈ ab_U := ⟨ab_t2 (i := 139) (by decide +kernel) (by decide +kernel), ab_cp⟩
theorem uX3_78 : Cond.methodLink RX3 78 Lib.Math.max.name ∈ ab_U ∧ Cond.static Lib.Math.max.name ∈ ab_U ∧ Cond.initialized "java/lang/Math" ∈ ab_U ∧ Cond.code Lib.Math.max.name Lib.Math.max.code 2 (some .int) ∈ ab_U := ⟨ab_t2 (i := 129) (by decide +kernel) (by decide +kernel), ab_max1, ab_ma, ab_max2⟩
theorem uX3_84 : Cond.methodLink RX3 84 Lib.Math.min.name ∈ ab_U ∧ Cond.static Lib.Math.min.name ∈ ab_U ∧ Cond.initialized "java/lang/Math" ∈ ab_U ∧ Cond.code Lib.Math.min.name Lib.Math.min.code 2 (some .int) ∈ ab_U := ⟨ab_t2 (i := 122) (by decide +kernel) (by decide +kernel), ab_min1, ab_ma, ab_min2⟩
theorem oX4_3 : Cond.methodLink RX4 3 Lib.objectInit ∈ ab_U ∧ Cond.instanceMethod Lib.objectInit ∈ ab_U ∧ Cond.code Lib.objectInit ⟨#[0xb1]⟩ 1 none ∈ ab_U := ⟨ab_t1 (i := 101) (by decide +kernel) (by decide +kernel), ab_obj1, ab_obj2⟩
theorem uX4_49 : Cond.methodLink RX4 49 Lib.Math.max.name ∈ ab_U ∧ Cond.static Lib.Math.max.name ∈ ab_U ∧ Cond.initialized "java/lang/Math" ∈ ab_U ∧ Cond.code Lib.Math.max.name Lib.Math.max.code 2 (some .int) ∈ ab_U := ⟨ab_t2 (i := 153) (by decide +kernel) (by decide +kernel), ab_max1, ab_ma, ab_max2⟩
theorem oX5_3 : Cond.methodLink RX5 3 Lib.objectInit ∈ ab_U ∧ Cond.instanceMethod Lib.objectInit ∈ ab_U ∧ Cond.code Lib.objectInit ⟨#[0xb1]⟩ 1 none ∈ ab_U := ⟨ab_t1 (i := 134) (by decide +kernel) (by decide +kernel), ab_obj1, ab_obj2⟩
theorem uX5_29 : Cond.methodLink RX5 29 arraycopyName ∈ ab_U ∧ Cond.native arraycopyName ∈ ab_U ∧ Cond.static arraycopyName ∈ ab_U ∧ Cond.initialized "java/lang/System" ∈ ab_U := ⟨ab_t2 (i := 172) (by decide +kernel) (by decide +kernel), ab_cp⟩
theorem oX6_3 : Cond.methodLink RX6 3 Lib.objectInit ∈ ab_U ∧ Cond.instanceMethod Lib.objectInit ∈ ab_U ∧ Cond.code Lib.objectInit ⟨#[0xb1]⟩ 1 none ∈ ab_U := ⟨ab_t1 (i := 30) (by decide +kernel) (by decide +kernel), ab_obj1, ab_obj2⟩
theorem uX6_28 : Cond.methodLink RX6 28 arraycopyName ∈ ab_U ∧ Cond.native arraycopyName ∈ ab_U ∧ Cond.static arraycopyName ∈ ab_U ∧ Cond.initialized "java/lang/System" ∈ ab_U := ⟨ab_t2 (i := 77) (by decide +kernel) (by decide +kernel), ab_cp⟩
theorem oX7_1 : Cond.methodLink RX7 1 Lib.objectInit ∈ ab_U ∧ Cond.instanceMethod Lib.objectInit ∈ ab_U ∧ Cond.code Lib.objectInit ⟨#[0xb1]⟩ 1 none ∈ ab_U := ⟨ab_t1 (i := 22) (by decide +kernel) (by decide +kernel), ab_obj1, ab_obj2⟩
theorem oX8_7 : Cond.methodLink RX8 7 Lib.objectInit ∈ ab_U ∧ Cond.instanceMethod Lib.objectInit ∈ ab_U ∧ Cond.code Lib.objectInit ⟨#[0xb1]⟩ 1 none ∈ ab_U := ⟨ab_t3 (i := 98) (by decide +kernel) (by decide +kernel), ab_obj1, ab_obj2⟩
-- no code word: L_octet
theorem zX0_hasPoints : ab_cl0 mX0_hasPoints := ⟨ab_t1 (i := 239) (by decide +kernel) (by decide +kernel), jC1, by decide, by decide, by decide⟩
theorem zX0_hasSizesOf : ab_cl0 mX0_hasSizesOf := ⟨ab_t2 (i := 218) (by decide +kernel) (by decide +kernel), jC1, by decide, by decide, by decide⟩
theorem zX0_holds : ab_cl0 mX0_holds := ⟨ab_t2 (i := 10) (by decide +kernel) (by decide +kernel), jC1, by decide, by decide, by decide⟩
theorem zX0_init : ab_cl0 mX0_init := ⟨ab_t1 (i := 139) (by decide +kernel) (by decide +kernel), jC1, by decide, by decide, by decide⟩
theorem zX0_insert : ab_cl0 mX0_insert := ⟨ab_t2 (i := 17) (by decide +kernel) (by decide +kernel), jC1, by decide, by decide, by decide⟩
theorem zX0_isPoint : ab_cl0 mX0_isPoint := ⟨ab_t2 (i := 3) (by decide +kernel) (by decide +kernel), jC1, by decide, by decide, by decide⟩
theorem zX0_remove : ab_cl0 mX0_remove := ⟨ab_t2 (i := 28) (by decide +kernel) (by decide +kernel), jC1, by decide, by decide, by decide⟩
theorem zX1_arrange : ab_cl0 mX1_arrange := ⟨ab_t2 (i := 45) (by decide +kernel) (by decide +kernel), jC2, by decide, by decide, by decide⟩
theorem zX1_compareHashes : ab_cl0 mX1_compareHashes := ⟨ab_t2 (i := 49) (by decide +kernel) (by decide +kernel), jC2, by decide, by decide, by decide⟩
theorem zX1_hasHashesOf : ab_cl0 mX1_hasHashesOf := ⟨ab_t2 (i := 222) (by decide +kernel) (by decide +kernel), jC2, by decide, by decide, by decide⟩
theorem zX1_init : ab_cl0 mX1_init := ⟨ab_t1 (i := 55) (by decide +kernel) (by decide +kernel), jC2, by decide, by decide, by decide⟩
theorem zX1_namings : ab_cl0 mX1_namings := ⟨ab_t2 (i := 105) (by decide +kernel) (by decide +kernel), jC2, by decide, by decide, by decide⟩
theorem zX1_sizeOf : ab_cl0 mX1_sizeOf := ⟨ab_t2 (i := 109) (by decide +kernel) (by decide +kernel), jC2, by decide, by decide, by decide⟩
theorem zX2_describe : ab_cl0 mX2_describe := ⟨ab_t2 (i := 58) (by decide +kernel) (by decide +kernel), jC3, by decide, by decide, by decide⟩
theorem zX2_init : ab_cl0 mX2_init := ⟨ab_t1 (i := 49) (by decide +kernel) (by decide +kernel), jC3, by decide, by decide, by decide⟩
theorem zX2_makesMore : ab_cl0 mX2_makesMore := ⟨ab_t2 (i := 54) (by decide +kernel) (by decide +kernel), jC3, by decide, by decide, by decide⟩
theorem zX2_partFor : ab_cl0 mX2_partFor := ⟨ab_t2 (i := 67) (by decide +kernel) (by decide +kernel), jC3, by decide, by decide, by decide⟩
theorem zX2_putContent : ab_cl0 mX2_putContent := ⟨ab_t2 (i := 81) (by decide +kernel) (by decide +kernel), jC3, by decide, by decide, by decide⟩
theorem zX2_refresh : ab_cl0 mX2_refresh := ⟨ab_t2 (i := 36) (by decide +kernel) (by decide +kernel), jC3, by decide, by decide, by decide⟩
theorem zX2_takeRound : ab_cl0 mX2_takeRound := ⟨ab_t2 (i := 101) (by decide +kernel) (by decide +kernel), jC3, by decide, by decide, by decide⟩
theorem zX3_compare : ab_cl0 mX3_compare := ⟨ab_t2 (i := 134) (by decide +kernel) (by decide +kernel), jC4, by decide, by decide, by decide⟩
theorem zX3_find : ab_cl0 mX3_find := ⟨ab_t2 (i := 113) (by decide +kernel) (by decide +kernel), jC4, by decide, by decide, by decide⟩
theorem zX3_greatestDifference : ab_cl0 mX3_greatestDifference := ⟨ab_t2 (i := 143) (by decide +kernel) (by decide +kernel), jC4, by decide, by decide, by decide⟩
theorem zX3_init : ab_cl0 mX3_init := ⟨ab_t1 (i := 114) (by decide +kernel) (by decide +kernel), jC4, by decide, by decide, by decide⟩
theorem zX3_layTrial : ab_cl0 mX3_layTrial := ⟨ab_t2 (i := 121) (by decide +kernel) (by decide +kernel), jC4, by decide, by decide, by decide⟩
theorem zX3_search : ab_cl0 mX3_search := ⟨ab_t2 (i := 117) (by decide +kernel) (by decide +kernel), jC4, by decide, by decide, by decide⟩
theorem zX3_settle : ab_cl0 mX3_settle := ⟨ab_t2 (i := 138) (by decide +kernel) (by decide +kernel), jC4, by decide, by decide, by decide⟩
theorem zX4_automorphisms : ab_cl0 mX4_automorphisms := ⟨ab_t2 (i := 176) (by decide +kernel) (by decide +kernel), jC5, by decide, by decide, by decide⟩
theorem zX4_completes : ab_cl0 mX4_completes := ⟨ab_t2 (i := 163) (by decide +kernel) (by decide +kernel), jC5, by decide, by decide, by decide⟩
theorem zX4_fits : ab_cl0 mX4_fits := ⟨ab_t2 (i := 167) (by decide +kernel) (by decide +kernel), jC5, by decide, by decide, by decide⟩
theorem zX4_init : ab_cl0 mX4_init := ⟨ab_t1 (i := 100) (by decide +kernel) (by decide +kernel), jC5, by decide, by decide, by decide⟩
theorem zX4_keepsTriples : ab_cl0 mX4_keepsTriples := ⟨ab_t2 (i := 157) (by decide +kernel) (by decide +kernel), jC5, by decide, by decide, by decide⟩
theorem zX4_matches : ab_cl0 mX4_matches := ⟨ab_t2 (i := 147) (by decide +kernel) (by decide +kernel), jC5, by decide, by decide, by decide⟩
theorem zX4_readLasts : ab_cl0 mX4_readLasts := ⟨ab_t2 (i := 151) (by decide +kernel) (by decide +kernel), jC5, by decide, by decide, by decide⟩
theorem zX5_adopt : ab_cl0 mX5_adopt := ⟨ab_t2 (i := 171) (by decide +kernel) (by decide +kernel), jC6, by decide, by decide, by decide⟩
theorem zX5_init : ab_cl0 mX5_init := ⟨ab_t1 (i := 133) (by decide +kernel) (by decide +kernel), jC6, by decide, by decide, by decide⟩
theorem zX5_refreshDigest : ab_cl0 mX5_refreshDigest := ⟨ab_t3 (i := 84) (by decide +kernel) (by decide +kernel), jC6, by decide, by decide, by decide⟩
theorem zX6_begin : ab_cl0 mX6_begin := ⟨ab_t2 (i := 74) (by decide +kernel) (by decide +kernel), jC7, by decide, by decide, by decide⟩
theorem zX6_end : ab_cl0 mX6_end := ⟨ab_t2 (i := 96) (by decide +kernel) (by decide +kernel), jC7, by decide, by decide, by decide⟩
theorem zX6_init : ab_cl0 mX6_init := ⟨ab_t1 (i := 29) (by decide +kernel) (by decide +kernel), jC7, by decide, by decide, by decide⟩
theorem zX6_mix : ab_cl0 mX6_mix := ⟨ab_t2 (i := 89) (by decide +kernel) (by decide +kernel), jC7, by decide, by decide, by decide⟩
theorem zX6_put : ab_cl0 mX6_put := ⟨ab_t2 (i := 85) (by decide +kernel) (by decide +kernel), jC7, by decide, by decide, by decide⟩
theorem zX7_becomes : ab_cl0 mX7_becomes := ⟨ab_t2 (i := 214) (by decide +kernel) (by decide +kernel), jC8, by decide, by decide, by decide⟩
theorem zX7_blank : ab_cl0 mX7_blank := ⟨ab_t1 (i := 231) (by decide +kernel) (by decide +kernel), jC8, by decide, by decide, by decide⟩
theorem zX7_blanks : ab_cl0 mX7_blanks := ⟨ab_t3 (i := 1) (by decide +kernel) (by decide +kernel), jC8, by decide, by decide, by decide⟩
theorem zX7_drop : ab_cl0 mX7_drop := ⟨ab_t2 (i := 24) (by decide +kernel) (by decide +kernel), jC8, by decide, by decide, by decide⟩
theorem zX7_equal : ab_cl0 mX7_equal := ⟨ab_t2 (i := 230) (by decide +kernel) (by decide +kernel), jC8, by decide, by decide, by decide⟩
theorem zX7_first : ab_cl0 mX7_first := ⟨ab_t2 (i := 197) (by decide +kernel) (by decide +kernel), jC8, by decide, by decide, by decide⟩
theorem zX7_form : ab_cl0 mX7_form := ⟨ab_t2 (i := 184) (by decide +kernel) (by decide +kernel), jC8, by decide, by decide, by decide⟩
theorem zX7_hash : ab_cl0 mX7_hash := ⟨ab_t2 (i := 189) (by decide +kernel) (by decide +kernel), jC8, by decide, by decide, by decide⟩
theorem zX7_init : ab_cl0 mX7_init := ⟨ab_t1 (i := 21) (by decide +kernel) (by decide +kernel), jC8, by decide, by decide, by decide⟩
theorem zX7_isIn : ab_cl0 mX7_isIn := ⟨ab_t2 (i := 13) (by decide +kernel) (by decide +kernel), jC8, by decide, by decide, by decide⟩
theorem zX7_isomorphic : ab_cl0 mX7_isomorphic := ⟨ab_t2 (i := 206) (by decide +kernel) (by decide +kernel), jC8, by decide, by decide, by decide⟩
theorem zX7_keep : ab_cl0 mX7_keep := ⟨ab_t2 (i := 202) (by decide +kernel) (by decide +kernel), jC8, by decide, by decide, by decide⟩
theorem zX7_keptAt : ab_cl0 mX7_keptAt := ⟨ab_t2 (i := 210) (by decide +kernel) (by decide +kernel), jC8, by decide, by decide, by decide⟩
theorem zX7_keyOf : ab_cl0 mX7_keyOf := ⟨ab_t2 (i := 6) (by decide +kernel) (by decide +kernel), jC8, by decide, by decide, by decide⟩
theorem zX7_name : ab_cl0 mX7_name := ⟨ab_t2 (i := 32) (by decide +kernel) (by decide +kernel), jC8, by decide, by decide, by decide⟩
theorem zX7_named : ab_cl0 mX7_named := ⟨ab_t2 (i := 180) (by decide +kernel) (by decide +kernel), jC8, by decide, by decide, by decide⟩
theorem zX7_octet : ab_cl0 mX7_octet := ⟨ab_t3 (i := 9) (by decide +kernel) (by decide +kernel), jC8, by decide, by decide, by decide⟩
theorem zX7_partAt : ab_cl0 mX7_partAt := ⟨ab_t2 (i := 64) (by decide +kernel) (by decide +kernel), jC8, by decide, by decide, by decide⟩
theorem zX7_placeFor : ab_cl0 mX7_placeFor := ⟨ab_t2 (i := 20) (by decide +kernel) (by decide +kernel), jC8, by decide, by decide, by decide⟩
theorem zX7_pointAt : ab_cl0 mX7_pointAt := ⟨ab_t2 (i := 61) (by decide +kernel) (by decide +kernel), jC8, by decide, by decide, by decide⟩
theorem zX7_renumbered : ab_cl0 mX7_renumbered := ⟨ab_t2 (i := 127) (by decide +kernel) (by decide +kernel), jC8, by decide, by decide, by decide⟩
theorem zX7_rounds : ab_cl0 mX7_rounds := ⟨ab_t2 (i := 193) (by decide +kernel) (by decide +kernel), jC8, by decide, by decide, by decide⟩
theorem zX7_sameRows : ab_cl0 mX7_sameRows := ⟨ab_t2 (i := 233) (by decide +kernel) (by decide +kernel), jC8, by decide, by decide, by decide⟩
theorem zX7_sort : ab_cl0 mX7_sort := ⟨ab_t2 (i := 70) (by decide +kernel) (by decide +kernel), jC8, by decide, by decide, by decide⟩
theorem zX7_triple : ab_cl0 mX7_triple := ⟨ab_t1 (i := 235) (by decide +kernel) (by decide +kernel), jC8, by decide, by decide, by decide⟩
theorem zX7_triples : ab_cl0 mX7_triples := ⟨ab_t2 (i := 237) (by decide +kernel) (by decide +kernel), jC8, by decide, by decide, by decide⟩
theorem zX7_ways : ab_cl0 mX7_ways := ⟨ab_t2 (i := 226) (by decide +kernel) (by decide +kernel), jC8, by decide, by decide, by decide⟩
theorem zX8_at : ab_cl0 mX8_at := ⟨ab_t4 (i := 51) (by decide +kernel) (by decide +kernel), jC9, by decide, by decide, by decide⟩
theorem zX8_becomes : ab_cl0 mX8_becomes := ⟨ab_t4 (i := 174) (by decide +kernel) (by decide +kernel), jC9, by decide, by decide, by decide⟩
theorem zX8_begin : ab_cl0 mX8_begin := ⟨ab_t4 (i := 115) (by decide +kernel) (by decide +kernel), jC9, by decide, by decide, by decide⟩
theorem zX8_blank : ab_cl0 mX8_blank := ⟨ab_t4 (i := 36) (by decide +kernel) (by decide +kernel), jC9, by decide, by decide, by decide⟩
theorem zX8_blanks : ab_cl0 mX8_blanks := ⟨ab_t4 (i := 191) (by decide +kernel) (by decide +kernel), jC9, by decide, by decide, by decide⟩
theorem zX8_block : ab_cl0 mX8_block := ⟨ab_t3 (i := 179) (by decide +kernel) (by decide +kernel), jC9, by decide, by decide, by decide⟩
theorem zX8_change : ab_cl0 mX8_change := ⟨ab_t4 (i := 146) (by decide +kernel) (by decide +kernel), jC9, by decide, by decide, by decide⟩
theorem zX8_compare : ab_cl0 mX8_compare := ⟨ab_t4 (i := 91) (by decide +kernel) (by decide +kernel), jC9, by decide, by decide, by decide⟩
theorem zX8_compareForm : ab_cl0 mX8_compareForm := ⟨ab_t4 (i := 134) (by decide +kernel) (by decide +kernel), jC9, by decide, by decide, by decide⟩
theorem zX8_compareTriples : ab_cl0 mX8_compareTriples := ⟨ab_t4 (i := 130) (by decide +kernel) (by decide +kernel), jC9, by decide, by decide, by decide⟩
theorem zX8_describe : ab_cl0 mX8_describe := ⟨ab_t4 (i := 71) (by decide +kernel) (by decide +kernel), jC9, by decide, by decide, by decide⟩
theorem zX8_different : ab_cl0 mX8_different := ⟨ab_t4 (i := 88) (by decide +kernel) (by decide +kernel), jC9, by decide, by decide, by decide⟩
theorem zX8_digestOf : ab_cl0 mX8_digestOf := ⟨ab_t3 (i := 166) (by decide +kernel) (by decide +kernel), jC9, by decide, by decide, by decide⟩
theorem zX8_drop : ab_cl0 mX8_drop := ⟨ab_t4 (i := 55) (by decide +kernel) (by decide +kernel), jC9, by decide, by decide, by decide⟩
theorem zX8_equal : ab_cl0 mX8_equal := ⟨ab_t4 (i := 183) (by decide +kernel) (by decide +kernel), jC9, by decide, by decide, by decide⟩
theorem zX8_find : ab_cl0 mX8_find := ⟨ab_t4 (i := 48) (by decide +kernel) (by decide +kernel), jC9, by decide, by decide, by decide⟩
theorem zX8_first : ab_cl0 mX8_first := ⟨ab_t4 (i := 103) (by decide +kernel) (by decide +kernel), jC9, by decide, by decide, by decide⟩
theorem zX8_form : ab_cl0 mX8_form := ⟨ab_t4 (i := 154) (by decide +kernel) (by decide +kernel), jC9, by decide, by decide, by decide⟩
theorem zX8_hash : ab_cl0 mX8_hash := ⟨ab_t4 (i := 59) (by decide +kernel) (by decide +kernel), jC9, by decide, by decide, by decide⟩
theorem zX8_init : ab_cl0 mX8_init := ⟨ab_t3 (i := 97) (by decide +kernel) (by decide +kernel), jC9, by decide, by decide, by decide⟩
theorem zX8_isBefore : ab_cl0 mX8_isBefore := ⟨ab_t4 (i := 84) (by decide +kernel) (by decide +kernel), jC9, by decide, by decide, by decide⟩
theorem zX8_isKept : ab_cl0 mX8_isKept := ⟨ab_t4 (i := 170) (by decide +kernel) (by decide +kernel), jC9, by decide, by decide, by decide⟩
theorem zX8_isNaming : ab_cl0 mX8_isNaming := ⟨ab_t4 (i := 119) (by decide +kernel) (by decide +kernel), jC9, by decide, by decide, by decide⟩
theorem zX8_isPoint : ab_cl0 mX8_isPoint := ⟨ab_t4 (i := 44) (by decide +kernel) (by decide +kernel), jC9, by decide, by decide, by decide⟩
theorem zX8_isomorphic : ab_cl0 mX8_isomorphic := ⟨ab_t4 (i := 178) (by decide +kernel) (by decide +kernel), jC9, by decide, by decide, by decide⟩
theorem zX8_keep : ab_cl0 mX8_keep := ⟨ab_t4 (i := 162) (by decide +kernel) (by decide +kernel), jC9, by decide, by decide, by decide⟩
theorem zX8_makeGroups : ab_cl0 mX8_makeGroups := ⟨ab_t4 (i := 95) (by decide +kernel) (by decide +kernel), jC9, by decide, by decide, by decide⟩
theorem zX8_makeHashes : ab_cl0 mX8_makeHashes := ⟨ab_t4 (i := 63) (by decide +kernel) (by decide +kernel), jC9, by decide, by decide, by decide⟩
theorem zX8_makeRow : ab_cl0 mX8_makeRow := ⟨ab_t4 (i := 123) (by decide +kernel) (by decide +kernel), jC9, by decide, by decide, by decide⟩
theorem zX8_name : ab_cl0 mX8_name := ⟨ab_t4 (i := 107) (by decide +kernel) (by decide +kernel), jC9, by decide, by decide, by decide⟩
theorem zX8_named : ab_cl0 mX8_named := ⟨ab_t4 (i := 150) (by decide +kernel) (by decide +kernel), jC9, by decide, by decide, by decide⟩
theorem zX8_namings : ab_cl0 mX8_namings := ⟨ab_t4 (i := 111) (by decide +kernel) (by decide +kernel), jC9, by decide, by decide, by decide⟩
theorem zX8_next : ab_cl0 mX8_next := ⟨ab_t4 (i := 67) (by decide +kernel) (by decide +kernel), jC9, by decide, by decide, by decide⟩
theorem zX8_numbered : ab_cl0 mX8_numbered := ⟨ab_t4 (i := 127) (by decide +kernel) (by decide +kernel), jC9, by decide, by decide, by decide⟩
theorem zX8_octet : ab_cl0 mX8_octet := ⟨ab_t4 (i := 158) (by decide +kernel) (by decide +kernel), jC9, by decide, by decide, by decide⟩
theorem zX8_octetsOf : ab_cl0 mX8_octetsOf := ⟨ab_t3 (i := 188) (by decide +kernel) (by decide +kernel), jC9, by decide, by decide, by decide⟩
theorem zX8_rounds : ab_cl0 mX8_rounds := ⟨ab_t4 (i := 99) (by decide +kernel) (by decide +kernel), jC9, by decide, by decide, by decide⟩
theorem zX8_say : ab_cl0 mX8_say := ⟨ab_t4 (i := 80) (by decide +kernel) (by decide +kernel), jC9, by decide, by decide, by decide⟩
theorem zX8_sayNumber : ab_cl0 mX8_sayNumber := ⟨ab_t4 (i := 76) (by decide +kernel) (by decide +kernel), jC9, by decide, by decide, by decide⟩
theorem zX8_take : ab_cl0 mX8_take := ⟨ab_t4 (i := 138) (by decide +kernel) (by decide +kernel), jC9, by decide, by decide, by decide⟩
theorem zX8_thrown : ab_cl0 mX8_thrown := ⟨ab_t3 (i := 92) (by decide +kernel) (by decide +kernel), jC9, by decide, by decide, by decide⟩
theorem zX8_triple : ab_cl0 mX8_triple := ⟨ab_t4 (i := 40) (by decide +kernel) (by decide +kernel), jC9, by decide, by decide, by decide⟩
theorem zX8_triples : ab_cl0 mX8_triples := ⟨ab_t4 (i := 187) (by decide +kernel) (by decide +kernel), jC9, by decide, by decide, by decide⟩
theorem zX8_turn : ab_cl0 mX8_turn := ⟨ab_t4 (i := 142) (by decide +kernel) (by decide +kernel), jC9, by decide, by decide, by decide⟩
theorem zX8_turned : ab_cl0 mX8_turned := ⟨ab_t3 (i := 183) (by decide +kernel) (by decide +kernel), jC9, by decide, by decide, by decide⟩
theorem zX8_ways : ab_cl0 mX8_ways := ⟨ab_t4 (i := 166) (by decide +kernel) (by decide +kernel), jC9, by decide, by decide, by decide⟩
end
section
theorem dX0_init_0 : decode cX0_init 0 = .ok (.aload_n 0, 1) := by decide +kernel
theorem dX0_init_1 : decode cX0_init 1 = .ok (.invokespecial 3, 3) := by decide +kernel
theorem dX0_init_4 : decode cX0_init 4 = .ok (.aload_n 0, 1) := by decide +kernel
theorem dX0_init_5 : decode cX0_init 5 = .ok (.bipush 40, 2) := by decide +kernel
theorem dX0_init_7 : decode cX0_init 7 = .ok (.newarray .int, 2) := by decide +kernel
theorem dX0_init_9 : decode cX0_init 9 = .ok (.putfield 9, 3) := by decide +kernel
theorem dX0_init_12 : decode cX0_init 12 = .ok (.aload_n 0, 1) := by decide +kernel
theorem dX0_init_13 : decode cX0_init 13 = .ok (.iconst 0, 1) := by decide +kernel
theorem dX0_init_14 : decode cX0_init 14 = .ok (.putfield 15, 3) := by decide +kernel
theorem dX0_init_17 : decode cX0_init 17 = .ok (.aload_n 0, 1) := by decide +kernel
theorem dX0_init_18 : decode cX0_init 18 = .ok (.iconst 0, 1) := by decide +kernel
theorem dX0_init_19 : decode cX0_init 19 = .ok (.putfield 19, 3) := by decide +kernel
theorem dX0_init_22 : decode cX0_init 22 = .ok (.aload_n 0, 1) := by decide +kernel
theorem dX0_init_23 : decode cX0_init 23 = .ok (.iconst 0, 1) := by decide +kernel
theorem dX0_init_24 : decode cX0_init 24 = .ok (.putfield 22, 3) := by decide +kernel
theorem dX0_init_27 : decode cX0_init 27 = .ok (.aload_n 0, 1) := by decide +kernel
theorem dX0_init_28 : decode cX0_init 28 = .ok (.iconst 0, 1) := by decide +kernel
theorem dX0_init_29 : decode cX0_init 29 = .ok (.putfield 26, 3) := by decide +kernel
theorem dX0_init_32 : decode cX0_init 32 = .ok (.aload_n 0, 1) := by decide +kernel
theorem dX0_init_33 : decode cX0_init 33 = .ok (.new 29, 3) := by decide +kernel
theorem dX0_init_36 : decode cX0_init 36 = .ok (.dup, 1) := by decide +kernel
theorem dX0_init_37 : decode cX0_init 37 = .ok (.invokespecial 31, 3) := by decide +kernel
theorem dX0_init_40 : decode cX0_init 40 = .ok (.putfield 32, 3) := by decide +kernel
theorem dX0_init_43 : decode cX0_init 43 = .ok (.return_, 1) := by decide +kernel
theorem dX0_hasPoints_0 : decode cX0_hasPoints 0 = .ok (.aload_n 0, 1) := by decide +kernel
theorem dX0_hasPoints_1 : decode cX0_hasPoints 1 = .ok (.iload_n 1, 1) := by decide +kernel
theorem dX0_hasPoints_2 : decode cX0_hasPoints 2 = .ok (.invokevirtual 36, 3) := by decide +kernel
theorem dX0_hasPoints_5 : decode cX0_hasPoints 5 = .ok (.ifCond .eq 23, 3) := by decide +kernel
theorem dX0_hasPoints_8 : decode cX0_hasPoints 8 = .ok (.aload_n 0, 1) := by decide +kernel
theorem dX0_hasPoints_9 : decode cX0_hasPoints 9 = .ok (.iload_n 2, 1) := by decide +kernel
theorem dX0_hasPoints_10 : decode cX0_hasPoints 10 = .ok (.invokevirtual 36, 3) := by decide +kernel
theorem dX0_hasPoints_13 : decode cX0_hasPoints 13 = .ok (.ifCond .eq 15, 3) := by decide +kernel
theorem dX0_hasPoints_16 : decode cX0_hasPoints 16 = .ok (.aload_n 0, 1) := by decide +kernel
theorem dX0_hasPoints_17 : decode cX0_hasPoints 17 = .ok (.iload_n 3, 1) := by decide +kernel
theorem dX0_hasPoints_18 : decode cX0_hasPoints 18 = .ok (.invokevirtual 36, 3) := by decide +kernel
theorem dX0_hasPoints_21 : decode cX0_hasPoints 21 = .ok (.ifCond .eq 7, 3) := by decide +kernel
theorem dX0_hasPoints_24 : decode cX0_hasPoints 24 = .ok (.iconst 1, 1) := by decide +kernel
theorem dX0_hasPoints_25 : decode cX0_hasPoints 25 = .ok (.goto 4, 3) := by decide +kernel
theorem dX0_hasPoints_28 : decode cX0_hasPoints 28 = .ok (.iconst 0, 1) := by decide +kernel
theorem dX0_hasPoints_29 : decode cX0_hasPoints 29 = .ok (.ireturn, 1) := by decide +kernel
theorem dX0_isPoint_0 : decode cX0_isPoint 0 = .ok (.iload_n 1, 1) := by decide +kernel
theorem dX0_isPoint_1 : decode cX0_isPoint 1 = .ok (.ifCond .ge 20, 3) := by decide +kernel
theorem dX0_isPoint_4 : decode cX0_isPoint 4 = .ok (.iload_n 1, 1) := by decide +kernel
theorem dX0_isPoint_5 : decode cX0_isPoint 5 = .ok (.aload_n 0, 1) := by decide +kernel
theorem dX0_isPoint_6 : decode cX0_isPoint 6 = .ok (.getfield 15, 3) := by decide +kernel
theorem dX0_isPoint_9 : decode cX0_isPoint 9 = .ok (.ineg, 1) := by decide +kernel
theorem dX0_isPoint_10 : decode cX0_isPoint 10 = .ok (.if_icmp .lt 7, 3) := by decide +kernel
theorem dX0_isPoint_13 : decode cX0_isPoint 13 = .ok (.iconst 1, 1) := by decide +kernel
theorem dX0_isPoint_14 : decode cX0_isPoint 14 = .ok (.goto 24, 3) := by decide +kernel
theorem dX0_isPoint_17 : decode cX0_isPoint 17 = .ok (.iconst 0, 1) := by decide +kernel
theorem dX0_isPoint_18 : decode cX0_isPoint 18 = .ok (.goto 20, 3) := by decide +kernel
theorem dX0_isPoint_21 : decode cX0_isPoint 21 = .ok (.iload_n 1, 1) := by decide +kernel
theorem dX0_isPoint_22 : decode cX0_isPoint 22 = .ok (.iconst 1, 1) := by decide +kernel
theorem dX0_isPoint_23 : decode cX0_isPoint 23 = .ok (.if_icmp .lt 14, 3) := by decide +kernel
theorem dX0_isPoint_26 : decode cX0_isPoint 26 = .ok (.iload_n 1, 1) := by decide +kernel
theorem dX0_isPoint_27 : decode cX0_isPoint 27 = .ok (.sipush 1000, 3) := by decide +kernel
theorem dX0_isPoint_30 : decode cX0_isPoint 30 = .ok (.if_icmp .gt 7, 3) := by decide +kernel
theorem dX0_isPoint_33 : decode cX0_isPoint 33 = .ok (.iconst 1, 1) := by decide +kernel
theorem dX0_isPoint_34 : decode cX0_isPoint 34 = .ok (.goto 4, 3) := by decide +kernel
theorem dX0_isPoint_37 : decode cX0_isPoint 37 = .ok (.iconst 0, 1) := by decide +kernel
theorem dX0_isPoint_38 : decode cX0_isPoint 38 = .ok (.ireturn, 1) := by decide +kernel
theorem dX0_holds_0 : decode cX0_holds 0 = .ok (.iload_n 1, 1) := by decide +kernel
theorem dX0_holds_1 : decode cX0_holds 1 = .ok (.aload_n 0, 1) := by decide +kernel
theorem dX0_holds_2 : decode cX0_holds 2 = .ok (.getfield 9, 3) := by decide +kernel
theorem dX0_holds_5 : decode cX0_holds 5 = .ok (.aload_n 0, 1) := by decide +kernel
theorem dX0_holds_6 : decode cX0_holds 6 = .ok (.getfield 19, 3) := by decide +kernel
theorem dX0_holds_9 : decode cX0_holds 9 = .ok (.invokestatic 40, 3) := by decide +kernel
theorem dX0_holds_12 : decode cX0_holds 12 = .ok (.ireturn, 1) := by decide +kernel
theorem dX0_hasSizesOf_0 : decode cX0_hasSizesOf 0 = .ok (.aload_n 0, 1) := by decide +kernel
theorem dX0_hasSizesOf_1 : decode cX0_hasSizesOf 1 = .ok (.getfield 15, 3) := by decide +kernel
theorem dX0_hasSizesOf_4 : decode cX0_hasSizesOf 4 = .ok (.aload_n 1, 1) := by decide +kernel
theorem dX0_hasSizesOf_5 : decode cX0_hasSizesOf 5 = .ok (.getfield 15, 3) := by decide +kernel
theorem dX0_hasSizesOf_8 : decode cX0_hasSizesOf 8 = .ok (.if_icmp .ne 18, 3) := by decide +kernel
theorem dX0_hasSizesOf_11 : decode cX0_hasSizesOf 11 = .ok (.aload_n 0, 1) := by decide +kernel
theorem dX0_hasSizesOf_12 : decode cX0_hasSizesOf 12 = .ok (.getfield 19, 3) := by decide +kernel
theorem dX0_hasSizesOf_15 : decode cX0_hasSizesOf 15 = .ok (.aload_n 1, 1) := by decide +kernel
theorem dX0_hasSizesOf_16 : decode cX0_hasSizesOf 16 = .ok (.getfield 19, 3) := by decide +kernel
theorem dX0_hasSizesOf_19 : decode cX0_hasSizesOf 19 = .ok (.if_icmp .ne 7, 3) := by decide +kernel
theorem dX0_hasSizesOf_22 : decode cX0_hasSizesOf 22 = .ok (.iconst 1, 1) := by decide +kernel
theorem dX0_hasSizesOf_23 : decode cX0_hasSizesOf 23 = .ok (.goto 4, 3) := by decide +kernel
theorem dX0_hasSizesOf_26 : decode cX0_hasSizesOf 26 = .ok (.iconst 0, 1) := by decide +kernel
theorem dX0_hasSizesOf_27 : decode cX0_hasSizesOf 27 = .ok (.ireturn, 1) := by decide +kernel
theorem dX0_insert_0 : decode cX0_insert 0 = .ok (.iload_n 1, 1) := by decide +kernel
theorem dX0_insert_1 : decode cX0_insert 1 = .ok (.aload_n 0, 1) := by decide +kernel
theorem dX0_insert_2 : decode cX0_insert 2 = .ok (.getfield 9, 3) := by decide +kernel
theorem dX0_insert_5 : decode cX0_insert 5 = .ok (.aload_n 0, 1) := by decide +kernel
theorem dX0_insert_6 : decode cX0_insert 6 = .ok (.getfield 19, 3) := by decide +kernel
theorem dX0_insert_9 : decode cX0_insert 9 = .ok (.invokestatic 44, 3) := by decide +kernel
theorem dX0_insert_12 : decode cX0_insert 12 = .ok (.istore_n 2, 1) := by decide +kernel
theorem dX0_insert_13 : decode cX0_insert 13 = .ok (.aload_n 0, 1) := by decide +kernel
theorem dX0_insert_14 : decode cX0_insert 14 = .ok (.getfield 19, 3) := by decide +kernel
theorem dX0_insert_17 : decode cX0_insert 17 = .ok (.istore_n 3, 1) := by decide +kernel
theorem dX0_insert_18 : decode cX0_insert 18 = .ok (.iload_n 3, 1) := by decide +kernel
theorem dX0_insert_19 : decode cX0_insert 19 = .ok (.iload_n 2, 1) := by decide +kernel
theorem dX0_insert_20 : decode cX0_insert 20 = .ok (.if_icmp .le 23, 3) := by decide +kernel
theorem dX0_insert_23 : decode cX0_insert 23 = .ok (.aload_n 0, 1) := by decide +kernel
theorem dX0_insert_24 : decode cX0_insert 24 = .ok (.getfield 9, 3) := by decide +kernel
theorem dX0_insert_27 : decode cX0_insert 27 = .ok (.iload_n 3, 1) := by decide +kernel
theorem dX0_insert_28 : decode cX0_insert 28 = .ok (.aload_n 0, 1) := by decide +kernel
theorem dX0_insert_29 : decode cX0_insert 29 = .ok (.getfield 9, 3) := by decide +kernel
theorem dX0_insert_32 : decode cX0_insert 32 = .ok (.iload_n 3, 1) := by decide +kernel
theorem dX0_insert_33 : decode cX0_insert 33 = .ok (.iconst 1, 1) := by decide +kernel
theorem dX0_insert_34 : decode cX0_insert 34 = .ok (.isub, 1) := by decide +kernel
theorem dX0_insert_35 : decode cX0_insert 35 = .ok (.iaload, 1) := by decide +kernel
theorem dX0_insert_36 : decode cX0_insert 36 = .ok (.iastore, 1) := by decide +kernel
theorem dX0_insert_37 : decode cX0_insert 37 = .ok (.iinc 3 (-1), 3) := by decide +kernel
theorem dX0_insert_40 : decode cX0_insert 40 = .ok (.goto (-22), 3) := by decide +kernel
theorem dX0_insert_43 : decode cX0_insert 43 = .ok (.aload_n 0, 1) := by decide +kernel
theorem dX0_insert_44 : decode cX0_insert 44 = .ok (.getfield 9, 3) := by decide +kernel
theorem dX0_insert_47 : decode cX0_insert 47 = .ok (.iload_n 2, 1) := by decide +kernel
theorem dX0_insert_48 : decode cX0_insert 48 = .ok (.iload_n 1, 1) := by decide +kernel
theorem dX0_insert_49 : decode cX0_insert 49 = .ok (.iastore, 1) := by decide +kernel
theorem dX0_insert_50 : decode cX0_insert 50 = .ok (.aload_n 0, 1) := by decide +kernel
theorem dX0_insert_51 : decode cX0_insert 51 = .ok (.dup, 1) := by decide +kernel
theorem dX0_insert_52 : decode cX0_insert 52 = .ok (.getfield 19, 3) := by decide +kernel
theorem dX0_insert_55 : decode cX0_insert 55 = .ok (.iconst 1, 1) := by decide +kernel
theorem dX0_insert_56 : decode cX0_insert 56 = .ok (.iadd, 1) := by decide +kernel
theorem dX0_insert_57 : decode cX0_insert 57 = .ok (.putfield 19, 3) := by decide +kernel
theorem dX0_insert_60 : decode cX0_insert 60 = .ok (.aload_n 0, 1) := by decide +kernel
theorem dX0_insert_61 : decode cX0_insert 61 = .ok (.iconst 0, 1) := by decide +kernel
theorem dX0_insert_62 : decode cX0_insert 62 = .ok (.putfield 22, 3) := by decide +kernel
theorem dX0_insert_65 : decode cX0_insert 65 = .ok (.return_, 1) := by decide +kernel
theorem dX0_remove_0 : decode cX0_remove 0 = .ok (.iload_n 1, 1) := by decide +kernel
theorem dX0_remove_1 : decode cX0_remove 1 = .ok (.aload_n 0, 1) := by decide +kernel
theorem dX0_remove_2 : decode cX0_remove 2 = .ok (.getfield 9, 3) := by decide +kernel
theorem dX0_remove_5 : decode cX0_remove 5 = .ok (.aload_n 0, 1) := by decide +kernel
theorem dX0_remove_6 : decode cX0_remove 6 = .ok (.getfield 19, 3) := by decide +kernel
theorem dX0_remove_9 : decode cX0_remove 9 = .ok (.invokestatic 44, 3) := by decide +kernel
theorem dX0_remove_12 : decode cX0_remove 12 = .ok (.iconst 1, 1) := by decide +kernel
theorem dX0_remove_13 : decode cX0_remove 13 = .ok (.iadd, 1) := by decide +kernel
theorem dX0_remove_14 : decode cX0_remove 14 = .ok (.istore_n 2, 1) := by decide +kernel
theorem dX0_remove_15 : decode cX0_remove 15 = .ok (.iload_n 2, 1) := by decide +kernel
theorem dX0_remove_16 : decode cX0_remove 16 = .ok (.aload_n 0, 1) := by decide +kernel
theorem dX0_remove_17 : decode cX0_remove 17 = .ok (.getfield 19, 3) := by decide +kernel
theorem dX0_remove_20 : decode cX0_remove 20 = .ok (.if_icmp .ge 23, 3) := by decide +kernel
theorem dX0_remove_23 : decode cX0_remove 23 = .ok (.aload_n 0, 1) := by decide +kernel
theorem dX0_remove_24 : decode cX0_remove 24 = .ok (.getfield 9, 3) := by decide +kernel
theorem dX0_remove_27 : decode cX0_remove 27 = .ok (.iload_n 2, 1) := by decide +kernel
theorem dX0_remove_28 : decode cX0_remove 28 = .ok (.iconst 1, 1) := by decide +kernel
theorem dX0_remove_29 : decode cX0_remove 29 = .ok (.isub, 1) := by decide +kernel
theorem dX0_remove_30 : decode cX0_remove 30 = .ok (.aload_n 0, 1) := by decide +kernel
theorem dX0_remove_31 : decode cX0_remove 31 = .ok (.getfield 9, 3) := by decide +kernel
theorem dX0_remove_34 : decode cX0_remove 34 = .ok (.iload_n 2, 1) := by decide +kernel
theorem dX0_remove_35 : decode cX0_remove 35 = .ok (.iaload, 1) := by decide +kernel
theorem dX0_remove_36 : decode cX0_remove 36 = .ok (.iastore, 1) := by decide +kernel
theorem dX0_remove_37 : decode cX0_remove 37 = .ok (.iinc 2 1, 3) := by decide +kernel
theorem dX0_remove_40 : decode cX0_remove 40 = .ok (.goto (-25), 3) := by decide +kernel
theorem dX0_remove_43 : decode cX0_remove 43 = .ok (.aload_n 0, 1) := by decide +kernel
theorem dX0_remove_44 : decode cX0_remove 44 = .ok (.dup, 1) := by decide +kernel
theorem dX0_remove_45 : decode cX0_remove 45 = .ok (.getfield 19, 3) := by decide +kernel
theorem dX0_remove_48 : decode cX0_remove 48 = .ok (.iconst 1, 1) := by decide +kernel
theorem dX0_remove_49 : decode cX0_remove 49 = .ok (.isub, 1) := by decide +kernel
theorem dX0_remove_50 : decode cX0_remove 50 = .ok (.putfield 19, 3) := by decide +kernel
theorem dX0_remove_53 : decode cX0_remove 53 = .ok (.aload_n 0, 1) := by decide +kernel
theorem dX0_remove_54 : decode cX0_remove 54 = .ok (.iconst 0, 1) := by decide +kernel
theorem dX0_remove_55 : decode cX0_remove 55 = .ok (.putfield 22, 3) := by decide +kernel
theorem dX0_remove_58 : decode cX0_remove 58 = .ok (.return_, 1) := by decide +kernel
theorem dX1_init_0 : decode cX1_init 0 = .ok (.aload_n 0, 1) := by decide +kernel
theorem dX1_init_1 : decode cX1_init 1 = .ok (.invokespecial 3, 3) := by decide +kernel
theorem dX1_init_4 : decode cX1_init 4 = .ok (.aload_n 0, 1) := by decide +kernel
theorem dX1_init_5 : decode cX1_init 5 = .ok (.bipush 64, 2) := by decide +kernel
theorem dX1_init_7 : decode cX1_init 7 = .ok (.newarray .int, 2) := by decide +kernel
theorem dX1_init_9 : decode cX1_init 9 = .ok (.putfield 9, 3) := by decide +kernel
theorem dX1_init_12 : decode cX1_init 12 = .ok (.aload_n 0, 1) := by decide +kernel
theorem dX1_init_13 : decode cX1_init 13 = .ok (.bipush 8, 2) := by decide +kernel
theorem dX1_init_15 : decode cX1_init 15 = .ok (.newarray .int, 2) := by decide +kernel
theorem dX1_init_17 : decode cX1_init 17 = .ok (.putfield 15, 3) := by decide +kernel
theorem dX1_init_20 : decode cX1_init 20 = .ok (.aload_n 0, 1) := by decide +kernel
theorem dX1_init_21 : decode cX1_init 21 = .ok (.bipush 8, 2) := by decide +kernel
theorem dX1_init_23 : decode cX1_init 23 = .ok (.newarray .int, 2) := by decide +kernel
theorem dX1_init_25 : decode cX1_init 25 = .ok (.putfield 18, 3) := by decide +kernel
theorem dX1_init_28 : decode cX1_init 28 = .ok (.aload_n 0, 1) := by decide +kernel
theorem dX1_init_29 : decode cX1_init 29 = .ok (.bipush 9, 2) := by decide +kernel
theorem dX1_init_31 : decode cX1_init 31 = .ok (.newarray .int, 2) := by decide +kernel
theorem dX1_init_33 : decode cX1_init 33 = .ok (.putfield 21, 3) := by decide +kernel
theorem dX1_init_36 : decode cX1_init 36 = .ok (.aload_n 0, 1) := by decide +kernel
theorem dX1_init_37 : decode cX1_init 37 = .ok (.iconst 0, 1) := by decide +kernel
theorem dX1_init_38 : decode cX1_init 38 = .ok (.putfield 24, 3) := by decide +kernel
theorem dX1_init_41 : decode cX1_init 41 = .ok (.return_, 1) := by decide +kernel
theorem dX1_sizeOf_0 : decode cX1_sizeOf 0 = .ok (.aload_n 0, 1) := by decide +kernel
theorem dX1_sizeOf_1 : decode cX1_sizeOf 1 = .ok (.getfield 21, 3) := by decide +kernel
theorem dX1_sizeOf_4 : decode cX1_sizeOf 4 = .ok (.iload_n 1, 1) := by decide +kernel
theorem dX1_sizeOf_5 : decode cX1_sizeOf 5 = .ok (.iconst 1, 1) := by decide +kernel
theorem dX1_sizeOf_6 : decode cX1_sizeOf 6 = .ok (.iadd, 1) := by decide +kernel
theorem dX1_sizeOf_7 : decode cX1_sizeOf 7 = .ok (.iaload, 1) := by decide +kernel
theorem dX1_sizeOf_8 : decode cX1_sizeOf 8 = .ok (.aload_n 0, 1) := by decide +kernel
theorem dX1_sizeOf_9 : decode cX1_sizeOf 9 = .ok (.getfield 21, 3) := by decide +kernel
theorem dX1_sizeOf_12 : decode cX1_sizeOf 12 = .ok (.iload_n 1, 1) := by decide +kernel
theorem dX1_sizeOf_13 : decode cX1_sizeOf 13 = .ok (.iaload, 1) := by decide +kernel
theorem dX1_sizeOf_14 : decode cX1_sizeOf 14 = .ok (.isub, 1) := by decide +kernel
theorem dX1_sizeOf_15 : decode cX1_sizeOf 15 = .ok (.ireturn, 1) := by decide +kernel
theorem dX1_arrange_0 : decode cX1_arrange 0 = .ok (.iconst 0, 1) := by decide +kernel
theorem dX1_arrange_1 : decode cX1_arrange 1 = .ok (.istore_n 2, 1) := by decide +kernel
theorem dX1_arrange_2 : decode cX1_arrange 2 = .ok (.iload_n 2, 1) := by decide +kernel
theorem dX1_arrange_3 : decode cX1_arrange 3 = .ok (.iload_n 1, 1) := by decide +kernel
theorem dX1_arrange_4 : decode cX1_arrange 4 = .ok (.if_icmp .ge 58, 3) := by decide +kernel
theorem dX1_arrange_7 : decode cX1_arrange 7 = .ok (.iload_n 2, 1) := by decide +kernel
theorem dX1_arrange_8 : decode cX1_arrange 8 = .ok (.istore_n 3, 1) := by decide +kernel
theorem dX1_arrange_9 : decode cX1_arrange 9 = .ok (.iload_n 3, 1) := by decide +kernel
theorem dX1_arrange_10 : decode cX1_arrange 10 = .ok (.ifCond .le 39, 3) := by decide +kernel
theorem dX1_arrange_13 : decode cX1_arrange 13 = .ok (.aload_n 0, 1) := by decide +kernel
theorem dX1_arrange_14 : decode cX1_arrange 14 = .ok (.aload_n 0, 1) := by decide +kernel
theorem dX1_arrange_15 : decode cX1_arrange 15 = .ok (.getfield 15, 3) := by decide +kernel
theorem dX1_arrange_18 : decode cX1_arrange 18 = .ok (.iload_n 3, 1) := by decide +kernel
theorem dX1_arrange_19 : decode cX1_arrange 19 = .ok (.iconst 1, 1) := by decide +kernel
theorem dX1_arrange_20 : decode cX1_arrange 20 = .ok (.isub, 1) := by decide +kernel
theorem dX1_arrange_21 : decode cX1_arrange 21 = .ok (.iaload, 1) := by decide +kernel
theorem dX1_arrange_22 : decode cX1_arrange 22 = .ok (.iload_n 2, 1) := by decide +kernel
theorem dX1_arrange_23 : decode cX1_arrange 23 = .ok (.invokevirtual 28, 3) := by decide +kernel
theorem dX1_arrange_26 : decode cX1_arrange 26 = .ok (.ifCond .le 23, 3) := by decide +kernel
theorem dX1_arrange_29 : decode cX1_arrange 29 = .ok (.aload_n 0, 1) := by decide +kernel
theorem dX1_arrange_30 : decode cX1_arrange 30 = .ok (.getfield 15, 3) := by decide +kernel
theorem dX1_arrange_33 : decode cX1_arrange 33 = .ok (.iload_n 3, 1) := by decide +kernel
theorem dX1_arrange_34 : decode cX1_arrange 34 = .ok (.aload_n 0, 1) := by decide +kernel
theorem dX1_arrange_35 : decode cX1_arrange 35 = .ok (.getfield 15, 3) := by decide +kernel
theorem dX1_arrange_38 : decode cX1_arrange 38 = .ok (.iload_n 3, 1) := by decide +kernel
theorem dX1_arrange_39 : decode cX1_arrange 39 = .ok (.iconst 1, 1) := by decide +kernel
theorem dX1_arrange_40 : decode cX1_arrange 40 = .ok (.isub, 1) := by decide +kernel
theorem dX1_arrange_41 : decode cX1_arrange 41 = .ok (.iaload, 1) := by decide +kernel
theorem dX1_arrange_42 : decode cX1_arrange 42 = .ok (.iastore, 1) := by decide +kernel
theorem dX1_arrange_43 : decode cX1_arrange 43 = .ok (.iinc 3 (-1), 3) := by decide +kernel
theorem dX1_arrange_46 : decode cX1_arrange 46 = .ok (.goto (-37), 3) := by decide +kernel
theorem dX1_arrange_49 : decode cX1_arrange 49 = .ok (.aload_n 0, 1) := by decide +kernel
theorem dX1_arrange_50 : decode cX1_arrange 50 = .ok (.getfield 15, 3) := by decide +kernel
theorem dX1_arrange_53 : decode cX1_arrange 53 = .ok (.iload_n 3, 1) := by decide +kernel
theorem dX1_arrange_54 : decode cX1_arrange 54 = .ok (.iload_n 2, 1) := by decide +kernel
theorem dX1_arrange_55 : decode cX1_arrange 55 = .ok (.iastore, 1) := by decide +kernel
theorem dX1_arrange_56 : decode cX1_arrange 56 = .ok (.iinc 2 1, 3) := by decide +kernel
theorem dX1_arrange_59 : decode cX1_arrange 59 = .ok (.goto (-57), 3) := by decide +kernel
theorem dX1_arrange_62 : decode cX1_arrange 62 = .ok (.aload_n 0, 1) := by decide +kernel
theorem dX1_arrange_63 : decode cX1_arrange 63 = .ok (.iconst 0, 1) := by decide +kernel
theorem dX1_arrange_64 : decode cX1_arrange 64 = .ok (.putfield 24, 3) := by decide +kernel
theorem dX1_arrange_67 : decode cX1_arrange 67 = .ok (.iconst 0, 1) := by decide +kernel
theorem dX1_arrange_68 : decode cX1_arrange 68 = .ok (.istore_n 2, 1) := by decide +kernel
theorem dX1_arrange_69 : decode cX1_arrange 69 = .ok (.iload_n 2, 1) := by decide +kernel
theorem dX1_arrange_70 : decode cX1_arrange 70 = .ok (.iload_n 1, 1) := by decide +kernel
theorem dX1_arrange_71 : decode cX1_arrange 71 = .ok (.if_icmp .ge 71, 3) := by decide +kernel
theorem dX1_arrange_74 : decode cX1_arrange 74 = .ok (.iload_n 2, 1) := by decide +kernel
theorem dX1_arrange_75 : decode cX1_arrange 75 = .ok (.ifCond .eq 24, 3) := by decide +kernel
theorem dX1_arrange_78 : decode cX1_arrange 78 = .ok (.aload_n 0, 1) := by decide +kernel
theorem dX1_arrange_79 : decode cX1_arrange 79 = .ok (.aload_n 0, 1) := by decide +kernel
theorem dX1_arrange_80 : decode cX1_arrange 80 = .ok (.getfield 15, 3) := by decide +kernel
theorem dX1_arrange_83 : decode cX1_arrange 83 = .ok (.iload_n 2, 1) := by decide +kernel
theorem dX1_arrange_84 : decode cX1_arrange 84 = .ok (.iconst 1, 1) := by decide +kernel
theorem dX1_arrange_85 : decode cX1_arrange 85 = .ok (.isub, 1) := by decide +kernel
theorem dX1_arrange_86 : decode cX1_arrange 86 = .ok (.iaload, 1) := by decide +kernel
theorem dX1_arrange_87 : decode cX1_arrange 87 = .ok (.aload_n 0, 1) := by decide +kernel
theorem dX1_arrange_88 : decode cX1_arrange 88 = .ok (.getfield 15, 3) := by decide +kernel
theorem dX1_arrange_91 : decode cX1_arrange 91 = .ok (.iload_n 2, 1) := by decide +kernel
theorem dX1_arrange_92 : decode cX1_arrange 92 = .ok (.iaload, 1) := by decide +kernel
theorem dX1_arrange_93 : decode cX1_arrange 93 = .ok (.invokevirtual 28, 3) := by decide +kernel
theorem dX1_arrange_96 : decode cX1_arrange 96 = .ok (.ifCond .eq 23, 3) := by decide +kernel
theorem dX1_arrange_99 : decode cX1_arrange 99 = .ok (.aload_n 0, 1) := by decide +kernel
theorem dX1_arrange_100 : decode cX1_arrange 100 = .ok (.getfield 21, 3) := by decide +kernel
theorem dX1_arrange_103 : decode cX1_arrange 103 = .ok (.aload_n 0, 1) := by decide +kernel
theorem dX1_arrange_104 : decode cX1_arrange 104 = .ok (.getfield 24, 3) := by decide +kernel
theorem dX1_arrange_107 : decode cX1_arrange 107 = .ok (.iload_n 2, 1) := by decide +kernel
theorem dX1_arrange_108 : decode cX1_arrange 108 = .ok (.iastore, 1) := by decide +kernel
theorem dX1_arrange_109 : decode cX1_arrange 109 = .ok (.aload_n 0, 1) := by decide +kernel
theorem dX1_arrange_110 : decode cX1_arrange 110 = .ok (.dup, 1) := by decide +kernel
theorem dX1_arrange_111 : decode cX1_arrange 111 = .ok (.getfield 24, 3) := by decide +kernel
theorem dX1_arrange_114 : decode cX1_arrange 114 = .ok (.iconst 1, 1) := by decide +kernel
theorem dX1_arrange_115 : decode cX1_arrange 115 = .ok (.iadd, 1) := by decide +kernel
theorem dX1_arrange_116 : decode cX1_arrange 116 = .ok (.putfield 24, 3) := by decide +kernel
theorem dX1_arrange_119 : decode cX1_arrange 119 = .ok (.aload_n 0, 1) := by decide +kernel
theorem dX1_arrange_120 : decode cX1_arrange 120 = .ok (.getfield 18, 3) := by decide +kernel
theorem dX1_arrange_123 : decode cX1_arrange 123 = .ok (.aload_n 0, 1) := by decide +kernel
theorem dX1_arrange_124 : decode cX1_arrange 124 = .ok (.getfield 15, 3) := by decide +kernel
theorem dX1_arrange_127 : decode cX1_arrange 127 = .ok (.iload_n 2, 1) := by decide +kernel
theorem dX1_arrange_128 : decode cX1_arrange 128 = .ok (.iaload, 1) := by decide +kernel
theorem dX1_arrange_129 : decode cX1_arrange 129 = .ok (.aload_n 0, 1) := by decide +kernel
theorem dX1_arrange_130 : decode cX1_arrange 130 = .ok (.getfield 24, 3) := by decide +kernel
theorem dX1_arrange_133 : decode cX1_arrange 133 = .ok (.iconst 1, 1) := by decide +kernel
theorem dX1_arrange_134 : decode cX1_arrange 134 = .ok (.isub, 1) := by decide +kernel
theorem dX1_arrange_135 : decode cX1_arrange 135 = .ok (.iastore, 1) := by decide +kernel
theorem dX1_arrange_136 : decode cX1_arrange 136 = .ok (.iinc 2 1, 3) := by decide +kernel
theorem dX1_arrange_139 : decode cX1_arrange 139 = .ok (.goto (-70), 3) := by decide +kernel
theorem dX1_arrange_142 : decode cX1_arrange 142 = .ok (.aload_n 0, 1) := by decide +kernel
theorem dX1_arrange_143 : decode cX1_arrange 143 = .ok (.getfield 21, 3) := by decide +kernel
theorem dX1_arrange_146 : decode cX1_arrange 146 = .ok (.aload_n 0, 1) := by decide +kernel
theorem dX1_arrange_147 : decode cX1_arrange 147 = .ok (.getfield 24, 3) := by decide +kernel
theorem dX1_arrange_150 : decode cX1_arrange 150 = .ok (.iload_n 1, 1) := by decide +kernel
theorem dX1_arrange_151 : decode cX1_arrange 151 = .ok (.iastore, 1) := by decide +kernel
theorem dX1_arrange_152 : decode cX1_arrange 152 = .ok (.return_, 1) := by decide +kernel
theorem dX1_compareHashes_0 : decode cX1_compareHashes 0 = .ok (.iconst 0, 1) := by decide +kernel
theorem dX1_compareHashes_1 : decode cX1_compareHashes 1 = .ok (.istore_n 3, 1) := by decide +kernel
theorem dX1_compareHashes_2 : decode cX1_compareHashes 2 = .ok (.iload_n 3, 1) := by decide +kernel
theorem dX1_compareHashes_3 : decode cX1_compareHashes 3 = .ok (.bipush 8, 2) := by decide +kernel
theorem dX1_compareHashes_5 : decode cX1_compareHashes 5 = .ok (.if_icmp .ge 61, 3) := by decide +kernel
theorem dX1_compareHashes_8 : decode cX1_compareHashes 8 = .ok (.aload_n 0, 1) := by decide +kernel
theorem dX1_compareHashes_9 : decode cX1_compareHashes 9 = .ok (.getfield 9, 3) := by decide +kernel
theorem dX1_compareHashes_12 : decode cX1_compareHashes 12 = .ok (.iload_n 1, 1) := by decide +kernel
theorem dX1_compareHashes_13 : decode cX1_compareHashes 13 = .ok (.bipush 8, 2) := by decide +kernel
theorem dX1_compareHashes_15 : decode cX1_compareHashes 15 = .ok (.imul, 1) := by decide +kernel
theorem dX1_compareHashes_16 : decode cX1_compareHashes 16 = .ok (.iload_n 3, 1) := by decide +kernel
theorem dX1_compareHashes_17 : decode cX1_compareHashes 17 = .ok (.iadd, 1) := by decide +kernel
theorem dX1_compareHashes_18 : decode cX1_compareHashes 18 = .ok (.iaload, 1) := by decide +kernel
theorem dX1_compareHashes_19 : decode cX1_compareHashes 19 = .ok (.ldc 32, 2) := by decide +kernel
theorem dX1_compareHashes_21 : decode cX1_compareHashes 21 = .ok (.ixor, 1) := by decide +kernel
theorem dX1_compareHashes_22 : decode cX1_compareHashes 22 = .ok (.istore 4, 2) := by decide +kernel
theorem dX1_compareHashes_24 : decode cX1_compareHashes 24 = .ok (.aload_n 0, 1) := by decide +kernel
theorem dX1_compareHashes_25 : decode cX1_compareHashes 25 = .ok (.getfield 9, 3) := by decide +kernel
theorem dX1_compareHashes_28 : decode cX1_compareHashes 28 = .ok (.iload_n 2, 1) := by decide +kernel
theorem dX1_compareHashes_29 : decode cX1_compareHashes 29 = .ok (.bipush 8, 2) := by decide +kernel
theorem dX1_compareHashes_31 : decode cX1_compareHashes 31 = .ok (.imul, 1) := by decide +kernel
theorem dX1_compareHashes_32 : decode cX1_compareHashes 32 = .ok (.iload_n 3, 1) := by decide +kernel
theorem dX1_compareHashes_33 : decode cX1_compareHashes 33 = .ok (.iadd, 1) := by decide +kernel
theorem dX1_compareHashes_34 : decode cX1_compareHashes 34 = .ok (.iaload, 1) := by decide +kernel
theorem dX1_compareHashes_35 : decode cX1_compareHashes 35 = .ok (.ldc 32, 2) := by decide +kernel
theorem dX1_compareHashes_37 : decode cX1_compareHashes 37 = .ok (.ixor, 1) := by decide +kernel
theorem dX1_compareHashes_38 : decode cX1_compareHashes 38 = .ok (.istore 5, 2) := by decide +kernel
theorem dX1_compareHashes_40 : decode cX1_compareHashes 40 = .ok (.iload 4, 2) := by decide +kernel
theorem dX1_compareHashes_42 : decode cX1_compareHashes 42 = .ok (.iload 5, 2) := by decide +kernel
theorem dX1_compareHashes_44 : decode cX1_compareHashes 44 = .ok (.if_icmp .eq 16, 3) := by decide +kernel
theorem dX1_compareHashes_47 : decode cX1_compareHashes 47 = .ok (.iload 4, 2) := by decide +kernel
theorem dX1_compareHashes_49 : decode cX1_compareHashes 49 = .ok (.iload 5, 2) := by decide +kernel
theorem dX1_compareHashes_51 : decode cX1_compareHashes 51 = .ok (.if_icmp .ge 7, 3) := by decide +kernel
theorem dX1_compareHashes_54 : decode cX1_compareHashes 54 = .ok (.iconst (-1), 1) := by decide +kernel
theorem dX1_compareHashes_55 : decode cX1_compareHashes 55 = .ok (.goto 4, 3) := by decide +kernel
theorem dX1_compareHashes_58 : decode cX1_compareHashes 58 = .ok (.iconst 1, 1) := by decide +kernel
theorem dX1_compareHashes_59 : decode cX1_compareHashes 59 = .ok (.ireturn, 1) := by decide +kernel
theorem dX1_compareHashes_60 : decode cX1_compareHashes 60 = .ok (.iinc 3 1, 3) := by decide +kernel
theorem dX1_compareHashes_63 : decode cX1_compareHashes 63 = .ok (.goto (-61), 3) := by decide +kernel
theorem dX1_compareHashes_66 : decode cX1_compareHashes 66 = .ok (.iconst 0, 1) := by decide +kernel
theorem dX1_compareHashes_67 : decode cX1_compareHashes 67 = .ok (.ireturn, 1) := by decide +kernel
theorem dX1_hasHashesOf_0 : decode cX1_hasHashesOf 0 = .ok (.iconst 0, 1) := by decide +kernel
theorem dX1_hasHashesOf_1 : decode cX1_hasHashesOf 1 = .ok (.istore_n 3, 1) := by decide +kernel
theorem dX1_hasHashesOf_2 : decode cX1_hasHashesOf 2 = .ok (.iload_n 3, 1) := by decide +kernel
theorem dX1_hasHashesOf_3 : decode cX1_hasHashesOf 3 = .ok (.iload_n 2, 1) := by decide +kernel
theorem dX1_hasHashesOf_4 : decode cX1_hasHashesOf 4 = .ok (.if_icmp .ge 64, 3) := by decide +kernel
theorem dX1_hasHashesOf_7 : decode cX1_hasHashesOf 7 = .ok (.iconst 0, 1) := by decide +kernel
theorem dX1_hasHashesOf_8 : decode cX1_hasHashesOf 8 = .ok (.istore 4, 2) := by decide +kernel
theorem dX1_hasHashesOf_10 : decode cX1_hasHashesOf 10 = .ok (.iload 4, 2) := by decide +kernel
theorem dX1_hasHashesOf_12 : decode cX1_hasHashesOf 12 = .ok (.bipush 8, 2) := by decide +kernel
theorem dX1_hasHashesOf_14 : decode cX1_hasHashesOf 14 = .ok (.if_icmp .ge 48, 3) := by decide +kernel
theorem dX1_hasHashesOf_17 : decode cX1_hasHashesOf 17 = .ok (.aload_n 0, 1) := by decide +kernel
theorem dX1_hasHashesOf_18 : decode cX1_hasHashesOf 18 = .ok (.getfield 9, 3) := by decide +kernel
theorem dX1_hasHashesOf_21 : decode cX1_hasHashesOf 21 = .ok (.aload_n 0, 1) := by decide +kernel
theorem dX1_hasHashesOf_22 : decode cX1_hasHashesOf 22 = .ok (.getfield 15, 3) := by decide +kernel
theorem dX1_hasHashesOf_25 : decode cX1_hasHashesOf 25 = .ok (.iload_n 3, 1) := by decide +kernel
theorem dX1_hasHashesOf_26 : decode cX1_hasHashesOf 26 = .ok (.iaload, 1) := by decide +kernel
theorem dX1_hasHashesOf_27 : decode cX1_hasHashesOf 27 = .ok (.bipush 8, 2) := by decide +kernel
theorem dX1_hasHashesOf_29 : decode cX1_hasHashesOf 29 = .ok (.imul, 1) := by decide +kernel
theorem dX1_hasHashesOf_30 : decode cX1_hasHashesOf 30 = .ok (.iload 4, 2) := by decide +kernel
theorem dX1_hasHashesOf_32 : decode cX1_hasHashesOf 32 = .ok (.iadd, 1) := by decide +kernel
theorem dX1_hasHashesOf_33 : decode cX1_hasHashesOf 33 = .ok (.iaload, 1) := by decide +kernel
theorem dX1_hasHashesOf_34 : decode cX1_hasHashesOf 34 = .ok (.aload_n 1, 1) := by decide +kernel
theorem dX1_hasHashesOf_35 : decode cX1_hasHashesOf 35 = .ok (.getfield 9, 3) := by decide +kernel
theorem dX1_hasHashesOf_38 : decode cX1_hasHashesOf 38 = .ok (.aload_n 1, 1) := by decide +kernel
theorem dX1_hasHashesOf_39 : decode cX1_hasHashesOf 39 = .ok (.getfield 15, 3) := by decide +kernel
theorem dX1_hasHashesOf_42 : decode cX1_hasHashesOf 42 = .ok (.iload_n 3, 1) := by decide +kernel
theorem dX1_hasHashesOf_43 : decode cX1_hasHashesOf 43 = .ok (.iaload, 1) := by decide +kernel
theorem dX1_hasHashesOf_44 : decode cX1_hasHashesOf 44 = .ok (.bipush 8, 2) := by decide +kernel
theorem dX1_hasHashesOf_46 : decode cX1_hasHashesOf 46 = .ok (.imul, 1) := by decide +kernel
theorem dX1_hasHashesOf_47 : decode cX1_hasHashesOf 47 = .ok (.iload 4, 2) := by decide +kernel
theorem dX1_hasHashesOf_49 : decode cX1_hasHashesOf 49 = .ok (.iadd, 1) := by decide +kernel
theorem dX1_hasHashesOf_50 : decode cX1_hasHashesOf 50 = .ok (.iaload, 1) := by decide +kernel
theorem dX1_hasHashesOf_51 : decode cX1_hasHashesOf 51 = .ok (.if_icmp .eq 5, 3) := by decide +kernel
theorem dX1_hasHashesOf_54 : decode cX1_hasHashesOf 54 = .ok (.iconst 0, 1) := by decide +kernel
theorem dX1_hasHashesOf_55 : decode cX1_hasHashesOf 55 = .ok (.ireturn, 1) := by decide +kernel
theorem dX1_hasHashesOf_56 : decode cX1_hasHashesOf 56 = .ok (.iinc 4 1, 3) := by decide +kernel
theorem dX1_hasHashesOf_59 : decode cX1_hasHashesOf 59 = .ok (.goto (-49), 3) := by decide +kernel
theorem dX1_hasHashesOf_62 : decode cX1_hasHashesOf 62 = .ok (.iinc 3 1, 3) := by decide +kernel
theorem dX1_hasHashesOf_65 : decode cX1_hasHashesOf 65 = .ok (.goto (-63), 3) := by decide +kernel
theorem dX1_hasHashesOf_68 : decode cX1_hasHashesOf 68 = .ok (.iconst 1, 1) := by decide +kernel
theorem dX1_hasHashesOf_69 : decode cX1_hasHashesOf 69 = .ok (.ireturn, 1) := by decide +kernel
theorem dX1_namings_0 : decode cX1_namings 0 = .ok (.iconst 1, 1) := by decide +kernel
theorem dX1_namings_1 : decode cX1_namings 1 = .ok (.istore_n 1, 1) := by decide +kernel
theorem dX1_namings_2 : decode cX1_namings 2 = .ok (.iconst 0, 1) := by decide +kernel
theorem dX1_namings_3 : decode cX1_namings 3 = .ok (.istore_n 2, 1) := by decide +kernel
theorem dX1_namings_4 : decode cX1_namings 4 = .ok (.iload_n 2, 1) := by decide +kernel
theorem dX1_namings_5 : decode cX1_namings 5 = .ok (.aload_n 0, 1) := by decide +kernel
theorem dX1_namings_6 : decode cX1_namings 6 = .ok (.getfield 24, 3) := by decide +kernel
theorem dX1_namings_9 : decode cX1_namings 9 = .ok (.if_icmp .ge 30, 3) := by decide +kernel
theorem dX1_namings_12 : decode cX1_namings 12 = .ok (.iconst 2, 1) := by decide +kernel
theorem dX1_namings_13 : decode cX1_namings 13 = .ok (.istore_n 3, 1) := by decide +kernel
theorem dX1_namings_14 : decode cX1_namings 14 = .ok (.iload_n 3, 1) := by decide +kernel
theorem dX1_namings_15 : decode cX1_namings 15 = .ok (.aload_n 0, 1) := by decide +kernel
theorem dX1_namings_16 : decode cX1_namings 16 = .ok (.iload_n 2, 1) := by decide +kernel
theorem dX1_namings_17 : decode cX1_namings 17 = .ok (.invokevirtual 33, 3) := by decide +kernel
theorem dX1_namings_20 : decode cX1_namings 20 = .ok (.if_icmp .gt 13, 3) := by decide +kernel
theorem dX1_namings_23 : decode cX1_namings 23 = .ok (.iload_n 1, 1) := by decide +kernel
theorem dX1_namings_24 : decode cX1_namings 24 = .ok (.iload_n 3, 1) := by decide +kernel
theorem dX1_namings_25 : decode cX1_namings 25 = .ok (.imul, 1) := by decide +kernel
theorem dX1_namings_26 : decode cX1_namings 26 = .ok (.istore_n 1, 1) := by decide +kernel
theorem dX1_namings_27 : decode cX1_namings 27 = .ok (.iinc 3 1, 3) := by decide +kernel
theorem dX1_namings_30 : decode cX1_namings 30 = .ok (.goto (-16), 3) := by decide +kernel
theorem dX1_namings_33 : decode cX1_namings 33 = .ok (.iinc 2 1, 3) := by decide +kernel
theorem dX1_namings_36 : decode cX1_namings 36 = .ok (.goto (-32), 3) := by decide +kernel
theorem dX1_namings_39 : decode cX1_namings 39 = .ok (.iload_n 1, 1) := by decide +kernel
theorem dX1_namings_40 : decode cX1_namings 40 = .ok (.ireturn, 1) := by decide +kernel
theorem dX2_init_0 : decode cX2_init 0 = .ok (.aload_n 0, 1) := by decide +kernel
theorem dX2_init_1 : decode cX2_init 1 = .ok (.invokespecial 3, 3) := by decide +kernel
theorem dX2_init_4 : decode cX2_init 4 = .ok (.aload_n 0, 1) := by decide +kernel
theorem dX2_init_5 : decode cX2_init 5 = .ok (.bipush 40, 2) := by decide +kernel
theorem dX2_init_7 : decode cX2_init 7 = .ok (.newarray .int, 2) := by decide +kernel
theorem dX2_init_9 : decode cX2_init 9 = .ok (.putfield 9, 3) := by decide +kernel
theorem dX2_init_12 : decode cX2_init 12 = .ok (.aload_n 0, 1) := by decide +kernel
theorem dX2_init_13 : decode cX2_init 13 = .ok (.new 15, 3) := by decide +kernel
theorem dX2_init_16 : decode cX2_init 16 = .ok (.dup, 1) := by decide +kernel
theorem dX2_init_17 : decode cX2_init 17 = .ok (.invokespecial 17, 3) := by decide +kernel
theorem dX2_init_20 : decode cX2_init 20 = .ok (.putfield 18, 3) := by decide +kernel
theorem dX2_init_23 : decode cX2_init 23 = .ok (.aload_n 0, 1) := by decide +kernel
theorem dX2_init_24 : decode cX2_init 24 = .ok (.aload_n 1, 1) := by decide +kernel
theorem dX2_init_25 : decode cX2_init 25 = .ok (.putfield 22, 3) := by decide +kernel
theorem dX2_init_28 : decode cX2_init 28 = .ok (.return_, 1) := by decide +kernel
theorem dX2_refresh_0 : decode cX2_refresh 0 = .ok (.aload_n 1, 1) := by decide +kernel
theorem dX2_refresh_1 : decode cX2_refresh 1 = .ok (.getfield 26, 3) := by decide +kernel
theorem dX2_refresh_4 : decode cX2_refresh 4 = .ok (.ifCond .eq 4, 3) := by decide +kernel
theorem dX2_refresh_7 : decode cX2_refresh 7 = .ok (.return_, 1) := by decide +kernel
theorem dX2_refresh_8 : decode cX2_refresh 8 = .ok (.iconst 0, 1) := by decide +kernel
theorem dX2_refresh_9 : decode cX2_refresh 9 = .ok (.istore_n 2, 1) := by decide +kernel
theorem dX2_refresh_10 : decode cX2_refresh 10 = .ok (.iload_n 2, 1) := by decide +kernel
theorem dX2_refresh_11 : decode cX2_refresh 11 = .ok (.aload_n 1, 1) := by decide +kernel
theorem dX2_refresh_12 : decode cX2_refresh 12 = .ok (.getfield 32, 3) := by decide +kernel
theorem dX2_refresh_15 : decode cX2_refresh 15 = .ok (.if_icmp .ge 29, 3) := by decide +kernel
theorem dX2_refresh_18 : decode cX2_refresh 18 = .ok (.getstatic 36, 3) := by decide +kernel
theorem dX2_refresh_21 : decode cX2_refresh 21 = .ok (.iconst 0, 1) := by decide +kernel
theorem dX2_refresh_22 : decode cX2_refresh 22 = .ok (.aload_n 1, 1) := by decide +kernel
theorem dX2_refresh_23 : decode cX2_refresh 23 = .ok (.getfield 39, 3) := by decide +kernel
theorem dX2_refresh_26 : decode cX2_refresh 26 = .ok (.getfield 42, 3) := by decide +kernel
theorem dX2_refresh_29 : decode cX2_refresh 29 = .ok (.iload_n 2, 1) := by decide +kernel
theorem dX2_refresh_30 : decode cX2_refresh 30 = .ok (.bipush 8, 2) := by decide +kernel
theorem dX2_refresh_32 : decode cX2_refresh 32 = .ok (.imul, 1) := by decide +kernel
theorem dX2_refresh_33 : decode cX2_refresh 33 = .ok (.bipush 8, 2) := by decide +kernel
theorem dX2_refresh_35 : decode cX2_refresh 35 = .ok (.invokestatic 45, 3) := by decide +kernel
theorem dX2_refresh_38 : decode cX2_refresh 38 = .ok (.iinc 2 1, 3) := by decide +kernel
theorem dX2_refresh_41 : decode cX2_refresh 41 = .ok (.goto (-31), 3) := by decide +kernel
theorem dX2_refresh_44 : decode cX2_refresh 44 = .ok (.aload_n 1, 1) := by decide +kernel
theorem dX2_refresh_45 : decode cX2_refresh 45 = .ok (.getfield 39, 3) := by decide +kernel
theorem dX2_refresh_48 : decode cX2_refresh 48 = .ok (.aload_n 1, 1) := by decide +kernel
theorem dX2_refresh_49 : decode cX2_refresh 49 = .ok (.getfield 32, 3) := by decide +kernel
theorem dX2_refresh_52 : decode cX2_refresh 52 = .ok (.invokevirtual 51, 3) := by decide +kernel
theorem dX2_refresh_55 : decode cX2_refresh 55 = .ok (.aload_n 1, 1) := by decide +kernel
theorem dX2_refresh_56 : decode cX2_refresh 56 = .ok (.getfield 32, 3) := by decide +kernel
theorem dX2_refresh_59 : decode cX2_refresh 59 = .ok (.iconst 2, 1) := by decide +kernel
theorem dX2_refresh_60 : decode cX2_refresh 60 = .ok (.if_icmp .ge 7, 3) := by decide +kernel
theorem dX2_refresh_63 : decode cX2_refresh 63 = .ok (.iconst 1, 1) := by decide +kernel
theorem dX2_refresh_64 : decode cX2_refresh 64 = .ok (.goto 4, 3) := by decide +kernel
theorem dX2_refresh_67 : decode cX2_refresh 67 = .ok (.iconst 0, 1) := by decide +kernel
theorem dX2_refresh_68 : decode cX2_refresh 68 = .ok (.istore_n 2, 1) := by decide +kernel
theorem dX2_refresh_69 : decode cX2_refresh 69 = .ok (.iconst 1, 1) := by decide +kernel
theorem dX2_refresh_70 : decode cX2_refresh 70 = .ok (.istore_n 3, 1) := by decide +kernel
theorem dX2_refresh_71 : decode cX2_refresh 71 = .ok (.aload_n 1, 1) := by decide +kernel
theorem dX2_refresh_72 : decode cX2_refresh 72 = .ok (.iconst 0, 1) := by decide +kernel
theorem dX2_refresh_73 : decode cX2_refresh 73 = .ok (.putfield 55, 3) := by decide +kernel
theorem dX2_refresh_76 : decode cX2_refresh 76 = .ok (.iconst 0, 1) := by decide +kernel
theorem dX2_refresh_77 : decode cX2_refresh 77 = .ok (.istore 4, 2) := by decide +kernel
theorem dX2_refresh_79 : decode cX2_refresh 79 = .ok (.iload_n 3, 1) := by decide +kernel
theorem dX2_refresh_80 : decode cX2_refresh 80 = .ok (.ifCond .eq 45, 3) := by decide +kernel
theorem dX2_refresh_83 : decode cX2_refresh 83 = .ok (.iload 4, 2) := by decide +kernel
theorem dX2_refresh_85 : decode cX2_refresh 85 = .ok (.bipush 8, 2) := by decide +kernel
theorem dX2_refresh_87 : decode cX2_refresh 87 = .ok (.if_icmp .ge 38, 3) := by decide +kernel
theorem dX2_refresh_90 : decode cX2_refresh 90 = .ok (.aload_n 0, 1) := by decide +kernel
theorem dX2_refresh_91 : decode cX2_refresh 91 = .ok (.aload_n 1, 1) := by decide +kernel
theorem dX2_refresh_92 : decode cX2_refresh 92 = .ok (.invokevirtual 58, 3) := by decide +kernel
theorem dX2_refresh_95 : decode cX2_refresh 95 = .ok (.istore_n 3, 1) := by decide +kernel
theorem dX2_refresh_96 : decode cX2_refresh 96 = .ok (.iload_n 3, 1) := by decide +kernel
theorem dX2_refresh_97 : decode cX2_refresh 97 = .ok (.ifCond .ne 7, 3) := by decide +kernel
theorem dX2_refresh_100 : decode cX2_refresh 100 = .ok (.iload_n 2, 1) := by decide +kernel
theorem dX2_refresh_101 : decode cX2_refresh 101 = .ok (.ifCond .eq 8, 3) := by decide +kernel
theorem dX2_refresh_104 : decode cX2_refresh 104 = .ok (.aload_n 0, 1) := by decide +kernel
theorem dX2_refresh_105 : decode cX2_refresh 105 = .ok (.aload_n 1, 1) := by decide +kernel
theorem dX2_refresh_106 : decode cX2_refresh 106 = .ok (.invokevirtual 62, 3) := by decide +kernel
theorem dX2_refresh_109 : decode cX2_refresh 109 = .ok (.aload_n 1, 1) := by decide +kernel
theorem dX2_refresh_110 : decode cX2_refresh 110 = .ok (.dup, 1) := by decide +kernel
theorem dX2_refresh_111 : decode cX2_refresh 111 = .ok (.getfield 55, 3) := by decide +kernel
theorem dX2_refresh_114 : decode cX2_refresh 114 = .ok (.iconst 1, 1) := by decide +kernel
theorem dX2_refresh_115 : decode cX2_refresh 115 = .ok (.iadd, 1) := by decide +kernel
theorem dX2_refresh_116 : decode cX2_refresh 116 = .ok (.putfield 55, 3) := by decide +kernel
theorem dX2_refresh_119 : decode cX2_refresh 119 = .ok (.iinc 4 1, 3) := by decide +kernel
theorem dX2_refresh_122 : decode cX2_refresh 122 = .ok (.goto (-43), 3) := by decide +kernel
theorem dX2_refresh_125 : decode cX2_refresh 125 = .ok (.aload_n 1, 1) := by decide +kernel
theorem dX2_refresh_126 : decode cX2_refresh 126 = .ok (.iconst 1, 1) := by decide +kernel
theorem dX2_refresh_127 : decode cX2_refresh 127 = .ok (.putfield 26, 3) := by decide +kernel
theorem dX2_refresh_130 : decode cX2_refresh 130 = .ok (.return_, 1) := by decide +kernel
theorem dX2_makesMore_0 : decode cX2_makesMore 0 = .ok (.aload_n 1, 1) := by decide +kernel
theorem dX2_makesMore_1 : decode cX2_makesMore 1 = .ok (.getfield 32, 3) := by decide +kernel
theorem dX2_makesMore_4 : decode cX2_makesMore 4 = .ok (.iconst 2, 1) := by decide +kernel
theorem dX2_makesMore_5 : decode cX2_makesMore 5 = .ok (.if_icmp .lt 19, 3) := by decide +kernel
theorem dX2_makesMore_8 : decode cX2_makesMore 8 = .ok (.aload_n 1, 1) := by decide +kernel
theorem dX2_makesMore_9 : decode cX2_makesMore 9 = .ok (.getfield 39, 3) := by decide +kernel
theorem dX2_makesMore_12 : decode cX2_makesMore 12 = .ok (.getfield 66, 3) := by decide +kernel
theorem dX2_makesMore_15 : decode cX2_makesMore 15 = .ok (.aload_n 1, 1) := by decide +kernel
theorem dX2_makesMore_16 : decode cX2_makesMore 16 = .ok (.getfield 32, 3) := by decide +kernel
theorem dX2_makesMore_19 : decode cX2_makesMore 19 = .ok (.if_icmp .ne 5, 3) := by decide +kernel
theorem dX2_makesMore_22 : decode cX2_makesMore 22 = .ok (.iconst 0, 1) := by decide +kernel
theorem dX2_makesMore_23 : decode cX2_makesMore 23 = .ok (.ireturn, 1) := by decide +kernel
theorem dX2_makesMore_24 : decode cX2_makesMore 24 = .ok (.iconst 0, 1) := by decide +kernel
theorem dX2_makesMore_25 : decode cX2_makesMore 25 = .ok (.istore_n 2, 1) := by decide +kernel
theorem dX2_makesMore_26 : decode cX2_makesMore 26 = .ok (.iload_n 2, 1) := by decide +kernel
theorem dX2_makesMore_27 : decode cX2_makesMore 27 = .ok (.aload_n 1, 1) := by decide +kernel
theorem dX2_makesMore_28 : decode cX2_makesMore 28 = .ok (.getfield 32, 3) := by decide +kernel
theorem dX2_makesMore_31 : decode cX2_makesMore 31 = .ok (.if_icmp .ge 157, 3) := by decide +kernel
theorem dX2_makesMore_34 : decode cX2_makesMore 34 = .ok (.aload_n 0, 1) := by decide +kernel
theorem dX2_makesMore_35 : decode cX2_makesMore 35 = .ok (.aload_n 1, 1) := by decide +kernel
theorem dX2_makesMore_36 : decode cX2_makesMore 36 = .ok (.iload_n 2, 1) := by decide +kernel
theorem dX2_makesMore_37 : decode cX2_makesMore 37 = .ok (.invokevirtual 69, 3) := by decide +kernel
theorem dX2_makesMore_40 : decode cX2_makesMore 40 = .ok (.istore_n 3, 1) := by decide +kernel
theorem dX2_makesMore_41 : decode cX2_makesMore 41 = .ok (.aload_n 0, 1) := by decide +kernel
theorem dX2_makesMore_42 : decode cX2_makesMore 42 = .ok (.getfield 9, 3) := by decide +kernel
theorem dX2_makesMore_45 : decode cX2_makesMore 45 = .ok (.iload_n 3, 1) := by decide +kernel
theorem dX2_makesMore_46 : decode cX2_makesMore 46 = .ok (.invokestatic 73, 3) := by decide +kernel
theorem dX2_makesMore_49 : decode cX2_makesMore 49 = .ok (.aload_n 0, 1) := by decide +kernel
theorem dX2_makesMore_50 : decode cX2_makesMore 50 = .ok (.getfield 22, 3) := by decide +kernel
theorem dX2_makesMore_53 : decode cX2_makesMore 53 = .ok (.invokevirtual 77, 3) := by decide +kernel
theorem dX2_makesMore_56 : decode cX2_makesMore 56 = .ok (.aload_n 0, 1) := by decide +kernel
theorem dX2_makesMore_57 : decode cX2_makesMore 57 = .ok (.aload_n 1, 1) := by decide +kernel
theorem dX2_makesMore_58 : decode cX2_makesMore 58 = .ok (.getfield 39, 3) := by decide +kernel
theorem dX2_makesMore_61 : decode cX2_makesMore 61 = .ok (.sipush 1002, 3) := by decide +kernel
theorem dX2_makesMore_64 : decode cX2_makesMore 64 = .ok (.aload_n 1, 1) := by decide +kernel
theorem dX2_makesMore_65 : decode cX2_makesMore 65 = .ok (.getfield 39, 3) := by decide +kernel
theorem dX2_makesMore_68 : decode cX2_makesMore 68 = .ok (.getfield 82, 3) := by decide +kernel
theorem dX2_makesMore_71 : decode cX2_makesMore 71 = .ok (.iload_n 2, 1) := by decide +kernel
theorem dX2_makesMore_72 : decode cX2_makesMore 72 = .ok (.iaload, 1) := by decide +kernel
theorem dX2_makesMore_73 : decode cX2_makesMore 73 = .ok (.iadd, 1) := by decide +kernel
theorem dX2_makesMore_74 : decode cX2_makesMore 74 = .ok (.invokevirtual 85, 3) := by decide +kernel
theorem dX2_makesMore_77 : decode cX2_makesMore 77 = .ok (.iconst 0, 1) := by decide +kernel
theorem dX2_makesMore_78 : decode cX2_makesMore 78 = .ok (.istore 4, 2) := by decide +kernel
theorem dX2_makesMore_80 : decode cX2_makesMore 80 = .ok (.iload 4, 2) := by decide +kernel
theorem dX2_makesMore_82 : decode cX2_makesMore 82 = .ok (.iload_n 3, 1) := by decide +kernel
theorem dX2_makesMore_83 : decode cX2_makesMore 83 = .ok (.if_icmp .ge 81, 3) := by decide +kernel
theorem dX2_makesMore_86 : decode cX2_makesMore 86 = .ok (.iconst 0, 1) := by decide +kernel
theorem dX2_makesMore_87 : decode cX2_makesMore 87 = .ok (.istore 5, 2) := by decide +kernel
theorem dX2_makesMore_89 : decode cX2_makesMore 89 = .ok (.iload 5, 2) := by decide +kernel
theorem dX2_makesMore_91 : decode cX2_makesMore 91 = .ok (.iconst 3, 1) := by decide +kernel
theorem dX2_makesMore_92 : decode cX2_makesMore 92 = .ok (.if_icmp .ge 66, 3) := by decide +kernel
theorem dX2_makesMore_95 : decode cX2_makesMore 95 = .ok (.aload_n 0, 1) := by decide +kernel
theorem dX2_makesMore_96 : decode cX2_makesMore 96 = .ok (.getfield 9, 3) := by decide +kernel
theorem dX2_makesMore_99 : decode cX2_makesMore 99 = .ok (.iload 4, 2) := by decide +kernel
theorem dX2_makesMore_101 : decode cX2_makesMore 101 = .ok (.iaload, 1) := by decide +kernel
theorem dX2_makesMore_102 : decode cX2_makesMore 102 = .ok (.iload 5, 2) := by decide +kernel
theorem dX2_makesMore_104 : decode cX2_makesMore 104 = .ok (.invokestatic 89, 3) := by decide +kernel
theorem dX2_makesMore_107 : decode cX2_makesMore 107 = .ok (.istore 6, 2) := by decide +kernel
theorem dX2_makesMore_109 : decode cX2_makesMore 109 = .ok (.aload_n 0, 1) := by decide +kernel
theorem dX2_makesMore_110 : decode cX2_makesMore 110 = .ok (.getfield 22, 3) := by decide +kernel
theorem dX2_makesMore_113 : decode cX2_makesMore 113 = .ok (.iload 6, 2) := by decide +kernel
theorem dX2_makesMore_115 : decode cX2_makesMore 115 = .ok (.sipush 1001, 3) := by decide +kernel
theorem dX2_makesMore_118 : decode cX2_makesMore 118 = .ok (.if_icmp .ge 7, 3) := by decide +kernel
theorem dX2_makesMore_121 : decode cX2_makesMore 121 = .ok (.iconst 0, 1) := by decide +kernel
theorem dX2_makesMore_122 : decode cX2_makesMore 122 = .ok (.goto 16, 3) := by decide +kernel
theorem dX2_makesMore_125 : decode cX2_makesMore 125 = .ok (.iload 6, 2) := by decide +kernel
theorem dX2_makesMore_127 : decode cX2_makesMore 127 = .ok (.sipush 1001, 3) := by decide +kernel
theorem dX2_makesMore_130 : decode cX2_makesMore 130 = .ok (.if_icmp .ne 7, 3) := by decide +kernel
theorem dX2_makesMore_133 : decode cX2_makesMore 133 = .ok (.iconst 1, 1) := by decide +kernel
theorem dX2_makesMore_134 : decode cX2_makesMore 134 = .ok (.goto 4, 3) := by decide +kernel
theorem dX2_makesMore_137 : decode cX2_makesMore 137 = .ok (.iconst 2, 1) := by decide +kernel
theorem dX2_makesMore_138 : decode cX2_makesMore 138 = .ok (.iconst 1, 1) := by decide +kernel
theorem dX2_makesMore_139 : decode cX2_makesMore 139 = .ok (.invokevirtual 93, 3) := by decide +kernel
theorem dX2_makesMore_142 : decode cX2_makesMore 142 = .ok (.aload_n 0, 1) := by decide +kernel
theorem dX2_makesMore_143 : decode cX2_makesMore 143 = .ok (.aload_n 1, 1) := by decide +kernel
theorem dX2_makesMore_144 : decode cX2_makesMore 144 = .ok (.getfield 39, 3) := by decide +kernel
theorem dX2_makesMore_147 : decode cX2_makesMore 147 = .ok (.iload 6, 2) := by decide +kernel
theorem dX2_makesMore_149 : decode cX2_makesMore 149 = .ok (.invokevirtual 85, 3) := by decide +kernel
theorem dX2_makesMore_152 : decode cX2_makesMore 152 = .ok (.iinc 5 1, 3) := by decide +kernel
theorem dX2_makesMore_155 : decode cX2_makesMore 155 = .ok (.goto (-66), 3) := by decide +kernel
theorem dX2_makesMore_158 : decode cX2_makesMore 158 = .ok (.iinc 4 1, 3) := by decide +kernel
theorem dX2_makesMore_161 : decode cX2_makesMore 161 = .ok (.goto (-81), 3) := by decide +kernel
theorem dX2_makesMore_164 : decode cX2_makesMore 164 = .ok (.aload_n 0, 1) := by decide +kernel
theorem dX2_makesMore_165 : decode cX2_makesMore 165 = .ok (.getfield 22, 3) := by decide +kernel
theorem dX2_makesMore_168 : decode cX2_makesMore 168 = .ok (.aload_n 0, 1) := by decide +kernel
theorem dX2_makesMore_169 : decode cX2_makesMore 169 = .ok (.getfield 18, 3) := by decide +kernel
theorem dX2_makesMore_172 : decode cX2_makesMore 172 = .ok (.getfield 42, 3) := by decide +kernel
theorem dX2_makesMore_175 : decode cX2_makesMore 175 = .ok (.iload_n 2, 1) := by decide +kernel
theorem dX2_makesMore_176 : decode cX2_makesMore 176 = .ok (.bipush 8, 2) := by decide +kernel
theorem dX2_makesMore_178 : decode cX2_makesMore 178 = .ok (.imul, 1) := by decide +kernel
theorem dX2_makesMore_179 : decode cX2_makesMore 179 = .ok (.invokevirtual 97, 3) := by decide +kernel
theorem dX2_makesMore_182 : decode cX2_makesMore 182 = .ok (.iinc 2 1, 3) := by decide +kernel
theorem dX2_makesMore_185 : decode cX2_makesMore 185 = .ok (.goto (-159), 3) := by decide +kernel
theorem dX2_makesMore_188 : decode cX2_makesMore 188 = .ok (.aload_n 0, 1) := by decide +kernel
theorem dX2_makesMore_189 : decode cX2_makesMore 189 = .ok (.getfield 18, 3) := by decide +kernel
theorem dX2_makesMore_192 : decode cX2_makesMore 192 = .ok (.aload_n 1, 1) := by decide +kernel
theorem dX2_makesMore_193 : decode cX2_makesMore 193 = .ok (.getfield 32, 3) := by decide +kernel
theorem dX2_makesMore_196 : decode cX2_makesMore 196 = .ok (.invokevirtual 51, 3) := by decide +kernel
theorem dX2_makesMore_199 : decode cX2_makesMore 199 = .ok (.aload_n 0, 1) := by decide +kernel
theorem dX2_makesMore_200 : decode cX2_makesMore 200 = .ok (.getfield 18, 3) := by decide +kernel
theorem dX2_makesMore_203 : decode cX2_makesMore 203 = .ok (.getfield 66, 3) := by decide +kernel
theorem dX2_makesMore_206 : decode cX2_makesMore 206 = .ok (.aload_n 1, 1) := by decide +kernel
theorem dX2_makesMore_207 : decode cX2_makesMore 207 = .ok (.getfield 39, 3) := by decide +kernel
theorem dX2_makesMore_210 : decode cX2_makesMore 210 = .ok (.getfield 66, 3) := by decide +kernel
theorem dX2_makesMore_213 : decode cX2_makesMore 213 = .ok (.if_icmp .le 7, 3) := by decide +kernel
theorem dX2_makesMore_216 : decode cX2_makesMore 216 = .ok (.iconst 1, 1) := by decide +kernel
theorem dX2_makesMore_217 : decode cX2_makesMore 217 = .ok (.goto 4, 3) := by decide +kernel
theorem dX2_makesMore_220 : decode cX2_makesMore 220 = .ok (.iconst 0, 1) := by decide +kernel
theorem dX2_makesMore_221 : decode cX2_makesMore 221 = .ok (.ireturn, 1) := by decide +kernel
theorem dX2_takeRound_0 : decode cX2_takeRound 0 = .ok (.aload_n 1, 1) := by decide +kernel
theorem dX2_takeRound_1 : decode cX2_takeRound 1 = .ok (.getfield 39, 3) := by decide +kernel
theorem dX2_takeRound_4 : decode cX2_takeRound 4 = .ok (.astore_n 2, 1) := by decide +kernel
theorem dX2_takeRound_5 : decode cX2_takeRound 5 = .ok (.aload_n 1, 1) := by decide +kernel
theorem dX2_takeRound_6 : decode cX2_takeRound 6 = .ok (.aload_n 0, 1) := by decide +kernel
theorem dX2_takeRound_7 : decode cX2_takeRound 7 = .ok (.getfield 18, 3) := by decide +kernel
theorem dX2_takeRound_10 : decode cX2_takeRound 10 = .ok (.putfield 39, 3) := by decide +kernel
theorem dX2_takeRound_13 : decode cX2_takeRound 13 = .ok (.aload_n 0, 1) := by decide +kernel
theorem dX2_takeRound_14 : decode cX2_takeRound 14 = .ok (.aload_n 2, 1) := by decide +kernel
theorem dX2_takeRound_15 : decode cX2_takeRound 15 = .ok (.putfield 18, 3) := by decide +kernel
theorem dX2_takeRound_18 : decode cX2_takeRound 18 = .ok (.return_, 1) := by decide +kernel
theorem dX2_describe_0 : decode cX2_describe 0 = .ok (.iconst 0, 1) := by decide +kernel
theorem dX2_describe_1 : decode cX2_describe 1 = .ok (.istore_n 3, 1) := by decide +kernel
theorem dX2_describe_2 : decode cX2_describe 2 = .ok (.iconst 0, 1) := by decide +kernel
theorem dX2_describe_3 : decode cX2_describe 3 = .ok (.istore 4, 2) := by decide +kernel
theorem dX2_describe_5 : decode cX2_describe 5 = .ok (.iload 4, 2) := by decide +kernel
theorem dX2_describe_7 : decode cX2_describe 7 = .ok (.aload_n 1, 1) := by decide +kernel
theorem dX2_describe_8 : decode cX2_describe 8 = .ok (.getfield 100, 3) := by decide +kernel
theorem dX2_describe_11 : decode cX2_describe 11 = .ok (.if_icmp .ge 98, 3) := by decide +kernel
theorem dX2_describe_14 : decode cX2_describe 14 = .ok (.iconst 0, 1) := by decide +kernel
theorem dX2_describe_15 : decode cX2_describe 15 = .ok (.istore 5, 2) := by decide +kernel
theorem dX2_describe_17 : decode cX2_describe 17 = .ok (.iconst 0, 1) := by decide +kernel
theorem dX2_describe_18 : decode cX2_describe 18 = .ok (.istore 6, 2) := by decide +kernel
theorem dX2_describe_20 : decode cX2_describe 20 = .ok (.iconst 0, 1) := by decide +kernel
theorem dX2_describe_21 : decode cX2_describe 21 = .ok (.istore 7, 2) := by decide +kernel
theorem dX2_describe_23 : decode cX2_describe 23 = .ok (.iload 7, 2) := by decide +kernel
theorem dX2_describe_25 : decode cX2_describe 25 = .ok (.iconst 3, 1) := by decide +kernel
theorem dX2_describe_26 : decode cX2_describe 26 = .ok (.if_icmp .ge 61, 3) := by decide +kernel
theorem dX2_describe_29 : decode cX2_describe 29 = .ok (.aload_n 1, 1) := by decide +kernel
theorem dX2_describe_30 : decode cX2_describe 30 = .ok (.getfield 103, 3) := by decide +kernel
theorem dX2_describe_33 : decode cX2_describe 33 = .ok (.iload 4, 2) := by decide +kernel
theorem dX2_describe_35 : decode cX2_describe 35 = .ok (.iaload, 1) := by decide +kernel
theorem dX2_describe_36 : decode cX2_describe 36 = .ok (.iload 7, 2) := by decide +kernel
theorem dX2_describe_38 : decode cX2_describe 38 = .ok (.invokestatic 106, 3) := by decide +kernel
theorem dX2_describe_41 : decode cX2_describe 41 = .ok (.istore 8, 2) := by decide +kernel
theorem dX2_describe_43 : decode cX2_describe 43 = .ok (.iload 6, 2) := by decide +kernel
theorem dX2_describe_45 : decode cX2_describe 45 = .ok (.ifCond .ne 11, 3) := by decide +kernel
theorem dX2_describe_48 : decode cX2_describe 48 = .ok (.iload 8, 2) := by decide +kernel
theorem dX2_describe_50 : decode cX2_describe 50 = .ok (.iconst (-1), 1) := by decide +kernel
theorem dX2_describe_51 : decode cX2_describe 51 = .ok (.iload_n 2, 1) := by decide +kernel
theorem dX2_describe_52 : decode cX2_describe 52 = .ok (.isub, 1) := by decide +kernel
theorem dX2_describe_53 : decode cX2_describe 53 = .ok (.if_icmp .ne 7, 3) := by decide +kernel
theorem dX2_describe_56 : decode cX2_describe 56 = .ok (.iconst 1, 1) := by decide +kernel
theorem dX2_describe_57 : decode cX2_describe 57 = .ok (.goto 4, 3) := by decide +kernel
theorem dX2_describe_60 : decode cX2_describe 60 = .ok (.iconst 0, 1) := by decide +kernel
theorem dX2_describe_61 : decode cX2_describe 61 = .ok (.istore 6, 2) := by decide +kernel
theorem dX2_describe_63 : decode cX2_describe 63 = .ok (.iload 5, 2) := by decide +kernel
theorem dX2_describe_65 : decode cX2_describe 65 = .ok (.bipush 10, 2) := by decide +kernel
theorem dX2_describe_67 : decode cX2_describe 67 = .ok (.ishl, 1) := by decide +kernel
theorem dX2_describe_68 : decode cX2_describe 68 = .ok (.aload_n 1, 1) := by decide +kernel
theorem dX2_describe_69 : decode cX2_describe 69 = .ok (.getfield 39, 3) := by decide +kernel
theorem dX2_describe_72 : decode cX2_describe 72 = .ok (.iload 8, 2) := by decide +kernel
theorem dX2_describe_74 : decode cX2_describe 74 = .ok (.iload_n 2, 1) := by decide +kernel
theorem dX2_describe_75 : decode cX2_describe 75 = .ok (.invokestatic 109, 3) := by decide +kernel
theorem dX2_describe_78 : decode cX2_describe 78 = .ok (.ior, 1) := by decide +kernel
theorem dX2_describe_79 : decode cX2_describe 79 = .ok (.istore 5, 2) := by decide +kernel
theorem dX2_describe_81 : decode cX2_describe 81 = .ok (.iinc 7 1, 3) := by decide +kernel
theorem dX2_describe_84 : decode cX2_describe 84 = .ok (.goto (-61), 3) := by decide +kernel
theorem dX2_describe_87 : decode cX2_describe 87 = .ok (.iload 6, 2) := by decide +kernel
theorem dX2_describe_89 : decode cX2_describe 89 = .ok (.ifCond .eq 14, 3) := by decide +kernel
theorem dX2_describe_92 : decode cX2_describe 92 = .ok (.aload_n 0, 1) := by decide +kernel
theorem dX2_describe_93 : decode cX2_describe 93 = .ok (.getfield 9, 3) := by decide +kernel
theorem dX2_describe_96 : decode cX2_describe 96 = .ok (.iload_n 3, 1) := by decide +kernel
theorem dX2_describe_97 : decode cX2_describe 97 = .ok (.iload 5, 2) := by decide +kernel
theorem dX2_describe_99 : decode cX2_describe 99 = .ok (.iastore, 1) := by decide +kernel
theorem dX2_describe_100 : decode cX2_describe 100 = .ok (.iinc 3 1, 3) := by decide +kernel
theorem dX2_describe_103 : decode cX2_describe 103 = .ok (.iinc 4 1, 3) := by decide +kernel
theorem dX2_describe_106 : decode cX2_describe 106 = .ok (.goto (-101), 3) := by decide +kernel
theorem dX2_describe_109 : decode cX2_describe 109 = .ok (.iload_n 3, 1) := by decide +kernel
theorem dX2_describe_110 : decode cX2_describe 110 = .ok (.ireturn, 1) := by decide +kernel
theorem dX2_partFor_0 : decode cX2_partFor 0 = .ok (.iload_n 1, 1) := by decide +kernel
theorem dX2_partFor_1 : decode cX2_partFor 1 = .ok (.ifCond .lt 5, 3) := by decide +kernel
theorem dX2_partFor_4 : decode cX2_partFor 4 = .ok (.iload_n 1, 1) := by decide +kernel
theorem dX2_partFor_5 : decode cX2_partFor 5 = .ok (.ireturn, 1) := by decide +kernel
theorem dX2_partFor_6 : decode cX2_partFor 6 = .ok (.iload_n 1, 1) := by decide +kernel
theorem dX2_partFor_7 : decode cX2_partFor 7 = .ok (.iconst (-1), 1) := by decide +kernel
theorem dX2_partFor_8 : decode cX2_partFor 8 = .ok (.iload_n 2, 1) := by decide +kernel
theorem dX2_partFor_9 : decode cX2_partFor 9 = .ok (.isub, 1) := by decide +kernel
theorem dX2_partFor_10 : decode cX2_partFor 10 = .ok (.if_icmp .ne 9, 3) := by decide +kernel
theorem dX2_partFor_13 : decode cX2_partFor 13 = .ok (.sipush 1001, 3) := by decide +kernel
theorem dX2_partFor_16 : decode cX2_partFor 16 = .ok (.goto 15, 3) := by decide +kernel
theorem dX2_partFor_19 : decode cX2_partFor 19 = .ok (.sipush 1002, 3) := by decide +kernel
theorem dX2_partFor_22 : decode cX2_partFor 22 = .ok (.aload_n 0, 1) := by decide +kernel
theorem dX2_partFor_23 : decode cX2_partFor 23 = .ok (.getfield 82, 3) := by decide +kernel
theorem dX2_partFor_26 : decode cX2_partFor 26 = .ok (.iconst (-1), 1) := by decide +kernel
theorem dX2_partFor_27 : decode cX2_partFor 27 = .ok (.iload_n 1, 1) := by decide +kernel
theorem dX2_partFor_28 : decode cX2_partFor 28 = .ok (.isub, 1) := by decide +kernel
theorem dX2_partFor_29 : decode cX2_partFor 29 = .ok (.iaload, 1) := by decide +kernel
theorem dX2_partFor_30 : decode cX2_partFor 30 = .ok (.iadd, 1) := by decide +kernel
theorem dX2_partFor_31 : decode cX2_partFor 31 = .ok (.ireturn, 1) := by decide +kernel
theorem dX2_putContent_0 : decode cX2_putContent 0 = .ok (.iload_n 2, 1) := by decide +kernel
theorem dX2_putContent_1 : decode cX2_putContent 1 = .ok (.sipush 1001, 3) := by decide +kernel
theorem dX2_putContent_4 : decode cX2_putContent 4 = .ok (.if_icmp .ge 12, 3) := by decide +kernel
theorem dX2_putContent_7 : decode cX2_putContent 7 = .ok (.aload_n 0, 1) := by decide +kernel
theorem dX2_putContent_8 : decode cX2_putContent 8 = .ok (.getfield 22, 3) := by decide +kernel
theorem dX2_putContent_11 : decode cX2_putContent 11 = .ok (.iload_n 2, 1) := by decide +kernel
theorem dX2_putContent_12 : decode cX2_putContent 12 = .ok (.iconst 4, 1) := by decide +kernel
theorem dX2_putContent_13 : decode cX2_putContent 13 = .ok (.invokevirtual 93, 3) := by decide +kernel
theorem dX2_putContent_16 : decode cX2_putContent 16 = .ok (.iload_n 2, 1) := by decide +kernel
theorem dX2_putContent_17 : decode cX2_putContent 17 = .ok (.sipush 1002, 3) := by decide +kernel
theorem dX2_putContent_20 : decode cX2_putContent 20 = .ok (.if_icmp .lt 55, 3) := by decide +kernel
theorem dX2_putContent_23 : decode cX2_putContent 23 = .ok (.aload_n 1, 1) := by decide +kernel
theorem dX2_putContent_24 : decode cX2_putContent 24 = .ok (.getfield 113, 3) := by decide +kernel
theorem dX2_putContent_27 : decode cX2_putContent 27 = .ok (.aload_n 1, 1) := by decide +kernel
theorem dX2_putContent_28 : decode cX2_putContent 28 = .ok (.getfield 116, 3) := by decide +kernel
theorem dX2_putContent_31 : decode cX2_putContent 31 = .ok (.iload_n 2, 1) := by decide +kernel
theorem dX2_putContent_32 : decode cX2_putContent 32 = .ok (.sipush 1002, 3) := by decide +kernel
theorem dX2_putContent_35 : decode cX2_putContent 35 = .ok (.isub, 1) := by decide +kernel
theorem dX2_putContent_36 : decode cX2_putContent 36 = .ok (.iaload, 1) := by decide +kernel
theorem dX2_putContent_37 : decode cX2_putContent 37 = .ok (.iaload, 1) := by decide +kernel
theorem dX2_putContent_38 : decode cX2_putContent 38 = .ok (.istore_n 3, 1) := by decide +kernel
theorem dX2_putContent_39 : decode cX2_putContent 39 = .ok (.iconst 0, 1) := by decide +kernel
theorem dX2_putContent_40 : decode cX2_putContent 40 = .ok (.istore 4, 2) := by decide +kernel
theorem dX2_putContent_42 : decode cX2_putContent 42 = .ok (.iload 4, 2) := by decide +kernel
theorem dX2_putContent_44 : decode cX2_putContent 44 = .ok (.bipush 8, 2) := by decide +kernel
theorem dX2_putContent_46 : decode cX2_putContent 46 = .ok (.if_icmp .ge 29, 3) := by decide +kernel
theorem dX2_putContent_49 : decode cX2_putContent 49 = .ok (.aload_n 0, 1) := by decide +kernel
theorem dX2_putContent_50 : decode cX2_putContent 50 = .ok (.getfield 22, 3) := by decide +kernel
theorem dX2_putContent_53 : decode cX2_putContent 53 = .ok (.aload_n 1, 1) := by decide +kernel
theorem dX2_putContent_54 : decode cX2_putContent 54 = .ok (.getfield 42, 3) := by decide +kernel
theorem dX2_putContent_57 : decode cX2_putContent 57 = .ok (.iload_n 3, 1) := by decide +kernel
theorem dX2_putContent_58 : decode cX2_putContent 58 = .ok (.bipush 8, 2) := by decide +kernel
theorem dX2_putContent_60 : decode cX2_putContent 60 = .ok (.imul, 1) := by decide +kernel
theorem dX2_putContent_61 : decode cX2_putContent 61 = .ok (.iload 4, 2) := by decide +kernel
theorem dX2_putContent_63 : decode cX2_putContent 63 = .ok (.iadd, 1) := by decide +kernel
theorem dX2_putContent_64 : decode cX2_putContent 64 = .ok (.iaload, 1) := by decide +kernel
theorem dX2_putContent_65 : decode cX2_putContent 65 = .ok (.iconst 4, 1) := by decide +kernel
theorem dX2_putContent_66 : decode cX2_putContent 66 = .ok (.invokevirtual 93, 3) := by decide +kernel
theorem dX2_putContent_69 : decode cX2_putContent 69 = .ok (.iinc 4 1, 3) := by decide +kernel
theorem dX2_putContent_72 : decode cX2_putContent 72 = .ok (.goto (-30), 3) := by decide +kernel
theorem dX2_putContent_75 : decode cX2_putContent 75 = .ok (.return_, 1) := by decide +kernel
theorem dX3_init_0 : decode cX3_init 0 = .ok (.aload_n 0, 1) := by decide +kernel
theorem dX3_init_1 : decode cX3_init 1 = .ok (.invokespecial 3, 3) := by decide +kernel
theorem dX3_init_4 : decode cX3_init 4 = .ok (.aload_n 0, 1) := by decide +kernel
theorem dX3_init_5 : decode cX3_init 5 = .ok (.bipush 8, 2) := by decide +kernel
theorem dX3_init_7 : decode cX3_init 7 = .ok (.newarray .int, 2) := by decide +kernel
theorem dX3_init_9 : decode cX3_init 9 = .ok (.putfield 9, 3) := by decide +kernel
theorem dX3_init_12 : decode cX3_init 12 = .ok (.aload_n 0, 1) := by decide +kernel
theorem dX3_init_13 : decode cX3_init 13 = .ok (.bipush 8, 2) := by decide +kernel
theorem dX3_init_15 : decode cX3_init 15 = .ok (.newarray .int, 2) := by decide +kernel
theorem dX3_init_17 : decode cX3_init 17 = .ok (.putfield 15, 3) := by decide +kernel
theorem dX3_init_20 : decode cX3_init 20 = .ok (.aload_n 0, 1) := by decide +kernel
theorem dX3_init_21 : decode cX3_init 21 = .ok (.bipush 40, 2) := by decide +kernel
theorem dX3_init_23 : decode cX3_init 23 = .ok (.newarray .int, 2) := by decide +kernel
theorem dX3_init_25 : decode cX3_init 25 = .ok (.putfield 18, 3) := by decide +kernel
theorem dX3_init_28 : decode cX3_init 28 = .ok (.aload_n 0, 1) := by decide +kernel
theorem dX3_init_29 : decode cX3_init 29 = .ok (.iconst 0, 1) := by decide +kernel
theorem dX3_init_30 : decode cX3_init 30 = .ok (.putfield 21, 3) := by decide +kernel
theorem dX3_init_33 : decode cX3_init 33 = .ok (.return_, 1) := by decide +kernel
theorem dX3_find_0 : decode cX3_find 0 = .ok (.aload_n 2, 1) := by decide +kernel
theorem dX3_find_1 : decode cX3_find 1 = .ok (.aload_n 1, 1) := by decide +kernel
theorem dX3_find_2 : decode cX3_find 2 = .ok (.getfield 25, 3) := by decide +kernel
theorem dX3_find_5 : decode cX3_find 5 = .ok (.putfield 25, 3) := by decide +kernel
theorem dX3_find_8 : decode cX3_find 8 = .ok (.aload_n 2, 1) := by decide +kernel
theorem dX3_find_9 : decode cX3_find 9 = .ok (.aload_n 1, 1) := by decide +kernel
theorem dX3_find_10 : decode cX3_find 10 = .ok (.getfield 31, 3) := by decide +kernel
theorem dX3_find_13 : decode cX3_find 13 = .ok (.putfield 31, 3) := by decide +kernel
theorem dX3_find_16 : decode cX3_find 16 = .ok (.iconst 0, 1) := by decide +kernel
theorem dX3_find_17 : decode cX3_find 17 = .ok (.istore_n 3, 1) := by decide +kernel
theorem dX3_find_18 : decode cX3_find 18 = .ok (.iload_n 3, 1) := by decide +kernel
theorem dX3_find_19 : decode cX3_find 19 = .ok (.aload_n 1, 1) := by decide +kernel
theorem dX3_find_20 : decode cX3_find 20 = .ok (.getfield 25, 3) := by decide +kernel
theorem dX3_find_23 : decode cX3_find 23 = .ok (.if_icmp .ge 35, 3) := by decide +kernel
theorem dX3_find_26 : decode cX3_find 26 = .ok (.aload_n 2, 1) := by decide +kernel
theorem dX3_find_27 : decode cX3_find 27 = .ok (.getfield 34, 3) := by decide +kernel
theorem dX3_find_30 : decode cX3_find 30 = .ok (.getfield 38, 3) := by decide +kernel
theorem dX3_find_33 : decode cX3_find 33 = .ok (.iload_n 3, 1) := by decide +kernel
theorem dX3_find_34 : decode cX3_find 34 = .ok (.aload_n 1, 1) := by decide +kernel
theorem dX3_find_35 : decode cX3_find 35 = .ok (.getfield 34, 3) := by decide +kernel
theorem dX3_find_38 : decode cX3_find 38 = .ok (.getfield 38, 3) := by decide +kernel
theorem dX3_find_41 : decode cX3_find 41 = .ok (.aload_n 1, 1) := by decide +kernel
theorem dX3_find_42 : decode cX3_find 42 = .ok (.getfield 34, 3) := by decide +kernel
theorem dX3_find_45 : decode cX3_find 45 = .ok (.getfield 43, 3) := by decide +kernel
theorem dX3_find_48 : decode cX3_find 48 = .ok (.iload_n 3, 1) := by decide +kernel
theorem dX3_find_49 : decode cX3_find 49 = .ok (.iaload, 1) := by decide +kernel
theorem dX3_find_50 : decode cX3_find 50 = .ok (.iaload, 1) := by decide +kernel
theorem dX3_find_51 : decode cX3_find 51 = .ok (.iastore, 1) := by decide +kernel
theorem dX3_find_52 : decode cX3_find 52 = .ok (.iinc 3 1, 3) := by decide +kernel
theorem dX3_find_55 : decode cX3_find 55 = .ok (.goto (-37), 3) := by decide +kernel
theorem dX3_find_58 : decode cX3_find 58 = .ok (.aload_n 0, 1) := by decide +kernel
theorem dX3_find_59 : decode cX3_find 59 = .ok (.iconst 0, 1) := by decide +kernel
theorem dX3_find_60 : decode cX3_find 60 = .ok (.putfield 21, 3) := by decide +kernel
theorem dX3_find_63 : decode cX3_find 63 = .ok (.aload_n 0, 1) := by decide +kernel
theorem dX3_find_64 : decode cX3_find 64 = .ok (.aload_n 1, 1) := by decide +kernel
theorem dX3_find_65 : decode cX3_find 65 = .ok (.aload_n 2, 1) := by decide +kernel
theorem dX3_find_66 : decode cX3_find 66 = .ok (.aload_n 1, 1) := by decide +kernel
theorem dX3_find_67 : decode cX3_find 67 = .ok (.getfield 25, 3) := by decide +kernel
theorem dX3_find_70 : decode cX3_find 70 = .ok (.iconst 0, 1) := by decide +kernel
theorem dX3_find_71 : decode cX3_find 71 = .ok (.invokevirtual 46, 3) := by decide +kernel
theorem dX3_find_74 : decode cX3_find 74 = .ok (.pop, 1) := by decide +kernel
theorem dX3_find_75 : decode cX3_find 75 = .ok (.return_, 1) := by decide +kernel
theorem dX3_search_0 : decode cX3_search 0 = .ok (.aload_n 0, 1) := by decide +kernel
theorem dX3_search_1 : decode cX3_search 1 = .ok (.aload_n 1, 1) := by decide +kernel
theorem dX3_search_2 : decode cX3_search 2 = .ok (.iload_n 3, 1) := by decide +kernel
theorem dX3_search_3 : decode cX3_search 3 = .ok (.iload 4, 2) := by decide +kernel
theorem dX3_search_5 : decode cX3_search 5 = .ok (.invokevirtual 50, 3) := by decide +kernel
theorem dX3_search_8 : decode cX3_search 8 = .ok (.aload_n 0, 1) := by decide +kernel
theorem dX3_search_9 : decode cX3_search 9 = .ok (.getfield 21, 3) := by decide +kernel
theorem dX3_search_12 : decode cX3_search 12 = .ok (.ifCond .eq 21, 3) := by decide +kernel
theorem dX3_search_15 : decode cX3_search 15 = .ok (.aload_n 0, 1) := by decide +kernel
theorem dX3_search_16 : decode cX3_search 16 = .ok (.getfield 18, 3) := by decide +kernel
theorem dX3_search_19 : decode cX3_search 19 = .ok (.aload_n 2, 1) := by decide +kernel
theorem dX3_search_20 : decode cX3_search 20 = .ok (.getfield 54, 3) := by decide +kernel
theorem dX3_search_23 : decode cX3_search 23 = .ok (.aload_n 2, 1) := by decide +kernel
theorem dX3_search_24 : decode cX3_search 24 = .ok (.getfield 31, 3) := by decide +kernel
theorem dX3_search_27 : decode cX3_search 27 = .ok (.invokestatic 57, 3) := by decide +kernel
theorem dX3_search_30 : decode cX3_search 30 = .ok (.goto 4, 3) := by decide +kernel
theorem dX3_search_33 : decode cX3_search 33 = .ok (.iconst (-1), 1) := by decide +kernel
theorem dX3_search_34 : decode cX3_search 34 = .ok (.istore 5, 2) := by decide +kernel
theorem dX3_search_36 : decode cX3_search 36 = .ok (.iload_n 3, 1) := by decide +kernel
theorem dX3_search_37 : decode cX3_search 37 = .ok (.iconst 1, 1) := by decide +kernel
theorem dX3_search_38 : decode cX3_search 38 = .ok (.if_icmp .lt 9, 3) := by decide +kernel
theorem dX3_search_41 : decode cX3_search 41 = .ok (.iload_n 3, 1) := by decide +kernel
theorem dX3_search_42 : decode cX3_search 42 = .ok (.bipush 8, 2) := by decide +kernel
theorem dX3_search_44 : decode cX3_search 44 = .ok (.if_icmp .le 12, 3) := by decide +kernel
theorem dX3_search_47 : decode cX3_search 47 = .ok (.aload_n 0, 1) := by decide +kernel
theorem dX3_search_48 : decode cX3_search 48 = .ok (.aload_n 1, 1) := by decide +kernel
theorem dX3_search_49 : decode cX3_search 49 = .ok (.aload_n 2, 1) := by decide +kernel
theorem dX3_search_50 : decode cX3_search 50 = .ok (.iload 5, 2) := by decide +kernel
theorem dX3_search_52 : decode cX3_search 52 = .ok (.invokevirtual 61, 3) := by decide +kernel
theorem dX3_search_55 : decode cX3_search 55 = .ok (.ireturn, 1) := by decide +kernel
theorem dX3_search_56 : decode cX3_search 56 = .ok (.iload 5, 2) := by decide +kernel
theorem dX3_search_58 : decode cX3_search 58 = .ok (.ifCond .le 5, 3) := by decide +kernel
theorem dX3_search_61 : decode cX3_search 61 = .ok (.iconst 0, 1) := by decide +kernel
theorem dX3_search_62 : decode cX3_search 62 = .ok (.ireturn, 1) := by decide +kernel
theorem dX3_search_63 : decode cX3_search 63 = .ok (.aload_n 1, 1) := by decide +kernel
theorem dX3_search_64 : decode cX3_search 64 = .ok (.getfield 34, 3) := by decide +kernel
theorem dX3_search_67 : decode cX3_search 67 = .ok (.astore 6, 2) := by decide +kernel
theorem dX3_search_69 : decode cX3_search 69 = .ok (.aload_n 2, 1) := by decide +kernel
theorem dX3_search_70 : decode cX3_search 70 = .ok (.getfield 34, 3) := by decide +kernel
theorem dX3_search_73 : decode cX3_search 73 = .ok (.getfield 38, 3) := by decide +kernel
theorem dX3_search_76 : decode cX3_search 76 = .ok (.iload_n 3, 1) := by decide +kernel
theorem dX3_search_77 : decode cX3_search 77 = .ok (.iconst 1, 1) := by decide +kernel
theorem dX3_search_78 : decode cX3_search 78 = .ok (.isub, 1) := by decide +kernel
theorem dX3_search_79 : decode cX3_search 79 = .ok (.iaload, 1) := by decide +kernel
theorem dX3_search_80 : decode cX3_search 80 = .ok (.istore 7, 2) := by decide +kernel
theorem dX3_search_82 : decode cX3_search 82 = .ok (.aload 6, 2) := by decide +kernel
theorem dX3_search_84 : decode cX3_search 84 = .ok (.getfield 65, 3) := by decide +kernel
theorem dX3_search_87 : decode cX3_search 87 = .ok (.iload 7, 2) := by decide +kernel
theorem dX3_search_89 : decode cX3_search 89 = .ok (.iaload, 1) := by decide +kernel
theorem dX3_search_90 : decode cX3_search 90 = .ok (.istore 8, 2) := by decide +kernel
theorem dX3_search_92 : decode cX3_search 92 = .ok (.iload 8, 2) := by decide +kernel
theorem dX3_search_94 : decode cX3_search 94 = .ok (.aload 6, 2) := by decide +kernel
theorem dX3_search_96 : decode cX3_search 96 = .ok (.getfield 65, 3) := by decide +kernel
theorem dX3_search_99 : decode cX3_search 99 = .ok (.iload 7, 2) := by decide +kernel
theorem dX3_search_101 : decode cX3_search 101 = .ok (.iconst 1, 1) := by decide +kernel
theorem dX3_search_102 : decode cX3_search 102 = .ok (.iadd, 1) := by decide +kernel
theorem dX3_search_103 : decode cX3_search 103 = .ok (.iaload, 1) := by decide +kernel
theorem dX3_search_104 : decode cX3_search 104 = .ok (.if_icmp .ge 64, 3) := by decide +kernel
theorem dX3_search_107 : decode cX3_search 107 = .ok (.aload 6, 2) := by decide +kernel
theorem dX3_search_109 : decode cX3_search 109 = .ok (.getfield 43, 3) := by decide +kernel
theorem dX3_search_112 : decode cX3_search 112 = .ok (.iload 8, 2) := by decide +kernel
theorem dX3_search_114 : decode cX3_search 114 = .ok (.iaload, 1) := by decide +kernel
theorem dX3_search_115 : decode cX3_search 115 = .ok (.istore 9, 2) := by decide +kernel
theorem dX3_search_117 : decode cX3_search 117 = .ok (.iload 4, 2) := by decide +kernel
theorem dX3_search_119 : decode cX3_search 119 = .ok (.iload 9, 2) := by decide +kernel
theorem dX3_search_121 : decode cX3_search 121 = .ok (.ishr, 1) := by decide +kernel
theorem dX3_search_122 : decode cX3_search 122 = .ok (.iconst 1, 1) := by decide +kernel
theorem dX3_search_123 : decode cX3_search 123 = .ok (.iand, 1) := by decide +kernel
theorem dX3_search_124 : decode cX3_search 124 = .ok (.ifCond .ne 38, 3) := by decide +kernel
theorem dX3_search_127 : decode cX3_search 127 = .ok (.aload_n 0, 1) := by decide +kernel
theorem dX3_search_128 : decode cX3_search 128 = .ok (.getfield 9, 3) := by decide +kernel
theorem dX3_search_131 : decode cX3_search 131 = .ok (.iload 9, 2) := by decide +kernel
theorem dX3_search_133 : decode cX3_search 133 = .ok (.iload_n 3, 1) := by decide +kernel
theorem dX3_search_134 : decode cX3_search 134 = .ok (.iastore, 1) := by decide +kernel
theorem dX3_search_135 : decode cX3_search 135 = .ok (.aload_n 0, 1) := by decide +kernel
theorem dX3_search_136 : decode cX3_search 136 = .ok (.aload_n 1, 1) := by decide +kernel
theorem dX3_search_137 : decode cX3_search 137 = .ok (.aload_n 2, 1) := by decide +kernel
theorem dX3_search_138 : decode cX3_search 138 = .ok (.iload_n 3, 1) := by decide +kernel
theorem dX3_search_139 : decode cX3_search 139 = .ok (.iconst 1, 1) := by decide +kernel
theorem dX3_search_140 : decode cX3_search 140 = .ok (.isub, 1) := by decide +kernel
theorem dX3_search_141 : decode cX3_search 141 = .ok (.iload 4, 2) := by decide +kernel
theorem dX3_search_143 : decode cX3_search 143 = .ok (.iconst 1, 1) := by decide +kernel
theorem dX3_search_144 : decode cX3_search 144 = .ok (.iload 9, 2) := by decide +kernel
theorem dX3_search_146 : decode cX3_search 146 = .ok (.ishl, 1) := by decide +kernel
theorem dX3_search_147 : decode cX3_search 147 = .ok (.ior, 1) := by decide +kernel
theorem dX3_search_148 : decode cX3_search 148 = .ok (.invokevirtual 46, 3) := by decide +kernel
theorem dX3_search_151 : decode cX3_search 151 = .ok (.istore 10, 2) := by decide +kernel
theorem dX3_search_153 : decode cX3_search 153 = .ok (.iload 10, 2) := by decide +kernel
theorem dX3_search_155 : decode cX3_search 155 = .ok (.iload_n 3, 1) := by decide +kernel
theorem dX3_search_156 : decode cX3_search 156 = .ok (.if_icmp .le 6, 3) := by decide +kernel
theorem dX3_search_159 : decode cX3_search 159 = .ok (.iload 10, 2) := by decide +kernel
theorem dX3_search_161 : decode cX3_search 161 = .ok (.ireturn, 1) := by decide +kernel
theorem dX3_search_162 : decode cX3_search 162 = .ok (.iinc 8 1, 3) := by decide +kernel
theorem dX3_search_165 : decode cX3_search 165 = .ok (.goto (-73), 3) := by decide +kernel
theorem dX3_search_168 : decode cX3_search 168 = .ok (.iconst 0, 1) := by decide +kernel
theorem dX3_search_169 : decode cX3_search 169 = .ok (.ireturn, 1) := by decide +kernel
theorem dX3_settle_0 : decode cX3_settle 0 = .ok (.iload_n 3, 1) := by decide +kernel
theorem dX3_settle_1 : decode cX3_settle 1 = .ok (.ifCond .ge 42, 3) := by decide +kernel
theorem dX3_settle_4 : decode cX3_settle 4 = .ok (.aload_n 0, 1) := by decide +kernel
theorem dX3_settle_5 : decode cX3_settle 5 = .ok (.getfield 18, 3) := by decide +kernel
theorem dX3_settle_8 : decode cX3_settle 8 = .ok (.iconst 0, 1) := by decide +kernel
theorem dX3_settle_9 : decode cX3_settle 9 = .ok (.aload_n 2, 1) := by decide +kernel
theorem dX3_settle_10 : decode cX3_settle 10 = .ok (.getfield 54, 3) := by decide +kernel
theorem dX3_settle_13 : decode cX3_settle 13 = .ok (.iconst 0, 1) := by decide +kernel
theorem dX3_settle_14 : decode cX3_settle 14 = .ok (.aload_n 2, 1) := by decide +kernel
theorem dX3_settle_15 : decode cX3_settle 15 = .ok (.getfield 31, 3) := by decide +kernel
theorem dX3_settle_18 : decode cX3_settle 18 = .ok (.invokestatic 68, 3) := by decide +kernel
theorem dX3_settle_21 : decode cX3_settle 21 = .ok (.aload_n 0, 1) := by decide +kernel
theorem dX3_settle_22 : decode cX3_settle 22 = .ok (.getfield 9, 3) := by decide +kernel
theorem dX3_settle_25 : decode cX3_settle 25 = .ok (.iconst 0, 1) := by decide +kernel
theorem dX3_settle_26 : decode cX3_settle 26 = .ok (.aload_n 0, 1) := by decide +kernel
theorem dX3_settle_27 : decode cX3_settle 27 = .ok (.getfield 15, 3) := by decide +kernel
theorem dX3_settle_30 : decode cX3_settle 30 = .ok (.iconst 0, 1) := by decide +kernel
theorem dX3_settle_31 : decode cX3_settle 31 = .ok (.aload_n 1, 1) := by decide +kernel
theorem dX3_settle_32 : decode cX3_settle 32 = .ok (.getfield 25, 3) := by decide +kernel
theorem dX3_settle_35 : decode cX3_settle 35 = .ok (.invokestatic 68, 3) := by decide +kernel
theorem dX3_settle_38 : decode cX3_settle 38 = .ok (.aload_n 0, 1) := by decide +kernel
theorem dX3_settle_39 : decode cX3_settle 39 = .ok (.iconst 1, 1) := by decide +kernel
theorem dX3_settle_40 : decode cX3_settle 40 = .ok (.putfield 21, 3) := by decide +kernel
theorem dX3_settle_43 : decode cX3_settle 43 = .ok (.iload_n 3, 1) := by decide +kernel
theorem dX3_settle_44 : decode cX3_settle 44 = .ok (.ifCond .ne 14, 3) := by decide +kernel
theorem dX3_settle_47 : decode cX3_settle 47 = .ok (.aload_n 0, 1) := by decide +kernel
theorem dX3_settle_48 : decode cX3_settle 48 = .ok (.aload_n 1, 1) := by decide +kernel
theorem dX3_settle_49 : decode cX3_settle 49 = .ok (.getfield 25, 3) := by decide +kernel
theorem dX3_settle_52 : decode cX3_settle 52 = .ok (.invokevirtual 74, 3) := by decide +kernel
theorem dX3_settle_55 : decode cX3_settle 55 = .ok (.goto 4, 3) := by decide +kernel
theorem dX3_settle_58 : decode cX3_settle 58 = .ok (.iconst 0, 1) := by decide +kernel
theorem dX3_settle_59 : decode cX3_settle 59 = .ok (.ireturn, 1) := by decide +kernel
theorem dX3_greatestDifference_0 : decode cX3_greatestDifference 0 = .ok (.iconst 0, 1) := by decide +kernel
theorem dX3_greatestDifference_1 : decode cX3_greatestDifference 1 = .ok (.istore_n 2, 1) := by decide +kernel
theorem dX3_greatestDifference_2 : decode cX3_greatestDifference 2 = .ok (.iconst 0, 1) := by decide +kernel
theorem dX3_greatestDifference_3 : decode cX3_greatestDifference 3 = .ok (.istore_n 3, 1) := by decide +kernel
theorem dX3_greatestDifference_4 : decode cX3_greatestDifference 4 = .ok (.iload_n 3, 1) := by decide +kernel
theorem dX3_greatestDifference_5 : decode cX3_greatestDifference 5 = .ok (.iload_n 1, 1) := by decide +kernel
theorem dX3_greatestDifference_6 : decode cX3_greatestDifference 6 = .ok (.if_icmp .ge 35, 3) := by decide +kernel
theorem dX3_greatestDifference_9 : decode cX3_greatestDifference 9 = .ok (.aload_n 0, 1) := by decide +kernel
theorem dX3_greatestDifference_10 : decode cX3_greatestDifference 10 = .ok (.getfield 9, 3) := by decide +kernel
theorem dX3_greatestDifference_13 : decode cX3_greatestDifference 13 = .ok (.iload_n 3, 1) := by decide +kernel
theorem dX3_greatestDifference_14 : decode cX3_greatestDifference 14 = .ok (.iaload, 1) := by decide +kernel
theorem dX3_greatestDifference_15 : decode cX3_greatestDifference 15 = .ok (.aload_n 0, 1) := by decide +kernel
theorem dX3_greatestDifference_16 : decode cX3_greatestDifference 16 = .ok (.getfield 15, 3) := by decide +kernel
theorem dX3_greatestDifference_19 : decode cX3_greatestDifference 19 = .ok (.iload_n 3, 1) := by decide +kernel
theorem dX3_greatestDifference_20 : decode cX3_greatestDifference 20 = .ok (.iaload, 1) := by decide +kernel
theorem dX3_greatestDifference_21 : decode cX3_greatestDifference 21 = .ok (.if_icmp .eq 14, 3) := by decide +kernel
theorem dX3_greatestDifference_24 : decode cX3_greatestDifference 24 = .ok (.iload_n 2, 1) := by decide +kernel
theorem dX3_greatestDifference_25 : decode cX3_greatestDifference 25 = .ok (.aload_n 0, 1) := by decide +kernel
theorem dX3_greatestDifference_26 : decode cX3_greatestDifference 26 = .ok (.getfield 9, 3) := by decide +kernel
theorem dX3_greatestDifference_29 : decode cX3_greatestDifference 29 = .ok (.iload_n 3, 1) := by decide +kernel
theorem dX3_greatestDifference_30 : decode cX3_greatestDifference 30 = .ok (.iaload, 1) := by decide +kernel
theorem dX3_greatestDifference_31 : decode cX3_greatestDifference 31 = .ok (.invokestatic 78, 3) := by decide +kernel
theorem dX3_greatestDifference_34 : decode cX3_greatestDifference 34 = .ok (.istore_n 2, 1) := by decide +kernel
theorem dX3_greatestDifference_35 : decode cX3_greatestDifference 35 = .ok (.iinc 3 1, 3) := by decide +kernel
theorem dX3_greatestDifference_38 : decode cX3_greatestDifference 38 = .ok (.goto (-34), 3) := by decide +kernel
theorem dX3_greatestDifference_41 : decode cX3_greatestDifference 41 = .ok (.iload_n 2, 1) := by decide +kernel
theorem dX3_greatestDifference_42 : decode cX3_greatestDifference 42 = .ok (.ireturn, 1) := by decide +kernel
theorem dX3_layTrial_0 : decode cX3_layTrial 0 = .ok (.aload_n 1, 1) := by decide +kernel
theorem dX3_layTrial_1 : decode cX3_layTrial 1 = .ok (.getfield 34, 3) := by decide +kernel
theorem dX3_layTrial_4 : decode cX3_layTrial 4 = .ok (.astore 4, 2) := by decide +kernel
theorem dX3_layTrial_6 : decode cX3_layTrial 6 = .ok (.iconst 0, 1) := by decide +kernel
theorem dX3_layTrial_7 : decode cX3_layTrial 7 = .ok (.istore 5, 2) := by decide +kernel
theorem dX3_layTrial_9 : decode cX3_layTrial 9 = .ok (.iload 5, 2) := by decide +kernel
theorem dX3_layTrial_11 : decode cX3_layTrial 11 = .ok (.aload_n 1, 1) := by decide +kernel
theorem dX3_layTrial_12 : decode cX3_layTrial 12 = .ok (.getfield 25, 3) := by decide +kernel
theorem dX3_layTrial_15 : decode cX3_layTrial 15 = .ok (.if_icmp .ge 45, 3) := by decide +kernel
theorem dX3_layTrial_18 : decode cX3_layTrial 18 = .ok (.iload_n 3, 1) := by decide +kernel
theorem dX3_layTrial_19 : decode cX3_layTrial 19 = .ok (.iload 5, 2) := by decide +kernel
theorem dX3_layTrial_21 : decode cX3_layTrial 21 = .ok (.ishr, 1) := by decide +kernel
theorem dX3_layTrial_22 : decode cX3_layTrial 22 = .ok (.iconst 1, 1) := by decide +kernel
theorem dX3_layTrial_23 : decode cX3_layTrial 23 = .ok (.iand, 1) := by decide +kernel
theorem dX3_layTrial_24 : decode cX3_layTrial 24 = .ok (.ifCond .ne 30, 3) := by decide +kernel
theorem dX3_layTrial_27 : decode cX3_layTrial 27 = .ok (.aload_n 0, 1) := by decide +kernel
theorem dX3_layTrial_28 : decode cX3_layTrial 28 = .ok (.getfield 9, 3) := by decide +kernel
theorem dX3_layTrial_31 : decode cX3_layTrial 31 = .ok (.iload 5, 2) := by decide +kernel
theorem dX3_layTrial_33 : decode cX3_layTrial 33 = .ok (.iload_n 2, 1) := by decide +kernel
theorem dX3_layTrial_34 : decode cX3_layTrial 34 = .ok (.aload 4, 2) := by decide +kernel
theorem dX3_layTrial_36 : decode cX3_layTrial 36 = .ok (.getfield 65, 3) := by decide +kernel
theorem dX3_layTrial_39 : decode cX3_layTrial 39 = .ok (.aload 4, 2) := by decide +kernel
theorem dX3_layTrial_41 : decode cX3_layTrial 41 = .ok (.getfield 38, 3) := by decide +kernel
theorem dX3_layTrial_44 : decode cX3_layTrial 44 = .ok (.iload 5, 2) := by decide +kernel
theorem dX3_layTrial_46 : decode cX3_layTrial 46 = .ok (.iaload, 1) := by decide +kernel
theorem dX3_layTrial_47 : decode cX3_layTrial 47 = .ok (.iconst 1, 1) := by decide +kernel
theorem dX3_layTrial_48 : decode cX3_layTrial 48 = .ok (.iadd, 1) := by decide +kernel
theorem dX3_layTrial_49 : decode cX3_layTrial 49 = .ok (.iaload, 1) := by decide +kernel
theorem dX3_layTrial_50 : decode cX3_layTrial 50 = .ok (.invokestatic 84, 3) := by decide +kernel
theorem dX3_layTrial_53 : decode cX3_layTrial 53 = .ok (.iastore, 1) := by decide +kernel
theorem dX3_layTrial_54 : decode cX3_layTrial 54 = .ok (.iinc 5 1, 3) := by decide +kernel
theorem dX3_layTrial_57 : decode cX3_layTrial 57 = .ok (.goto (-48), 3) := by decide +kernel
theorem dX3_layTrial_60 : decode cX3_layTrial 60 = .ok (.iconst 0, 1) := by decide +kernel
theorem dX3_layTrial_61 : decode cX3_layTrial 61 = .ok (.istore 5, 2) := by decide +kernel
theorem dX3_layTrial_63 : decode cX3_layTrial 63 = .ok (.iload 5, 2) := by decide +kernel
theorem dX3_layTrial_65 : decode cX3_layTrial 65 = .ok (.aload_n 1, 1) := by decide +kernel
theorem dX3_layTrial_66 : decode cX3_layTrial 66 = .ok (.getfield 31, 3) := by decide +kernel
theorem dX3_layTrial_69 : decode cX3_layTrial 69 = .ok (.if_icmp .ge 30, 3) := by decide +kernel
theorem dX3_layTrial_72 : decode cX3_layTrial 72 = .ok (.aload_n 0, 1) := by decide +kernel
theorem dX3_layTrial_73 : decode cX3_layTrial 73 = .ok (.getfield 18, 3) := by decide +kernel
theorem dX3_layTrial_76 : decode cX3_layTrial 76 = .ok (.iload 5, 2) := by decide +kernel
theorem dX3_layTrial_78 : decode cX3_layTrial 78 = .ok (.aload_n 1, 1) := by decide +kernel
theorem dX3_layTrial_79 : decode cX3_layTrial 79 = .ok (.getfield 54, 3) := by decide +kernel
theorem dX3_layTrial_82 : decode cX3_layTrial 82 = .ok (.iload 5, 2) := by decide +kernel
theorem dX3_layTrial_84 : decode cX3_layTrial 84 = .ok (.iaload, 1) := by decide +kernel
theorem dX3_layTrial_85 : decode cX3_layTrial 85 = .ok (.aload_n 0, 1) := by decide +kernel
theorem dX3_layTrial_86 : decode cX3_layTrial 86 = .ok (.getfield 9, 3) := by decide +kernel
theorem dX3_layTrial_89 : decode cX3_layTrial 89 = .ok (.invokestatic 87, 3) := by decide +kernel
theorem dX3_layTrial_92 : decode cX3_layTrial 92 = .ok (.iastore, 1) := by decide +kernel
theorem dX3_layTrial_93 : decode cX3_layTrial 93 = .ok (.iinc 5 1, 3) := by decide +kernel
theorem dX3_layTrial_96 : decode cX3_layTrial 96 = .ok (.goto (-33), 3) := by decide +kernel
theorem dX3_layTrial_99 : decode cX3_layTrial 99 = .ok (.aload_n 0, 1) := by decide +kernel
theorem dX3_layTrial_100 : decode cX3_layTrial 100 = .ok (.getfield 18, 3) := by decide +kernel
theorem dX3_layTrial_103 : decode cX3_layTrial 103 = .ok (.aload_n 1, 1) := by decide +kernel
theorem dX3_layTrial_104 : decode cX3_layTrial 104 = .ok (.getfield 31, 3) := by decide +kernel
theorem dX3_layTrial_107 : decode cX3_layTrial 107 = .ok (.invokestatic 91, 3) := by decide +kernel
theorem dX3_layTrial_110 : decode cX3_layTrial 110 = .ok (.iconst 1, 1) := by decide +kernel
theorem dX3_layTrial_111 : decode cX3_layTrial 111 = .ok (.istore 5, 2) := by decide +kernel
theorem dX3_layTrial_113 : decode cX3_layTrial 113 = .ok (.iload 5, 2) := by decide +kernel
theorem dX3_layTrial_115 : decode cX3_layTrial 115 = .ok (.aload_n 1, 1) := by decide +kernel
theorem dX3_layTrial_116 : decode cX3_layTrial 116 = .ok (.getfield 31, 3) := by decide +kernel
theorem dX3_layTrial_119 : decode cX3_layTrial 119 = .ok (.if_icmp .ge 37, 3) := by decide +kernel
theorem dX3_layTrial_122 : decode cX3_layTrial 122 = .ok (.aload_n 0, 1) := by decide +kernel
theorem dX3_layTrial_123 : decode cX3_layTrial 123 = .ok (.getfield 18, 3) := by decide +kernel
theorem dX3_layTrial_126 : decode cX3_layTrial 126 = .ok (.iload 5, 2) := by decide +kernel
theorem dX3_layTrial_128 : decode cX3_layTrial 128 = .ok (.aload_n 0, 1) := by decide +kernel
theorem dX3_layTrial_129 : decode cX3_layTrial 129 = .ok (.getfield 18, 3) := by decide +kernel
theorem dX3_layTrial_132 : decode cX3_layTrial 132 = .ok (.iload 5, 2) := by decide +kernel
theorem dX3_layTrial_134 : decode cX3_layTrial 134 = .ok (.iaload, 1) := by decide +kernel
theorem dX3_layTrial_135 : decode cX3_layTrial 135 = .ok (.aload_n 0, 1) := by decide +kernel
theorem dX3_layTrial_136 : decode cX3_layTrial 136 = .ok (.getfield 18, 3) := by decide +kernel
theorem dX3_layTrial_139 : decode cX3_layTrial 139 = .ok (.iload 5, 2) := by decide +kernel
theorem dX3_layTrial_141 : decode cX3_layTrial 141 = .ok (.iconst 1, 1) := by decide +kernel
theorem dX3_layTrial_142 : decode cX3_layTrial 142 = .ok (.isub, 1) := by decide +kernel
theorem dX3_layTrial_143 : decode cX3_layTrial 143 = .ok (.iaload, 1) := by decide +kernel
theorem dX3_layTrial_144 : decode cX3_layTrial 144 = .ok (.iconst 1, 1) := by decide +kernel
theorem dX3_layTrial_145 : decode cX3_layTrial 145 = .ok (.iadd, 1) := by decide +kernel
theorem dX3_layTrial_146 : decode cX3_layTrial 146 = .ok (.invokestatic 78, 3) := by decide +kernel
theorem dX3_layTrial_149 : decode cX3_layTrial 149 = .ok (.iastore, 1) := by decide +kernel
theorem dX3_layTrial_150 : decode cX3_layTrial 150 = .ok (.iinc 5 1, 3) := by decide +kernel
theorem dX3_layTrial_153 : decode cX3_layTrial 153 = .ok (.goto (-40), 3) := by decide +kernel
theorem dX3_layTrial_156 : decode cX3_layTrial 156 = .ok (.return_, 1) := by decide +kernel
theorem dX3_compare_0 : decode cX3_compare 0 = .ok (.iconst 0, 1) := by decide +kernel
theorem dX3_compare_1 : decode cX3_compare 1 = .ok (.istore_n 3, 1) := by decide +kernel
theorem dX3_compare_2 : decode cX3_compare 2 = .ok (.iload_n 3, 1) := by decide +kernel
theorem dX3_compare_3 : decode cX3_compare 3 = .ok (.iload_n 2, 1) := by decide +kernel
theorem dX3_compare_4 : decode cX3_compare 4 = .ok (.if_icmp .ge 33, 3) := by decide +kernel
theorem dX3_compare_7 : decode cX3_compare 7 = .ok (.aload_n 0, 1) := by decide +kernel
theorem dX3_compare_8 : decode cX3_compare 8 = .ok (.iload_n 3, 1) := by decide +kernel
theorem dX3_compare_9 : decode cX3_compare 9 = .ok (.iaload, 1) := by decide +kernel
theorem dX3_compare_10 : decode cX3_compare 10 = .ok (.aload_n 1, 1) := by decide +kernel
theorem dX3_compare_11 : decode cX3_compare 11 = .ok (.iload_n 3, 1) := by decide +kernel
theorem dX3_compare_12 : decode cX3_compare 12 = .ok (.iaload, 1) := by decide +kernel
theorem dX3_compare_13 : decode cX3_compare 13 = .ok (.if_icmp .eq 18, 3) := by decide +kernel
theorem dX3_compare_16 : decode cX3_compare 16 = .ok (.aload_n 0, 1) := by decide +kernel
theorem dX3_compare_17 : decode cX3_compare 17 = .ok (.iload_n 3, 1) := by decide +kernel
theorem dX3_compare_18 : decode cX3_compare 18 = .ok (.iaload, 1) := by decide +kernel
theorem dX3_compare_19 : decode cX3_compare 19 = .ok (.aload_n 1, 1) := by decide +kernel
theorem dX3_compare_20 : decode cX3_compare 20 = .ok (.iload_n 3, 1) := by decide +kernel
theorem dX3_compare_21 : decode cX3_compare 21 = .ok (.iaload, 1) := by decide +kernel
theorem dX3_compare_22 : decode cX3_compare 22 = .ok (.if_icmp .ge 7, 3) := by decide +kernel
theorem dX3_compare_25 : decode cX3_compare 25 = .ok (.iconst (-1), 1) := by decide +kernel
theorem dX3_compare_26 : decode cX3_compare 26 = .ok (.goto 4, 3) := by decide +kernel
theorem dX3_compare_29 : decode cX3_compare 29 = .ok (.iconst 1, 1) := by decide +kernel
theorem dX3_compare_30 : decode cX3_compare 30 = .ok (.ireturn, 1) := by decide +kernel
theorem dX3_compare_31 : decode cX3_compare 31 = .ok (.iinc 3 1, 3) := by decide +kernel
theorem dX3_compare_34 : decode cX3_compare 34 = .ok (.goto (-32), 3) := by decide +kernel
theorem dX3_compare_37 : decode cX3_compare 37 = .ok (.iconst 0, 1) := by decide +kernel
theorem dX3_compare_38 : decode cX3_compare 38 = .ok (.ireturn, 1) := by decide +kernel
end
section
theorem dX4_init_0 : decode cX4_init 0 = .ok (.aload_n 0, 1) := by decide +kernel
theorem dX4_init_1 : decode cX4_init 1 = .ok (.invokespecial 3, 3) := by decide +kernel
theorem dX4_init_4 : decode cX4_init 4 = .ok (.aload_n 0, 1) := by decide +kernel
theorem dX4_init_5 : decode cX4_init 5 = .ok (.bipush 8, 2) := by decide +kernel
theorem dX4_init_7 : decode cX4_init 7 = .ok (.newarray .int, 2) := by decide +kernel
theorem dX4_init_9 : decode cX4_init 9 = .ok (.putfield 9, 3) := by decide +kernel
theorem dX4_init_12 : decode cX4_init 12 = .ok (.aload_n 0, 1) := by decide +kernel
theorem dX4_init_13 : decode cX4_init 13 = .ok (.bipush 40, 2) := by decide +kernel
theorem dX4_init_15 : decode cX4_init 15 = .ok (.newarray .int, 2) := by decide +kernel
theorem dX4_init_17 : decode cX4_init 17 = .ok (.putfield 15, 3) := by decide +kernel
theorem dX4_init_20 : decode cX4_init 20 = .ok (.return_, 1) := by decide +kernel
theorem dX4_matches_0 : decode cX4_matches 0 = .ok (.aload_n 0, 1) := by decide +kernel
theorem dX4_matches_1 : decode cX4_matches 1 = .ok (.aload_n 1, 1) := by decide +kernel
theorem dX4_matches_2 : decode cX4_matches 2 = .ok (.invokevirtual 18, 3) := by decide +kernel
theorem dX4_matches_5 : decode cX4_matches 5 = .ok (.aload_n 0, 1) := by decide +kernel
theorem dX4_matches_6 : decode cX4_matches 6 = .ok (.aload_n 1, 1) := by decide +kernel
theorem dX4_matches_7 : decode cX4_matches 7 = .ok (.aload_n 2, 1) := by decide +kernel
theorem dX4_matches_8 : decode cX4_matches 8 = .ok (.iconst (-1), 1) := by decide +kernel
theorem dX4_matches_9 : decode cX4_matches 9 = .ok (.invokevirtual 22, 3) := by decide +kernel
theorem dX4_matches_12 : decode cX4_matches 12 = .ok (.ifCond .eq 18, 3) := by decide +kernel
theorem dX4_matches_15 : decode cX4_matches 15 = .ok (.aload_n 0, 1) := by decide +kernel
theorem dX4_matches_16 : decode cX4_matches 16 = .ok (.aload_n 1, 1) := by decide +kernel
theorem dX4_matches_17 : decode cX4_matches 17 = .ok (.aload_n 2, 1) := by decide +kernel
theorem dX4_matches_18 : decode cX4_matches 18 = .ok (.iconst 0, 1) := by decide +kernel
theorem dX4_matches_19 : decode cX4_matches 19 = .ok (.iconst 0, 1) := by decide +kernel
theorem dX4_matches_20 : decode cX4_matches 20 = .ok (.invokevirtual 26, 3) := by decide +kernel
theorem dX4_matches_23 : decode cX4_matches 23 = .ok (.ifCond .eq 7, 3) := by decide +kernel
theorem dX4_matches_26 : decode cX4_matches 26 = .ok (.iconst 1, 1) := by decide +kernel
theorem dX4_matches_27 : decode cX4_matches 27 = .ok (.goto 4, 3) := by decide +kernel
theorem dX4_matches_30 : decode cX4_matches 30 = .ok (.iconst 0, 1) := by decide +kernel
theorem dX4_matches_31 : decode cX4_matches 31 = .ok (.ireturn, 1) := by decide +kernel
theorem dX4_automorphisms_0 : decode cX4_automorphisms 0 = .ok (.aload_n 0, 1) := by decide +kernel
theorem dX4_automorphisms_1 : decode cX4_automorphisms 1 = .ok (.aload_n 1, 1) := by decide +kernel
theorem dX4_automorphisms_2 : decode cX4_automorphisms 2 = .ok (.invokevirtual 18, 3) := by decide +kernel
theorem dX4_automorphisms_5 : decode cX4_automorphisms 5 = .ok (.iconst 1, 1) := by decide +kernel
theorem dX4_automorphisms_6 : decode cX4_automorphisms 6 = .ok (.istore_n 2, 1) := by decide +kernel
theorem dX4_automorphisms_7 : decode cX4_automorphisms 7 = .ok (.iconst 0, 1) := by decide +kernel
theorem dX4_automorphisms_8 : decode cX4_automorphisms 8 = .ok (.istore_n 3, 1) := by decide +kernel
theorem dX4_automorphisms_9 : decode cX4_automorphisms 9 = .ok (.iconst 0, 1) := by decide +kernel
theorem dX4_automorphisms_10 : decode cX4_automorphisms 10 = .ok (.istore 4, 2) := by decide +kernel
theorem dX4_automorphisms_12 : decode cX4_automorphisms 12 = .ok (.iload 4, 2) := by decide +kernel
theorem dX4_automorphisms_14 : decode cX4_automorphisms 14 = .ok (.aload_n 1, 1) := by decide +kernel
theorem dX4_automorphisms_15 : decode cX4_automorphisms 15 = .ok (.getfield 30, 3) := by decide +kernel
theorem dX4_automorphisms_18 : decode cX4_automorphisms 18 = .ok (.if_icmp .ge 89, 3) := by decide +kernel
theorem dX4_automorphisms_21 : decode cX4_automorphisms 21 = .ok (.iconst 0, 1) := by decide +kernel
theorem dX4_automorphisms_22 : decode cX4_automorphisms 22 = .ok (.istore 5, 2) := by decide +kernel
theorem dX4_automorphisms_24 : decode cX4_automorphisms 24 = .ok (.iload 4, 2) := by decide +kernel
theorem dX4_automorphisms_26 : decode cX4_automorphisms 26 = .ok (.istore 6, 2) := by decide +kernel
theorem dX4_automorphisms_28 : decode cX4_automorphisms 28 = .ok (.iload 6, 2) := by decide +kernel
theorem dX4_automorphisms_30 : decode cX4_automorphisms 30 = .ok (.aload_n 1, 1) := by decide +kernel
theorem dX4_automorphisms_31 : decode cX4_automorphisms 31 = .ok (.getfield 30, 3) := by decide +kernel
theorem dX4_automorphisms_34 : decode cX4_automorphisms 34 = .ok (.if_icmp .ge 44, 3) := by decide +kernel
theorem dX4_automorphisms_37 : decode cX4_automorphisms 37 = .ok (.aload_n 0, 1) := by decide +kernel
theorem dX4_automorphisms_38 : decode cX4_automorphisms 38 = .ok (.aload_n 1, 1) := by decide +kernel
theorem dX4_automorphisms_39 : decode cX4_automorphisms 39 = .ok (.aload_n 1, 1) := by decide +kernel
theorem dX4_automorphisms_40 : decode cX4_automorphisms 40 = .ok (.iload 4, 2) := by decide +kernel
theorem dX4_automorphisms_42 : decode cX4_automorphisms 42 = .ok (.iload 6, 2) := by decide +kernel
theorem dX4_automorphisms_44 : decode cX4_automorphisms 44 = .ok (.invokevirtual 36, 3) := by decide +kernel
theorem dX4_automorphisms_47 : decode cX4_automorphisms 47 = .ok (.ifCond .eq 25, 3) := by decide +kernel
theorem dX4_automorphisms_50 : decode cX4_automorphisms 50 = .ok (.aload_n 0, 1) := by decide +kernel
theorem dX4_automorphisms_51 : decode cX4_automorphisms 51 = .ok (.aload_n 1, 1) := by decide +kernel
theorem dX4_automorphisms_52 : decode cX4_automorphisms 52 = .ok (.aload_n 1, 1) := by decide +kernel
theorem dX4_automorphisms_53 : decode cX4_automorphisms 53 = .ok (.iload 4, 2) := by decide +kernel
theorem dX4_automorphisms_55 : decode cX4_automorphisms 55 = .ok (.iconst 1, 1) := by decide +kernel
theorem dX4_automorphisms_56 : decode cX4_automorphisms 56 = .ok (.iadd, 1) := by decide +kernel
theorem dX4_automorphisms_57 : decode cX4_automorphisms 57 = .ok (.iload_n 3, 1) := by decide +kernel
theorem dX4_automorphisms_58 : decode cX4_automorphisms 58 = .ok (.iconst 1, 1) := by decide +kernel
theorem dX4_automorphisms_59 : decode cX4_automorphisms 59 = .ok (.iload 6, 2) := by decide +kernel
theorem dX4_automorphisms_61 : decode cX4_automorphisms 61 = .ok (.ishl, 1) := by decide +kernel
theorem dX4_automorphisms_62 : decode cX4_automorphisms 62 = .ok (.ior, 1) := by decide +kernel
theorem dX4_automorphisms_63 : decode cX4_automorphisms 63 = .ok (.invokevirtual 26, 3) := by decide +kernel
theorem dX4_automorphisms_66 : decode cX4_automorphisms 66 = .ok (.ifCond .eq 6, 3) := by decide +kernel
theorem dX4_automorphisms_69 : decode cX4_automorphisms 69 = .ok (.iinc 5 1, 3) := by decide +kernel
theorem dX4_automorphisms_72 : decode cX4_automorphisms 72 = .ok (.iinc 6 1, 3) := by decide +kernel
theorem dX4_automorphisms_75 : decode cX4_automorphisms 75 = .ok (.goto (-47), 3) := by decide +kernel
theorem dX4_automorphisms_78 : decode cX4_automorphisms 78 = .ok (.iload_n 2, 1) := by decide +kernel
theorem dX4_automorphisms_79 : decode cX4_automorphisms 79 = .ok (.iload 5, 2) := by decide +kernel
theorem dX4_automorphisms_81 : decode cX4_automorphisms 81 = .ok (.imul, 1) := by decide +kernel
theorem dX4_automorphisms_82 : decode cX4_automorphisms 82 = .ok (.istore_n 2, 1) := by decide +kernel
theorem dX4_automorphisms_83 : decode cX4_automorphisms 83 = .ok (.aload_n 0, 1) := by decide +kernel
theorem dX4_automorphisms_84 : decode cX4_automorphisms 84 = .ok (.getfield 9, 3) := by decide +kernel
theorem dX4_automorphisms_87 : decode cX4_automorphisms 87 = .ok (.iload 4, 2) := by decide +kernel
theorem dX4_automorphisms_89 : decode cX4_automorphisms 89 = .ok (.iload 4, 2) := by decide +kernel
theorem dX4_automorphisms_91 : decode cX4_automorphisms 91 = .ok (.iconst 1, 1) := by decide +kernel
theorem dX4_automorphisms_92 : decode cX4_automorphisms 92 = .ok (.iadd, 1) := by decide +kernel
theorem dX4_automorphisms_93 : decode cX4_automorphisms 93 = .ok (.iastore, 1) := by decide +kernel
theorem dX4_automorphisms_94 : decode cX4_automorphisms 94 = .ok (.iload_n 3, 1) := by decide +kernel
theorem dX4_automorphisms_95 : decode cX4_automorphisms 95 = .ok (.iconst 1, 1) := by decide +kernel
theorem dX4_automorphisms_96 : decode cX4_automorphisms 96 = .ok (.iload 4, 2) := by decide +kernel
theorem dX4_automorphisms_98 : decode cX4_automorphisms 98 = .ok (.ishl, 1) := by decide +kernel
theorem dX4_automorphisms_99 : decode cX4_automorphisms 99 = .ok (.ior, 1) := by decide +kernel
theorem dX4_automorphisms_100 : decode cX4_automorphisms 100 = .ok (.istore_n 3, 1) := by decide +kernel
theorem dX4_automorphisms_101 : decode cX4_automorphisms 101 = .ok (.iinc 4 1, 3) := by decide +kernel
theorem dX4_automorphisms_104 : decode cX4_automorphisms 104 = .ok (.goto (-92), 3) := by decide +kernel
theorem dX4_automorphisms_107 : decode cX4_automorphisms 107 = .ok (.iload_n 2, 1) := by decide +kernel
theorem dX4_automorphisms_108 : decode cX4_automorphisms 108 = .ok (.ireturn, 1) := by decide +kernel
theorem dX4_readLasts_0 : decode cX4_readLasts 0 = .ok (.iconst 0, 1) := by decide +kernel
theorem dX4_readLasts_1 : decode cX4_readLasts 1 = .ok (.istore_n 2, 1) := by decide +kernel
theorem dX4_readLasts_2 : decode cX4_readLasts 2 = .ok (.iload_n 2, 1) := by decide +kernel
theorem dX4_readLasts_3 : decode cX4_readLasts 3 = .ok (.aload_n 1, 1) := by decide +kernel
theorem dX4_readLasts_4 : decode cX4_readLasts 4 = .ok (.getfield 39, 3) := by decide +kernel
theorem dX4_readLasts_7 : decode cX4_readLasts 7 = .ok (.if_icmp .ge 56, 3) := by decide +kernel
theorem dX4_readLasts_10 : decode cX4_readLasts 10 = .ok (.aload_n 0, 1) := by decide +kernel
theorem dX4_readLasts_11 : decode cX4_readLasts 11 = .ok (.getfield 15, 3) := by decide +kernel
theorem dX4_readLasts_14 : decode cX4_readLasts 14 = .ok (.iload_n 2, 1) := by decide +kernel
theorem dX4_readLasts_15 : decode cX4_readLasts 15 = .ok (.iconst (-1), 1) := by decide +kernel
theorem dX4_readLasts_16 : decode cX4_readLasts 16 = .ok (.iastore, 1) := by decide +kernel
theorem dX4_readLasts_17 : decode cX4_readLasts 17 = .ok (.iconst 0, 1) := by decide +kernel
theorem dX4_readLasts_18 : decode cX4_readLasts 18 = .ok (.istore_n 3, 1) := by decide +kernel
theorem dX4_readLasts_19 : decode cX4_readLasts 19 = .ok (.iload_n 3, 1) := by decide +kernel
theorem dX4_readLasts_20 : decode cX4_readLasts 20 = .ok (.iconst 3, 1) := by decide +kernel
theorem dX4_readLasts_21 : decode cX4_readLasts 21 = .ok (.if_icmp .ge 36, 3) := by decide +kernel
theorem dX4_readLasts_24 : decode cX4_readLasts 24 = .ok (.aload_n 0, 1) := by decide +kernel
theorem dX4_readLasts_25 : decode cX4_readLasts 25 = .ok (.getfield 15, 3) := by decide +kernel
theorem dX4_readLasts_28 : decode cX4_readLasts 28 = .ok (.iload_n 2, 1) := by decide +kernel
theorem dX4_readLasts_29 : decode cX4_readLasts 29 = .ok (.aload_n 0, 1) := by decide +kernel
theorem dX4_readLasts_30 : decode cX4_readLasts 30 = .ok (.getfield 15, 3) := by decide +kernel
theorem dX4_readLasts_33 : decode cX4_readLasts 33 = .ok (.iload_n 2, 1) := by decide +kernel
theorem dX4_readLasts_34 : decode cX4_readLasts 34 = .ok (.iaload, 1) := by decide +kernel
theorem dX4_readLasts_35 : decode cX4_readLasts 35 = .ok (.iconst (-1), 1) := by decide +kernel
theorem dX4_readLasts_36 : decode cX4_readLasts 36 = .ok (.aload_n 1, 1) := by decide +kernel
theorem dX4_readLasts_37 : decode cX4_readLasts 37 = .ok (.getfield 42, 3) := by decide +kernel
theorem dX4_readLasts_40 : decode cX4_readLasts 40 = .ok (.iload_n 2, 1) := by decide +kernel
theorem dX4_readLasts_41 : decode cX4_readLasts 41 = .ok (.iaload, 1) := by decide +kernel
theorem dX4_readLasts_42 : decode cX4_readLasts 42 = .ok (.iload_n 3, 1) := by decide +kernel
theorem dX4_readLasts_43 : decode cX4_readLasts 43 = .ok (.invokestatic 45, 3) := by decide +kernel
theorem dX4_readLasts_46 : decode cX4_readLasts 46 = .ok (.isub, 1) := by decide +kernel
theorem dX4_readLasts_47 : decode cX4_readLasts 47 = .ok (.invokestatic 49, 3) := by decide +kernel
theorem dX4_readLasts_50 : decode cX4_readLasts 50 = .ok (.iastore, 1) := by decide +kernel
theorem dX4_readLasts_51 : decode cX4_readLasts 51 = .ok (.iinc 3 1, 3) := by decide +kernel
theorem dX4_readLasts_54 : decode cX4_readLasts 54 = .ok (.goto (-35), 3) := by decide +kernel
theorem dX4_readLasts_57 : decode cX4_readLasts 57 = .ok (.iinc 2 1, 3) := by decide +kernel
theorem dX4_readLasts_60 : decode cX4_readLasts 60 = .ok (.goto (-58), 3) := by decide +kernel
theorem dX4_readLasts_63 : decode cX4_readLasts 63 = .ok (.return_, 1) := by decide +kernel
theorem dX4_completes_0 : decode cX4_completes 0 = .ok (.iload_n 3, 1) := by decide +kernel
theorem dX4_completes_1 : decode cX4_completes 1 = .ok (.aload_n 1, 1) := by decide +kernel
theorem dX4_completes_2 : decode cX4_completes 2 = .ok (.getfield 30, 3) := by decide +kernel
theorem dX4_completes_5 : decode cX4_completes 5 = .ok (.if_icmp .ge 9, 3) := by decide +kernel
theorem dX4_completes_8 : decode cX4_completes 8 = .ok (.iload_n 3, 1) := by decide +kernel
theorem dX4_completes_9 : decode cX4_completes 9 = .ok (.bipush 8, 2) := by decide +kernel
theorem dX4_completes_11 : decode cX4_completes 11 = .ok (.if_icmp .lt 5, 3) := by decide +kernel
theorem dX4_completes_14 : decode cX4_completes 14 = .ok (.iconst 1, 1) := by decide +kernel
theorem dX4_completes_15 : decode cX4_completes 15 = .ok (.ireturn, 1) := by decide +kernel
theorem dX4_completes_16 : decode cX4_completes 16 = .ok (.iconst 0, 1) := by decide +kernel
theorem dX4_completes_17 : decode cX4_completes 17 = .ok (.istore 5, 2) := by decide +kernel
theorem dX4_completes_19 : decode cX4_completes 19 = .ok (.iload 5, 2) := by decide +kernel
theorem dX4_completes_21 : decode cX4_completes 21 = .ok (.aload_n 2, 1) := by decide +kernel
theorem dX4_completes_22 : decode cX4_completes 22 = .ok (.getfield 30, 3) := by decide +kernel
theorem dX4_completes_25 : decode cX4_completes 25 = .ok (.if_icmp .ge 52, 3) := by decide +kernel
theorem dX4_completes_28 : decode cX4_completes 28 = .ok (.iload 4, 2) := by decide +kernel
theorem dX4_completes_30 : decode cX4_completes 30 = .ok (.iload 5, 2) := by decide +kernel
theorem dX4_completes_32 : decode cX4_completes 32 = .ok (.ishr, 1) := by decide +kernel
theorem dX4_completes_33 : decode cX4_completes 33 = .ok (.iconst 1, 1) := by decide +kernel
theorem dX4_completes_34 : decode cX4_completes 34 = .ok (.iand, 1) := by decide +kernel
theorem dX4_completes_35 : decode cX4_completes 35 = .ok (.ifCond .ne 36, 3) := by decide +kernel
theorem dX4_completes_38 : decode cX4_completes 38 = .ok (.aload_n 0, 1) := by decide +kernel
theorem dX4_completes_39 : decode cX4_completes 39 = .ok (.aload_n 1, 1) := by decide +kernel
theorem dX4_completes_40 : decode cX4_completes 40 = .ok (.aload_n 2, 1) := by decide +kernel
theorem dX4_completes_41 : decode cX4_completes 41 = .ok (.iload_n 3, 1) := by decide +kernel
theorem dX4_completes_42 : decode cX4_completes 42 = .ok (.iload 5, 2) := by decide +kernel
theorem dX4_completes_44 : decode cX4_completes 44 = .ok (.invokevirtual 36, 3) := by decide +kernel
theorem dX4_completes_47 : decode cX4_completes 47 = .ok (.ifCond .eq 24, 3) := by decide +kernel
theorem dX4_completes_50 : decode cX4_completes 50 = .ok (.aload_n 0, 1) := by decide +kernel
theorem dX4_completes_51 : decode cX4_completes 51 = .ok (.aload_n 1, 1) := by decide +kernel
theorem dX4_completes_52 : decode cX4_completes 52 = .ok (.aload_n 2, 1) := by decide +kernel
theorem dX4_completes_53 : decode cX4_completes 53 = .ok (.iload_n 3, 1) := by decide +kernel
theorem dX4_completes_54 : decode cX4_completes 54 = .ok (.iconst 1, 1) := by decide +kernel
theorem dX4_completes_55 : decode cX4_completes 55 = .ok (.iadd, 1) := by decide +kernel
theorem dX4_completes_56 : decode cX4_completes 56 = .ok (.iload 4, 2) := by decide +kernel
theorem dX4_completes_58 : decode cX4_completes 58 = .ok (.iconst 1, 1) := by decide +kernel
theorem dX4_completes_59 : decode cX4_completes 59 = .ok (.iload 5, 2) := by decide +kernel
theorem dX4_completes_61 : decode cX4_completes 61 = .ok (.ishl, 1) := by decide +kernel
theorem dX4_completes_62 : decode cX4_completes 62 = .ok (.ior, 1) := by decide +kernel
theorem dX4_completes_63 : decode cX4_completes 63 = .ok (.invokevirtual 26, 3) := by decide +kernel
theorem dX4_completes_66 : decode cX4_completes 66 = .ok (.ifCond .eq 5, 3) := by decide +kernel
theorem dX4_completes_69 : decode cX4_completes 69 = .ok (.iconst 1, 1) := by decide +kernel
theorem dX4_completes_70 : decode cX4_completes 70 = .ok (.ireturn, 1) := by decide +kernel
theorem dX4_completes_71 : decode cX4_completes 71 = .ok (.iinc 5 1, 3) := by decide +kernel
theorem dX4_completes_74 : decode cX4_completes 74 = .ok (.goto (-55), 3) := by decide +kernel
theorem dX4_completes_77 : decode cX4_completes 77 = .ok (.iconst 0, 1) := by decide +kernel
theorem dX4_completes_78 : decode cX4_completes 78 = .ok (.ireturn, 1) := by decide +kernel
theorem dX4_fits_0 : decode cX4_fits 0 = .ok (.aload_n 1, 1) := by decide +kernel
theorem dX4_fits_1 : decode cX4_fits 1 = .ok (.getfield 54, 3) := by decide +kernel
theorem dX4_fits_4 : decode cX4_fits 4 = .ok (.getfield 58, 3) := by decide +kernel
theorem dX4_fits_7 : decode cX4_fits 7 = .ok (.iload_n 3, 1) := by decide +kernel
theorem dX4_fits_8 : decode cX4_fits 8 = .ok (.iaload, 1) := by decide +kernel
theorem dX4_fits_9 : decode cX4_fits 9 = .ok (.aload_n 2, 1) := by decide +kernel
theorem dX4_fits_10 : decode cX4_fits 10 = .ok (.getfield 54, 3) := by decide +kernel
theorem dX4_fits_13 : decode cX4_fits 13 = .ok (.getfield 58, 3) := by decide +kernel
theorem dX4_fits_16 : decode cX4_fits 16 = .ok (.iload 4, 2) := by decide +kernel
theorem dX4_fits_18 : decode cX4_fits 18 = .ok (.iaload, 1) := by decide +kernel
theorem dX4_fits_19 : decode cX4_fits 19 = .ok (.if_icmp .eq 5, 3) := by decide +kernel
theorem dX4_fits_22 : decode cX4_fits 22 = .ok (.iconst 0, 1) := by decide +kernel
theorem dX4_fits_23 : decode cX4_fits 23 = .ok (.ireturn, 1) := by decide +kernel
theorem dX4_fits_24 : decode cX4_fits 24 = .ok (.aload_n 0, 1) := by decide +kernel
theorem dX4_fits_25 : decode cX4_fits 25 = .ok (.getfield 9, 3) := by decide +kernel
theorem dX4_fits_28 : decode cX4_fits 28 = .ok (.iload_n 3, 1) := by decide +kernel
theorem dX4_fits_29 : decode cX4_fits 29 = .ok (.iload 4, 2) := by decide +kernel
theorem dX4_fits_31 : decode cX4_fits 31 = .ok (.iconst 1, 1) := by decide +kernel
theorem dX4_fits_32 : decode cX4_fits 32 = .ok (.iadd, 1) := by decide +kernel
theorem dX4_fits_33 : decode cX4_fits 33 = .ok (.iastore, 1) := by decide +kernel
theorem dX4_fits_34 : decode cX4_fits 34 = .ok (.aload_n 0, 1) := by decide +kernel
theorem dX4_fits_35 : decode cX4_fits 35 = .ok (.aload_n 1, 1) := by decide +kernel
theorem dX4_fits_36 : decode cX4_fits 36 = .ok (.aload_n 2, 1) := by decide +kernel
theorem dX4_fits_37 : decode cX4_fits 37 = .ok (.iload_n 3, 1) := by decide +kernel
theorem dX4_fits_38 : decode cX4_fits 38 = .ok (.invokevirtual 22, 3) := by decide +kernel
theorem dX4_fits_41 : decode cX4_fits 41 = .ok (.ireturn, 1) := by decide +kernel
theorem dX4_keepsTriples_0 : decode cX4_keepsTriples 0 = .ok (.iconst 0, 1) := by decide +kernel
theorem dX4_keepsTriples_1 : decode cX4_keepsTriples 1 = .ok (.istore 4, 2) := by decide +kernel
theorem dX4_keepsTriples_3 : decode cX4_keepsTriples 3 = .ok (.iload 4, 2) := by decide +kernel
theorem dX4_keepsTriples_5 : decode cX4_keepsTriples 5 = .ok (.aload_n 1, 1) := by decide +kernel
theorem dX4_keepsTriples_6 : decode cX4_keepsTriples 6 = .ok (.getfield 39, 3) := by decide +kernel
theorem dX4_keepsTriples_9 : decode cX4_keepsTriples 9 = .ok (.if_icmp .ge 50, 3) := by decide +kernel
theorem dX4_keepsTriples_12 : decode cX4_keepsTriples 12 = .ok (.aload_n 0, 1) := by decide +kernel
theorem dX4_keepsTriples_13 : decode cX4_keepsTriples 13 = .ok (.getfield 15, 3) := by decide +kernel
theorem dX4_keepsTriples_16 : decode cX4_keepsTriples 16 = .ok (.iload 4, 2) := by decide +kernel
theorem dX4_keepsTriples_18 : decode cX4_keepsTriples 18 = .ok (.iaload, 1) := by decide +kernel
theorem dX4_keepsTriples_19 : decode cX4_keepsTriples 19 = .ok (.iload_n 3, 1) := by decide +kernel
theorem dX4_keepsTriples_20 : decode cX4_keepsTriples 20 = .ok (.if_icmp .ne 33, 3) := by decide +kernel
theorem dX4_keepsTriples_23 : decode cX4_keepsTriples 23 = .ok (.aload_n 1, 1) := by decide +kernel
theorem dX4_keepsTriples_24 : decode cX4_keepsTriples 24 = .ok (.getfield 42, 3) := by decide +kernel
theorem dX4_keepsTriples_27 : decode cX4_keepsTriples 27 = .ok (.iload 4, 2) := by decide +kernel
theorem dX4_keepsTriples_29 : decode cX4_keepsTriples 29 = .ok (.iaload, 1) := by decide +kernel
theorem dX4_keepsTriples_30 : decode cX4_keepsTriples 30 = .ok (.aload_n 0, 1) := by decide +kernel
theorem dX4_keepsTriples_31 : decode cX4_keepsTriples 31 = .ok (.getfield 9, 3) := by decide +kernel
theorem dX4_keepsTriples_34 : decode cX4_keepsTriples 34 = .ok (.invokestatic 63, 3) := by decide +kernel
theorem dX4_keepsTriples_37 : decode cX4_keepsTriples 37 = .ok (.aload_n 2, 1) := by decide +kernel
theorem dX4_keepsTriples_38 : decode cX4_keepsTriples 38 = .ok (.getfield 42, 3) := by decide +kernel
theorem dX4_keepsTriples_41 : decode cX4_keepsTriples 41 = .ok (.aload_n 2, 1) := by decide +kernel
theorem dX4_keepsTriples_42 : decode cX4_keepsTriples 42 = .ok (.getfield 39, 3) := by decide +kernel
theorem dX4_keepsTriples_45 : decode cX4_keepsTriples 45 = .ok (.invokestatic 67, 3) := by decide +kernel
theorem dX4_keepsTriples_48 : decode cX4_keepsTriples 48 = .ok (.ifCond .ne 5, 3) := by decide +kernel
theorem dX4_keepsTriples_51 : decode cX4_keepsTriples 51 = .ok (.iconst 0, 1) := by decide +kernel
theorem dX4_keepsTriples_52 : decode cX4_keepsTriples 52 = .ok (.ireturn, 1) := by decide +kernel
theorem dX4_keepsTriples_53 : decode cX4_keepsTriples 53 = .ok (.iinc 4 1, 3) := by decide +kernel
theorem dX4_keepsTriples_56 : decode cX4_keepsTriples 56 = .ok (.goto (-53), 3) := by decide +kernel
theorem dX4_keepsTriples_59 : decode cX4_keepsTriples 59 = .ok (.iconst 1, 1) := by decide +kernel
theorem dX4_keepsTriples_60 : decode cX4_keepsTriples 60 = .ok (.ireturn, 1) := by decide +kernel
theorem dX5_init_0 : decode cX5_init 0 = .ok (.aload_n 0, 1) := by decide +kernel
theorem dX5_init_1 : decode cX5_init 1 = .ok (.invokespecial 3, 3) := by decide +kernel
theorem dX5_init_4 : decode cX5_init 4 = .ok (.aload_n 0, 1) := by decide +kernel
theorem dX5_init_5 : decode cX5_init 5 = .ok (.new 9, 3) := by decide +kernel
theorem dX5_init_8 : decode cX5_init 8 = .ok (.dup, 1) := by decide +kernel
theorem dX5_init_9 : decode cX5_init 9 = .ok (.invokespecial 11, 3) := by decide +kernel
theorem dX5_init_12 : decode cX5_init 12 = .ok (.putfield 12, 3) := by decide +kernel
theorem dX5_init_15 : decode cX5_init 15 = .ok (.aload_n 0, 1) := by decide +kernel
theorem dX5_init_16 : decode cX5_init 16 = .ok (.bipush 8, 2) := by decide +kernel
theorem dX5_init_18 : decode cX5_init 18 = .ok (.newarray .int, 2) := by decide +kernel
theorem dX5_init_20 : decode cX5_init 20 = .ok (.putfield 18, 3) := by decide +kernel
theorem dX5_init_23 : decode cX5_init 23 = .ok (.aload_n 0, 1) := by decide +kernel
theorem dX5_init_24 : decode cX5_init 24 = .ok (.bipush 8, 2) := by decide +kernel
theorem dX5_init_26 : decode cX5_init 26 = .ok (.newarray .int, 2) := by decide +kernel
theorem dX5_init_28 : decode cX5_init 28 = .ok (.putfield 22, 3) := by decide +kernel
theorem dX5_init_31 : decode cX5_init 31 = .ok (.aload_n 0, 1) := by decide +kernel
theorem dX5_init_32 : decode cX5_init 32 = .ok (.iconst 0, 1) := by decide +kernel
theorem dX5_init_33 : decode cX5_init 33 = .ok (.putfield 25, 3) := by decide +kernel
theorem dX5_init_36 : decode cX5_init 36 = .ok (.return_, 1) := by decide +kernel
theorem dX5_adopt_0 : decode cX5_adopt 0 = .ok (.aload_n 1, 1) := by decide +kernel
theorem dX5_adopt_1 : decode cX5_adopt 1 = .ok (.iconst 0, 1) := by decide +kernel
theorem dX5_adopt_2 : decode cX5_adopt 2 = .ok (.aload_n 0, 1) := by decide +kernel
theorem dX5_adopt_3 : decode cX5_adopt 3 = .ok (.getfield 18, 3) := by decide +kernel
theorem dX5_adopt_6 : decode cX5_adopt 6 = .ok (.iconst 0, 1) := by decide +kernel
theorem dX5_adopt_7 : decode cX5_adopt 7 = .ok (.iload_n 2, 1) := by decide +kernel
theorem dX5_adopt_8 : decode cX5_adopt 8 = .ok (.invokestatic 29, 3) := by decide +kernel
theorem dX5_adopt_11 : decode cX5_adopt 11 = .ok (.aload_n 0, 1) := by decide +kernel
theorem dX5_adopt_12 : decode cX5_adopt 12 = .ok (.iconst 0, 1) := by decide +kernel
theorem dX5_adopt_13 : decode cX5_adopt 13 = .ok (.putfield 25, 3) := by decide +kernel
theorem dX5_adopt_16 : decode cX5_adopt 16 = .ok (.return_, 1) := by decide +kernel
theorem dX5_refreshDigest_0 : decode cX5_refreshDigest 0 = .ok (.aload_n 0, 1) := by decide +kernel
theorem dX5_refreshDigest_1 : decode cX5_refreshDigest 1 = .ok (.getfield 25, 3) := by decide +kernel
theorem dX5_refreshDigest_4 : decode cX5_refreshDigest 4 = .ok (.ifCond .eq 4, 3) := by decide +kernel
theorem dX5_refreshDigest_7 : decode cX5_refreshDigest 7 = .ok (.return_, 1) := by decide +kernel
theorem dX5_refreshDigest_8 : decode cX5_refreshDigest 8 = .ok (.aload_n 1, 1) := by decide +kernel
theorem dX5_refreshDigest_9 : decode cX5_refreshDigest 9 = .ok (.invokevirtual 35, 3) := by decide +kernel
theorem dX5_refreshDigest_12 : decode cX5_refreshDigest 12 = .ok (.iconst 0, 1) := by decide +kernel
theorem dX5_refreshDigest_13 : decode cX5_refreshDigest 13 = .ok (.istore_n 2, 1) := by decide +kernel
theorem dX5_refreshDigest_14 : decode cX5_refreshDigest 14 = .ok (.iload_n 2, 1) := by decide +kernel
theorem dX5_refreshDigest_15 : decode cX5_refreshDigest 15 = .ok (.aload_n 0, 1) := by decide +kernel
theorem dX5_refreshDigest_16 : decode cX5_refreshDigest 16 = .ok (.getfield 12, 3) := by decide +kernel
theorem dX5_refreshDigest_19 : decode cX5_refreshDigest 19 = .ok (.getfield 40, 3) := by decide +kernel
theorem dX5_refreshDigest_22 : decode cX5_refreshDigest 22 = .ok (.if_icmp .ge 40, 3) := by decide +kernel
theorem dX5_refreshDigest_25 : decode cX5_refreshDigest 25 = .ok (.iconst 0, 1) := by decide +kernel
theorem dX5_refreshDigest_26 : decode cX5_refreshDigest 26 = .ok (.istore_n 3, 1) := by decide +kernel
theorem dX5_refreshDigest_27 : decode cX5_refreshDigest 27 = .ok (.iload_n 3, 1) := by decide +kernel
theorem dX5_refreshDigest_28 : decode cX5_refreshDigest 28 = .ok (.iconst 3, 1) := by decide +kernel
theorem dX5_refreshDigest_29 : decode cX5_refreshDigest 29 = .ok (.if_icmp .ge 27, 3) := by decide +kernel
theorem dX5_refreshDigest_32 : decode cX5_refreshDigest 32 = .ok (.aload_n 1, 1) := by decide +kernel
theorem dX5_refreshDigest_33 : decode cX5_refreshDigest 33 = .ok (.aload_n 0, 1) := by decide +kernel
theorem dX5_refreshDigest_34 : decode cX5_refreshDigest 34 = .ok (.getfield 12, 3) := by decide +kernel
theorem dX5_refreshDigest_37 : decode cX5_refreshDigest 37 = .ok (.getfield 44, 3) := by decide +kernel
theorem dX5_refreshDigest_40 : decode cX5_refreshDigest 40 = .ok (.iload_n 2, 1) := by decide +kernel
theorem dX5_refreshDigest_41 : decode cX5_refreshDigest 41 = .ok (.iaload, 1) := by decide +kernel
theorem dX5_refreshDigest_42 : decode cX5_refreshDigest 42 = .ok (.iload_n 3, 1) := by decide +kernel
theorem dX5_refreshDigest_43 : decode cX5_refreshDigest 43 = .ok (.invokestatic 47, 3) := by decide +kernel
theorem dX5_refreshDigest_46 : decode cX5_refreshDigest 46 = .ok (.iconst 4, 1) := by decide +kernel
theorem dX5_refreshDigest_47 : decode cX5_refreshDigest 47 = .ok (.invokevirtual 51, 3) := by decide +kernel
theorem dX5_refreshDigest_50 : decode cX5_refreshDigest 50 = .ok (.iinc 3 1, 3) := by decide +kernel
theorem dX5_refreshDigest_53 : decode cX5_refreshDigest 53 = .ok (.goto (-26), 3) := by decide +kernel
theorem dX5_refreshDigest_56 : decode cX5_refreshDigest 56 = .ok (.iinc 2 1, 3) := by decide +kernel
theorem dX5_refreshDigest_59 : decode cX5_refreshDigest 59 = .ok (.goto (-45), 3) := by decide +kernel
theorem dX5_refreshDigest_62 : decode cX5_refreshDigest 62 = .ok (.aload_n 1, 1) := by decide +kernel
theorem dX5_refreshDigest_63 : decode cX5_refreshDigest 63 = .ok (.aload_n 0, 1) := by decide +kernel
theorem dX5_refreshDigest_64 : decode cX5_refreshDigest 64 = .ok (.getfield 22, 3) := by decide +kernel
theorem dX5_refreshDigest_67 : decode cX5_refreshDigest 67 = .ok (.iconst 0, 1) := by decide +kernel
theorem dX5_refreshDigest_68 : decode cX5_refreshDigest 68 = .ok (.invokevirtual 55, 3) := by decide +kernel
theorem dX5_refreshDigest_71 : decode cX5_refreshDigest 71 = .ok (.aload_n 0, 1) := by decide +kernel
theorem dX5_refreshDigest_72 : decode cX5_refreshDigest 72 = .ok (.iconst 1, 1) := by decide +kernel
theorem dX5_refreshDigest_73 : decode cX5_refreshDigest 73 = .ok (.putfield 25, 3) := by decide +kernel
theorem dX5_refreshDigest_76 : decode cX5_refreshDigest 76 = .ok (.return_, 1) := by decide +kernel
theorem dX6_init_0 : decode cX6_init 0 = .ok (.aload_n 0, 1) := by decide +kernel
theorem dX6_init_1 : decode cX6_init 1 = .ok (.invokespecial 3, 3) := by decide +kernel
theorem dX6_init_4 : decode cX6_init 4 = .ok (.aload_n 0, 1) := by decide +kernel
theorem dX6_init_5 : decode cX6_init 5 = .ok (.bipush 8, 2) := by decide +kernel
theorem dX6_init_7 : decode cX6_init 7 = .ok (.newarray .int, 2) := by decide +kernel
theorem dX6_init_9 : decode cX6_init 9 = .ok (.putfield 9, 3) := by decide +kernel
theorem dX6_init_12 : decode cX6_init 12 = .ok (.aload_n 0, 1) := by decide +kernel
theorem dX6_init_13 : decode cX6_init 13 = .ok (.bipush 64, 2) := by decide +kernel
theorem dX6_init_15 : decode cX6_init 15 = .ok (.newarray .int, 2) := by decide +kernel
theorem dX6_init_17 : decode cX6_init 17 = .ok (.putfield 15, 3) := by decide +kernel
theorem dX6_init_20 : decode cX6_init 20 = .ok (.aload_n 0, 1) := by decide +kernel
theorem dX6_init_21 : decode cX6_init 21 = .ok (.iconst 0, 1) := by decide +kernel
theorem dX6_init_22 : decode cX6_init 22 = .ok (.putfield 18, 3) := by decide +kernel
theorem dX6_init_25 : decode cX6_init 25 = .ok (.aload_n 0, 1) := by decide +kernel
theorem dX6_init_26 : decode cX6_init 26 = .ok (.iconst 0, 1) := by decide +kernel
theorem dX6_init_27 : decode cX6_init 27 = .ok (.putfield 22, 3) := by decide +kernel
theorem dX6_init_30 : decode cX6_init 30 = .ok (.return_, 1) := by decide +kernel
theorem dX6_begin_0 : decode cX6_begin 0 = .ok (.getstatic 25, 3) := by decide +kernel
theorem dX6_begin_3 : decode cX6_begin 3 = .ok (.iconst 0, 1) := by decide +kernel
theorem dX6_begin_4 : decode cX6_begin 4 = .ok (.aload_n 0, 1) := by decide +kernel
theorem dX6_begin_5 : decode cX6_begin 5 = .ok (.getfield 9, 3) := by decide +kernel
theorem dX6_begin_8 : decode cX6_begin 8 = .ok (.iconst 0, 1) := by decide +kernel
theorem dX6_begin_9 : decode cX6_begin 9 = .ok (.bipush 8, 2) := by decide +kernel
theorem dX6_begin_11 : decode cX6_begin 11 = .ok (.invokestatic 28, 3) := by decide +kernel
theorem dX6_begin_14 : decode cX6_begin 14 = .ok (.aload_n 0, 1) := by decide +kernel
theorem dX6_begin_15 : decode cX6_begin 15 = .ok (.iconst 0, 1) := by decide +kernel
theorem dX6_begin_16 : decode cX6_begin 16 = .ok (.putfield 18, 3) := by decide +kernel
theorem dX6_begin_19 : decode cX6_begin 19 = .ok (.aload_n 0, 1) := by decide +kernel
theorem dX6_begin_20 : decode cX6_begin 20 = .ok (.iconst 0, 1) := by decide +kernel
theorem dX6_begin_21 : decode cX6_begin 21 = .ok (.putfield 22, 3) := by decide +kernel
theorem dX6_begin_24 : decode cX6_begin 24 = .ok (.return_, 1) := by decide +kernel
theorem dX6_put_0 : decode cX6_put 0 = .ok (.iload_n 2, 1) := by decide +kernel
theorem dX6_put_1 : decode cX6_put 1 = .ok (.iconst 1, 1) := by decide +kernel
theorem dX6_put_2 : decode cX6_put 2 = .ok (.isub, 1) := by decide +kernel
theorem dX6_put_3 : decode cX6_put 3 = .ok (.istore_n 3, 1) := by decide +kernel
theorem dX6_put_4 : decode cX6_put 4 = .ok (.iload_n 3, 1) := by decide +kernel
theorem dX6_put_5 : decode cX6_put 5 = .ok (.ifCond .lt 73, 3) := by decide +kernel
theorem dX6_put_8 : decode cX6_put 8 = .ok (.aload_n 0, 1) := by decide +kernel
theorem dX6_put_9 : decode cX6_put 9 = .ok (.getfield 18, 3) := by decide +kernel
theorem dX6_put_12 : decode cX6_put 12 = .ok (.iconst 2, 1) := by decide +kernel
theorem dX6_put_13 : decode cX6_put 13 = .ok (.ishr, 1) := by decide +kernel
theorem dX6_put_14 : decode cX6_put 14 = .ok (.istore 4, 2) := by decide +kernel
theorem dX6_put_16 : decode cX6_put 16 = .ok (.aload_n 0, 1) := by decide +kernel
theorem dX6_put_17 : decode cX6_put 17 = .ok (.getfield 15, 3) := by decide +kernel
theorem dX6_put_20 : decode cX6_put 20 = .ok (.iload 4, 2) := by decide +kernel
theorem dX6_put_22 : decode cX6_put 22 = .ok (.aload_n 0, 1) := by decide +kernel
theorem dX6_put_23 : decode cX6_put 23 = .ok (.getfield 15, 3) := by decide +kernel
theorem dX6_put_26 : decode cX6_put 26 = .ok (.iload 4, 2) := by decide +kernel
theorem dX6_put_28 : decode cX6_put 28 = .ok (.iaload, 1) := by decide +kernel
theorem dX6_put_29 : decode cX6_put 29 = .ok (.bipush 8, 2) := by decide +kernel
theorem dX6_put_31 : decode cX6_put 31 = .ok (.ishl, 1) := by decide +kernel
theorem dX6_put_32 : decode cX6_put 32 = .ok (.iload_n 1, 1) := by decide +kernel
theorem dX6_put_33 : decode cX6_put 33 = .ok (.bipush 8, 2) := by decide +kernel
theorem dX6_put_35 : decode cX6_put 35 = .ok (.iload_n 3, 1) := by decide +kernel
theorem dX6_put_36 : decode cX6_put 36 = .ok (.imul, 1) := by decide +kernel
theorem dX6_put_37 : decode cX6_put 37 = .ok (.iushr, 1) := by decide +kernel
theorem dX6_put_38 : decode cX6_put 38 = .ok (.sipush 255, 3) := by decide +kernel
theorem dX6_put_41 : decode cX6_put 41 = .ok (.iand, 1) := by decide +kernel
theorem dX6_put_42 : decode cX6_put 42 = .ok (.ior, 1) := by decide +kernel
theorem dX6_put_43 : decode cX6_put 43 = .ok (.iastore, 1) := by decide +kernel
theorem dX6_put_44 : decode cX6_put 44 = .ok (.aload_n 0, 1) := by decide +kernel
theorem dX6_put_45 : decode cX6_put 45 = .ok (.dup, 1) := by decide +kernel
theorem dX6_put_46 : decode cX6_put 46 = .ok (.getfield 18, 3) := by decide +kernel
theorem dX6_put_49 : decode cX6_put 49 = .ok (.iconst 1, 1) := by decide +kernel
theorem dX6_put_50 : decode cX6_put 50 = .ok (.iadd, 1) := by decide +kernel
theorem dX6_put_51 : decode cX6_put 51 = .ok (.putfield 18, 3) := by decide +kernel
theorem dX6_put_54 : decode cX6_put 54 = .ok (.aload_n 0, 1) := by decide +kernel
theorem dX6_put_55 : decode cX6_put 55 = .ok (.getfield 18, 3) := by decide +kernel
theorem dX6_put_58 : decode cX6_put 58 = .ok (.bipush 64, 2) := by decide +kernel
theorem dX6_put_60 : decode cX6_put 60 = .ok (.if_icmp .ne 12, 3) := by decide +kernel
theorem dX6_put_63 : decode cX6_put 63 = .ok (.aload_n 0, 1) := by decide +kernel
theorem dX6_put_64 : decode cX6_put 64 = .ok (.invokevirtual 34, 3) := by decide +kernel
theorem dX6_put_67 : decode cX6_put 67 = .ok (.aload_n 0, 1) := by decide +kernel
theorem dX6_put_68 : decode cX6_put 68 = .ok (.iconst 0, 1) := by decide +kernel
theorem dX6_put_69 : decode cX6_put 69 = .ok (.putfield 18, 3) := by decide +kernel
theorem dX6_put_72 : decode cX6_put 72 = .ok (.iinc 3 (-1), 3) := by decide +kernel
theorem dX6_put_75 : decode cX6_put 75 = .ok (.goto (-71), 3) := by decide +kernel
theorem dX6_put_78 : decode cX6_put 78 = .ok (.aload_n 0, 1) := by decide +kernel
theorem dX6_put_79 : decode cX6_put 79 = .ok (.dup, 1) := by decide +kernel
theorem dX6_put_80 : decode cX6_put 80 = .ok (.getfield 22, 3) := by decide +kernel
theorem dX6_put_83 : decode cX6_put 83 = .ok (.iload_n 2, 1) := by decide +kernel
theorem dX6_put_84 : decode cX6_put 84 = .ok (.iadd, 1) := by decide +kernel
theorem dX6_put_85 : decode cX6_put 85 = .ok (.putfield 22, 3) := by decide +kernel
theorem dX6_put_88 : decode cX6_put 88 = .ok (.return_, 1) := by decide +kernel
theorem dX6_end_0 : decode cX6_end 0 = .ok (.bipush 8, 2) := by decide +kernel
theorem dX6_end_2 : decode cX6_end 2 = .ok (.aload_n 0, 1) := by decide +kernel
theorem dX6_end_3 : decode cX6_end 3 = .ok (.getfield 22, 3) := by decide +kernel
theorem dX6_end_6 : decode cX6_end 6 = .ok (.imul, 1) := by decide +kernel
theorem dX6_end_7 : decode cX6_end 7 = .ok (.istore_n 3, 1) := by decide +kernel
theorem dX6_end_8 : decode cX6_end 8 = .ok (.aload_n 0, 1) := by decide +kernel
theorem dX6_end_9 : decode cX6_end 9 = .ok (.sipush 128, 3) := by decide +kernel
theorem dX6_end_12 : decode cX6_end 12 = .ok (.iconst 1, 1) := by decide +kernel
theorem dX6_end_13 : decode cX6_end 13 = .ok (.invokevirtual 37, 3) := by decide +kernel
theorem dX6_end_16 : decode cX6_end 16 = .ok (.iconst 0, 1) := by decide +kernel
theorem dX6_end_17 : decode cX6_end 17 = .ok (.istore 4, 2) := by decide +kernel
theorem dX6_end_19 : decode cX6_end 19 = .ok (.iload 4, 2) := by decide +kernel
theorem dX6_end_21 : decode cX6_end 21 = .ok (.bipush 64, 2) := by decide +kernel
theorem dX6_end_23 : decode cX6_end 23 = .ok (.if_icmp .ge 24, 3) := by decide +kernel
theorem dX6_end_26 : decode cX6_end 26 = .ok (.aload_n 0, 1) := by decide +kernel
theorem dX6_end_27 : decode cX6_end 27 = .ok (.getfield 18, 3) := by decide +kernel
theorem dX6_end_30 : decode cX6_end 30 = .ok (.bipush 56, 2) := by decide +kernel
theorem dX6_end_32 : decode cX6_end 32 = .ok (.if_icmp .eq 15, 3) := by decide +kernel
theorem dX6_end_35 : decode cX6_end 35 = .ok (.aload_n 0, 1) := by decide +kernel
theorem dX6_end_36 : decode cX6_end 36 = .ok (.iconst 0, 1) := by decide +kernel
theorem dX6_end_37 : decode cX6_end 37 = .ok (.iconst 1, 1) := by decide +kernel
theorem dX6_end_38 : decode cX6_end 38 = .ok (.invokevirtual 37, 3) := by decide +kernel
theorem dX6_end_41 : decode cX6_end 41 = .ok (.iinc 4 1, 3) := by decide +kernel
theorem dX6_end_44 : decode cX6_end 44 = .ok (.goto (-25), 3) := by decide +kernel
theorem dX6_end_47 : decode cX6_end 47 = .ok (.aload_n 0, 1) := by decide +kernel
theorem dX6_end_48 : decode cX6_end 48 = .ok (.iconst 0, 1) := by decide +kernel
theorem dX6_end_49 : decode cX6_end 49 = .ok (.iconst 4, 1) := by decide +kernel
theorem dX6_end_50 : decode cX6_end 50 = .ok (.invokevirtual 37, 3) := by decide +kernel
theorem dX6_end_53 : decode cX6_end 53 = .ok (.aload_n 0, 1) := by decide +kernel
theorem dX6_end_54 : decode cX6_end 54 = .ok (.iload_n 3, 1) := by decide +kernel
theorem dX6_end_55 : decode cX6_end 55 = .ok (.iconst 4, 1) := by decide +kernel
theorem dX6_end_56 : decode cX6_end 56 = .ok (.invokevirtual 37, 3) := by decide +kernel
theorem dX6_end_59 : decode cX6_end 59 = .ok (.aload_n 0, 1) := by decide +kernel
theorem dX6_end_60 : decode cX6_end 60 = .ok (.getfield 9, 3) := by decide +kernel
theorem dX6_end_63 : decode cX6_end 63 = .ok (.iconst 0, 1) := by decide +kernel
theorem dX6_end_64 : decode cX6_end 64 = .ok (.aload_n 1, 1) := by decide +kernel
theorem dX6_end_65 : decode cX6_end 65 = .ok (.iload_n 2, 1) := by decide +kernel
theorem dX6_end_66 : decode cX6_end 66 = .ok (.bipush 8, 2) := by decide +kernel
theorem dX6_end_68 : decode cX6_end 68 = .ok (.invokestatic 28, 3) := by decide +kernel
theorem dX6_end_71 : decode cX6_end 71 = .ok (.return_, 1) := by decide +kernel
theorem dX6_mix_0 : decode cX6_mix 0 = .ok (.bipush 16, 2) := by decide +kernel
theorem dX6_mix_2 : decode cX6_mix 2 = .ok (.istore_n 1, 1) := by decide +kernel
theorem dX6_mix_3 : decode cX6_mix 3 = .ok (.iload_n 1, 1) := by decide +kernel
theorem dX6_mix_4 : decode cX6_mix 4 = .ok (.bipush 64, 2) := by decide +kernel
theorem dX6_mix_6 : decode cX6_mix 6 = .ok (.if_icmp .ge 110, 3) := by decide +kernel
theorem dX6_mix_9 : decode cX6_mix 9 = .ok (.aload_n 0, 1) := by decide +kernel
theorem dX6_mix_10 : decode cX6_mix 10 = .ok (.getfield 15, 3) := by decide +kernel
theorem dX6_mix_13 : decode cX6_mix 13 = .ok (.iload_n 1, 1) := by decide +kernel
theorem dX6_mix_14 : decode cX6_mix 14 = .ok (.bipush 15, 2) := by decide +kernel
theorem dX6_mix_16 : decode cX6_mix 16 = .ok (.isub, 1) := by decide +kernel
theorem dX6_mix_17 : decode cX6_mix 17 = .ok (.iaload, 1) := by decide +kernel
theorem dX6_mix_18 : decode cX6_mix 18 = .ok (.istore_n 2, 1) := by decide +kernel
theorem dX6_mix_19 : decode cX6_mix 19 = .ok (.aload_n 0, 1) := by decide +kernel
theorem dX6_mix_20 : decode cX6_mix 20 = .ok (.getfield 15, 3) := by decide +kernel
theorem dX6_mix_23 : decode cX6_mix 23 = .ok (.iload_n 1, 1) := by decide +kernel
theorem dX6_mix_24 : decode cX6_mix 24 = .ok (.iconst 2, 1) := by decide +kernel
theorem dX6_mix_25 : decode cX6_mix 25 = .ok (.isub, 1) := by decide +kernel
theorem dX6_mix_26 : decode cX6_mix 26 = .ok (.iaload, 1) := by decide +kernel
theorem dX6_mix_27 : decode cX6_mix 27 = .ok (.istore_n 3, 1) := by decide +kernel
theorem dX6_mix_28 : decode cX6_mix 28 = .ok (.iload_n 2, 1) := by decide +kernel
theorem dX6_mix_29 : decode cX6_mix 29 = .ok (.bipush 7, 2) := by decide +kernel
theorem dX6_mix_31 : decode cX6_mix 31 = .ok (.iushr, 1) := by decide +kernel
theorem dX6_mix_32 : decode cX6_mix 32 = .ok (.iload_n 2, 1) := by decide +kernel
theorem dX6_mix_33 : decode cX6_mix 33 = .ok (.bipush 25, 2) := by decide +kernel
theorem dX6_mix_35 : decode cX6_mix 35 = .ok (.ishl, 1) := by decide +kernel
theorem dX6_mix_36 : decode cX6_mix 36 = .ok (.ior, 1) := by decide +kernel
theorem dX6_mix_37 : decode cX6_mix 37 = .ok (.iload_n 2, 1) := by decide +kernel
theorem dX6_mix_38 : decode cX6_mix 38 = .ok (.bipush 18, 2) := by decide +kernel
theorem dX6_mix_40 : decode cX6_mix 40 = .ok (.iushr, 1) := by decide +kernel
theorem dX6_mix_41 : decode cX6_mix 41 = .ok (.iload_n 2, 1) := by decide +kernel
theorem dX6_mix_42 : decode cX6_mix 42 = .ok (.bipush 14, 2) := by decide +kernel
theorem dX6_mix_44 : decode cX6_mix 44 = .ok (.ishl, 1) := by decide +kernel
theorem dX6_mix_45 : decode cX6_mix 45 = .ok (.ior, 1) := by decide +kernel
theorem dX6_mix_46 : decode cX6_mix 46 = .ok (.ixor, 1) := by decide +kernel
theorem dX6_mix_47 : decode cX6_mix 47 = .ok (.iload_n 2, 1) := by decide +kernel
theorem dX6_mix_48 : decode cX6_mix 48 = .ok (.iconst 3, 1) := by decide +kernel
theorem dX6_mix_49 : decode cX6_mix 49 = .ok (.iushr, 1) := by decide +kernel
theorem dX6_mix_50 : decode cX6_mix 50 = .ok (.ixor, 1) := by decide +kernel
theorem dX6_mix_51 : decode cX6_mix 51 = .ok (.istore 4, 2) := by decide +kernel
theorem dX6_mix_53 : decode cX6_mix 53 = .ok (.iload_n 3, 1) := by decide +kernel
theorem dX6_mix_54 : decode cX6_mix 54 = .ok (.bipush 17, 2) := by decide +kernel
theorem dX6_mix_56 : decode cX6_mix 56 = .ok (.iushr, 1) := by decide +kernel
theorem dX6_mix_57 : decode cX6_mix 57 = .ok (.iload_n 3, 1) := by decide +kernel
theorem dX6_mix_58 : decode cX6_mix 58 = .ok (.bipush 15, 2) := by decide +kernel
theorem dX6_mix_60 : decode cX6_mix 60 = .ok (.ishl, 1) := by decide +kernel
theorem dX6_mix_61 : decode cX6_mix 61 = .ok (.ior, 1) := by decide +kernel
theorem dX6_mix_62 : decode cX6_mix 62 = .ok (.iload_n 3, 1) := by decide +kernel
theorem dX6_mix_63 : decode cX6_mix 63 = .ok (.bipush 19, 2) := by decide +kernel
theorem dX6_mix_65 : decode cX6_mix 65 = .ok (.iushr, 1) := by decide +kernel
theorem dX6_mix_66 : decode cX6_mix 66 = .ok (.iload_n 3, 1) := by decide +kernel
theorem dX6_mix_67 : decode cX6_mix 67 = .ok (.bipush 13, 2) := by decide +kernel
theorem dX6_mix_69 : decode cX6_mix 69 = .ok (.ishl, 1) := by decide +kernel
theorem dX6_mix_70 : decode cX6_mix 70 = .ok (.ior, 1) := by decide +kernel
theorem dX6_mix_71 : decode cX6_mix 71 = .ok (.ixor, 1) := by decide +kernel
theorem dX6_mix_72 : decode cX6_mix 72 = .ok (.iload_n 3, 1) := by decide +kernel
theorem dX6_mix_73 : decode cX6_mix 73 = .ok (.bipush 10, 2) := by decide +kernel
theorem dX6_mix_75 : decode cX6_mix 75 = .ok (.iushr, 1) := by decide +kernel
theorem dX6_mix_76 : decode cX6_mix 76 = .ok (.ixor, 1) := by decide +kernel
theorem dX6_mix_77 : decode cX6_mix 77 = .ok (.istore 5, 2) := by decide +kernel
theorem dX6_mix_79 : decode cX6_mix 79 = .ok (.aload_n 0, 1) := by decide +kernel
theorem dX6_mix_80 : decode cX6_mix 80 = .ok (.getfield 15, 3) := by decide +kernel
theorem dX6_mix_83 : decode cX6_mix 83 = .ok (.iload_n 1, 1) := by decide +kernel
theorem dX6_mix_84 : decode cX6_mix 84 = .ok (.aload_n 0, 1) := by decide +kernel
theorem dX6_mix_85 : decode cX6_mix 85 = .ok (.getfield 15, 3) := by decide +kernel
theorem dX6_mix_88 : decode cX6_mix 88 = .ok (.iload_n 1, 1) := by decide +kernel
theorem dX6_mix_89 : decode cX6_mix 89 = .ok (.bipush 16, 2) := by decide +kernel
theorem dX6_mix_91 : decode cX6_mix 91 = .ok (.isub, 1) := by decide +kernel
theorem dX6_mix_92 : decode cX6_mix 92 = .ok (.iaload, 1) := by decide +kernel
theorem dX6_mix_93 : decode cX6_mix 93 = .ok (.iload 4, 2) := by decide +kernel
theorem dX6_mix_95 : decode cX6_mix 95 = .ok (.iadd, 1) := by decide +kernel
theorem dX6_mix_96 : decode cX6_mix 96 = .ok (.aload_n 0, 1) := by decide +kernel
theorem dX6_mix_97 : decode cX6_mix 97 = .ok (.getfield 15, 3) := by decide +kernel
theorem dX6_mix_100 : decode cX6_mix 100 = .ok (.iload_n 1, 1) := by decide +kernel
theorem dX6_mix_101 : decode cX6_mix 101 = .ok (.bipush 7, 2) := by decide +kernel
theorem dX6_mix_103 : decode cX6_mix 103 = .ok (.isub, 1) := by decide +kernel
theorem dX6_mix_104 : decode cX6_mix 104 = .ok (.iaload, 1) := by decide +kernel
theorem dX6_mix_105 : decode cX6_mix 105 = .ok (.iadd, 1) := by decide +kernel
theorem dX6_mix_106 : decode cX6_mix 106 = .ok (.iload 5, 2) := by decide +kernel
theorem dX6_mix_108 : decode cX6_mix 108 = .ok (.iadd, 1) := by decide +kernel
theorem dX6_mix_109 : decode cX6_mix 109 = .ok (.iastore, 1) := by decide +kernel
theorem dX6_mix_110 : decode cX6_mix 110 = .ok (.iinc 1 1, 3) := by decide +kernel
theorem dX6_mix_113 : decode cX6_mix 113 = .ok (.goto (-110), 3) := by decide +kernel
theorem dX6_mix_116 : decode cX6_mix 116 = .ok (.aload_n 0, 1) := by decide +kernel
theorem dX6_mix_117 : decode cX6_mix 117 = .ok (.getfield 9, 3) := by decide +kernel
theorem dX6_mix_120 : decode cX6_mix 120 = .ok (.iconst 0, 1) := by decide +kernel
theorem dX6_mix_121 : decode cX6_mix 121 = .ok (.iaload, 1) := by decide +kernel
theorem dX6_mix_122 : decode cX6_mix 122 = .ok (.istore_n 1, 1) := by decide +kernel
theorem dX6_mix_123 : decode cX6_mix 123 = .ok (.aload_n 0, 1) := by decide +kernel
theorem dX6_mix_124 : decode cX6_mix 124 = .ok (.getfield 9, 3) := by decide +kernel
theorem dX6_mix_127 : decode cX6_mix 127 = .ok (.iconst 1, 1) := by decide +kernel
theorem dX6_mix_128 : decode cX6_mix 128 = .ok (.iaload, 1) := by decide +kernel
theorem dX6_mix_129 : decode cX6_mix 129 = .ok (.istore_n 2, 1) := by decide +kernel
theorem dX6_mix_130 : decode cX6_mix 130 = .ok (.aload_n 0, 1) := by decide +kernel
theorem dX6_mix_131 : decode cX6_mix 131 = .ok (.getfield 9, 3) := by decide +kernel
theorem dX6_mix_134 : decode cX6_mix 134 = .ok (.iconst 2, 1) := by decide +kernel
theorem dX6_mix_135 : decode cX6_mix 135 = .ok (.iaload, 1) := by decide +kernel
theorem dX6_mix_136 : decode cX6_mix 136 = .ok (.istore_n 3, 1) := by decide +kernel
theorem dX6_mix_137 : decode cX6_mix 137 = .ok (.aload_n 0, 1) := by decide +kernel
theorem dX6_mix_138 : decode cX6_mix 138 = .ok (.getfield 9, 3) := by decide +kernel
theorem dX6_mix_141 : decode cX6_mix 141 = .ok (.iconst 3, 1) := by decide +kernel
theorem dX6_mix_142 : decode cX6_mix 142 = .ok (.iaload, 1) := by decide +kernel
theorem dX6_mix_143 : decode cX6_mix 143 = .ok (.istore 4, 2) := by decide +kernel
theorem dX6_mix_145 : decode cX6_mix 145 = .ok (.aload_n 0, 1) := by decide +kernel
theorem dX6_mix_146 : decode cX6_mix 146 = .ok (.getfield 9, 3) := by decide +kernel
theorem dX6_mix_149 : decode cX6_mix 149 = .ok (.iconst 4, 1) := by decide +kernel
theorem dX6_mix_150 : decode cX6_mix 150 = .ok (.iaload, 1) := by decide +kernel
theorem dX6_mix_151 : decode cX6_mix 151 = .ok (.istore 5, 2) := by decide +kernel
theorem dX6_mix_153 : decode cX6_mix 153 = .ok (.aload_n 0, 1) := by decide +kernel
theorem dX6_mix_154 : decode cX6_mix 154 = .ok (.getfield 9, 3) := by decide +kernel
theorem dX6_mix_157 : decode cX6_mix 157 = .ok (.iconst 5, 1) := by decide +kernel
theorem dX6_mix_158 : decode cX6_mix 158 = .ok (.iaload, 1) := by decide +kernel
theorem dX6_mix_159 : decode cX6_mix 159 = .ok (.istore 6, 2) := by decide +kernel
theorem dX6_mix_161 : decode cX6_mix 161 = .ok (.aload_n 0, 1) := by decide +kernel
theorem dX6_mix_162 : decode cX6_mix 162 = .ok (.getfield 9, 3) := by decide +kernel
theorem dX6_mix_165 : decode cX6_mix 165 = .ok (.bipush 6, 2) := by decide +kernel
theorem dX6_mix_167 : decode cX6_mix 167 = .ok (.iaload, 1) := by decide +kernel
theorem dX6_mix_168 : decode cX6_mix 168 = .ok (.istore 7, 2) := by decide +kernel
theorem dX6_mix_170 : decode cX6_mix 170 = .ok (.aload_n 0, 1) := by decide +kernel
theorem dX6_mix_171 : decode cX6_mix 171 = .ok (.getfield 9, 3) := by decide +kernel
theorem dX6_mix_174 : decode cX6_mix 174 = .ok (.bipush 7, 2) := by decide +kernel
theorem dX6_mix_176 : decode cX6_mix 176 = .ok (.iaload, 1) := by decide +kernel
theorem dX6_mix_177 : decode cX6_mix 177 = .ok (.istore 8, 2) := by decide +kernel
theorem dX6_mix_179 : decode cX6_mix 179 = .ok (.iconst 0, 1) := by decide +kernel
theorem dX6_mix_180 : decode cX6_mix 180 = .ok (.istore 9, 2) := by decide +kernel
theorem dX6_mix_182 : decode cX6_mix 182 = .ok (.iload 9, 2) := by decide +kernel
theorem dX6_mix_184 : decode cX6_mix 184 = .ok (.bipush 64, 2) := by decide +kernel
theorem dX6_mix_186 : decode cX6_mix 186 = .ok (.if_icmp .ge 160, 3) := by decide +kernel
theorem dX6_mix_189 : decode cX6_mix 189 = .ok (.iload 5, 2) := by decide +kernel
theorem dX6_mix_191 : decode cX6_mix 191 = .ok (.bipush 6, 2) := by decide +kernel
theorem dX6_mix_193 : decode cX6_mix 193 = .ok (.iushr, 1) := by decide +kernel
theorem dX6_mix_194 : decode cX6_mix 194 = .ok (.iload 5, 2) := by decide +kernel
theorem dX6_mix_196 : decode cX6_mix 196 = .ok (.bipush 26, 2) := by decide +kernel
theorem dX6_mix_198 : decode cX6_mix 198 = .ok (.ishl, 1) := by decide +kernel
theorem dX6_mix_199 : decode cX6_mix 199 = .ok (.ior, 1) := by decide +kernel
theorem dX6_mix_200 : decode cX6_mix 200 = .ok (.iload 5, 2) := by decide +kernel
theorem dX6_mix_202 : decode cX6_mix 202 = .ok (.bipush 11, 2) := by decide +kernel
theorem dX6_mix_204 : decode cX6_mix 204 = .ok (.iushr, 1) := by decide +kernel
theorem dX6_mix_205 : decode cX6_mix 205 = .ok (.iload 5, 2) := by decide +kernel
theorem dX6_mix_207 : decode cX6_mix 207 = .ok (.bipush 21, 2) := by decide +kernel
theorem dX6_mix_209 : decode cX6_mix 209 = .ok (.ishl, 1) := by decide +kernel
theorem dX6_mix_210 : decode cX6_mix 210 = .ok (.ior, 1) := by decide +kernel
theorem dX6_mix_211 : decode cX6_mix 211 = .ok (.ixor, 1) := by decide +kernel
theorem dX6_mix_212 : decode cX6_mix 212 = .ok (.iload 5, 2) := by decide +kernel
theorem dX6_mix_214 : decode cX6_mix 214 = .ok (.bipush 25, 2) := by decide +kernel
theorem dX6_mix_216 : decode cX6_mix 216 = .ok (.iushr, 1) := by decide +kernel
theorem dX6_mix_217 : decode cX6_mix 217 = .ok (.iload 5, 2) := by decide +kernel
theorem dX6_mix_219 : decode cX6_mix 219 = .ok (.bipush 7, 2) := by decide +kernel
theorem dX6_mix_221 : decode cX6_mix 221 = .ok (.ishl, 1) := by decide +kernel
theorem dX6_mix_222 : decode cX6_mix 222 = .ok (.ior, 1) := by decide +kernel
theorem dX6_mix_223 : decode cX6_mix 223 = .ok (.ixor, 1) := by decide +kernel
theorem dX6_mix_224 : decode cX6_mix 224 = .ok (.istore 10, 2) := by decide +kernel
theorem dX6_mix_226 : decode cX6_mix 226 = .ok (.iload 8, 2) := by decide +kernel
theorem dX6_mix_228 : decode cX6_mix 228 = .ok (.iload 10, 2) := by decide +kernel
theorem dX6_mix_230 : decode cX6_mix 230 = .ok (.iadd, 1) := by decide +kernel
theorem dX6_mix_231 : decode cX6_mix 231 = .ok (.iload 5, 2) := by decide +kernel
theorem dX6_mix_233 : decode cX6_mix 233 = .ok (.iload 6, 2) := by decide +kernel
theorem dX6_mix_235 : decode cX6_mix 235 = .ok (.iand, 1) := by decide +kernel
theorem dX6_mix_236 : decode cX6_mix 236 = .ok (.iload 5, 2) := by decide +kernel
theorem dX6_mix_238 : decode cX6_mix 238 = .ok (.iconst (-1), 1) := by decide +kernel
theorem dX6_mix_239 : decode cX6_mix 239 = .ok (.ixor, 1) := by decide +kernel
theorem dX6_mix_240 : decode cX6_mix 240 = .ok (.iload 7, 2) := by decide +kernel
theorem dX6_mix_242 : decode cX6_mix 242 = .ok (.iand, 1) := by decide +kernel
theorem dX6_mix_243 : decode cX6_mix 243 = .ok (.ixor, 1) := by decide +kernel
theorem dX6_mix_244 : decode cX6_mix 244 = .ok (.iadd, 1) := by decide +kernel
theorem dX6_mix_245 : decode cX6_mix 245 = .ok (.getstatic 41, 3) := by decide +kernel
theorem dX6_mix_248 : decode cX6_mix 248 = .ok (.iload 9, 2) := by decide +kernel
theorem dX6_mix_250 : decode cX6_mix 250 = .ok (.iaload, 1) := by decide +kernel
theorem dX6_mix_251 : decode cX6_mix 251 = .ok (.iadd, 1) := by decide +kernel
theorem dX6_mix_252 : decode cX6_mix 252 = .ok (.aload_n 0, 1) := by decide +kernel
theorem dX6_mix_253 : decode cX6_mix 253 = .ok (.getfield 15, 3) := by decide +kernel
theorem dX6_mix_256 : decode cX6_mix 256 = .ok (.iload 9, 2) := by decide +kernel
theorem dX6_mix_258 : decode cX6_mix 258 = .ok (.iaload, 1) := by decide +kernel
theorem dX6_mix_259 : decode cX6_mix 259 = .ok (.iadd, 1) := by decide +kernel
theorem dX6_mix_260 : decode cX6_mix 260 = .ok (.istore 11, 2) := by decide +kernel
theorem dX6_mix_262 : decode cX6_mix 262 = .ok (.iload_n 1, 1) := by decide +kernel
theorem dX6_mix_263 : decode cX6_mix 263 = .ok (.iconst 2, 1) := by decide +kernel
theorem dX6_mix_264 : decode cX6_mix 264 = .ok (.iushr, 1) := by decide +kernel
theorem dX6_mix_265 : decode cX6_mix 265 = .ok (.iload_n 1, 1) := by decide +kernel
theorem dX6_mix_266 : decode cX6_mix 266 = .ok (.bipush 30, 2) := by decide +kernel
theorem dX6_mix_268 : decode cX6_mix 268 = .ok (.ishl, 1) := by decide +kernel
theorem dX6_mix_269 : decode cX6_mix 269 = .ok (.ior, 1) := by decide +kernel
theorem dX6_mix_270 : decode cX6_mix 270 = .ok (.iload_n 1, 1) := by decide +kernel
theorem dX6_mix_271 : decode cX6_mix 271 = .ok (.bipush 13, 2) := by decide +kernel
theorem dX6_mix_273 : decode cX6_mix 273 = .ok (.iushr, 1) := by decide +kernel
theorem dX6_mix_274 : decode cX6_mix 274 = .ok (.iload_n 1, 1) := by decide +kernel
theorem dX6_mix_275 : decode cX6_mix 275 = .ok (.bipush 19, 2) := by decide +kernel
theorem dX6_mix_277 : decode cX6_mix 277 = .ok (.ishl, 1) := by decide +kernel
theorem dX6_mix_278 : decode cX6_mix 278 = .ok (.ior, 1) := by decide +kernel
theorem dX6_mix_279 : decode cX6_mix 279 = .ok (.ixor, 1) := by decide +kernel
theorem dX6_mix_280 : decode cX6_mix 280 = .ok (.iload_n 1, 1) := by decide +kernel
theorem dX6_mix_281 : decode cX6_mix 281 = .ok (.bipush 22, 2) := by decide +kernel
theorem dX6_mix_283 : decode cX6_mix 283 = .ok (.iushr, 1) := by decide +kernel
theorem dX6_mix_284 : decode cX6_mix 284 = .ok (.iload_n 1, 1) := by decide +kernel
theorem dX6_mix_285 : decode cX6_mix 285 = .ok (.bipush 10, 2) := by decide +kernel
theorem dX6_mix_287 : decode cX6_mix 287 = .ok (.ishl, 1) := by decide +kernel
theorem dX6_mix_288 : decode cX6_mix 288 = .ok (.ior, 1) := by decide +kernel
theorem dX6_mix_289 : decode cX6_mix 289 = .ok (.ixor, 1) := by decide +kernel
theorem dX6_mix_290 : decode cX6_mix 290 = .ok (.istore 10, 2) := by decide +kernel
theorem dX6_mix_292 : decode cX6_mix 292 = .ok (.iload 10, 2) := by decide +kernel
theorem dX6_mix_294 : decode cX6_mix 294 = .ok (.iload_n 1, 1) := by decide +kernel
theorem dX6_mix_295 : decode cX6_mix 295 = .ok (.iload_n 2, 1) := by decide +kernel
theorem dX6_mix_296 : decode cX6_mix 296 = .ok (.iand, 1) := by decide +kernel
theorem dX6_mix_297 : decode cX6_mix 297 = .ok (.iload_n 1, 1) := by decide +kernel
theorem dX6_mix_298 : decode cX6_mix 298 = .ok (.iload_n 3, 1) := by decide +kernel
theorem dX6_mix_299 : decode cX6_mix 299 = .ok (.iand, 1) := by decide +kernel
theorem dX6_mix_300 : decode cX6_mix 300 = .ok (.ixor, 1) := by decide +kernel
theorem dX6_mix_301 : decode cX6_mix 301 = .ok (.iload_n 2, 1) := by decide +kernel
theorem dX6_mix_302 : decode cX6_mix 302 = .ok (.iload_n 3, 1) := by decide +kernel
theorem dX6_mix_303 : decode cX6_mix 303 = .ok (.iand, 1) := by decide +kernel
theorem dX6_mix_304 : decode cX6_mix 304 = .ok (.ixor, 1) := by decide +kernel
theorem dX6_mix_305 : decode cX6_mix 305 = .ok (.iadd, 1) := by decide +kernel
theorem dX6_mix_306 : decode cX6_mix 306 = .ok (.istore 12, 2) := by decide +kernel
theorem dX6_mix_308 : decode cX6_mix 308 = .ok (.iload 7, 2) := by decide +kernel
theorem dX6_mix_310 : decode cX6_mix 310 = .ok (.istore 8, 2) := by decide +kernel
theorem dX6_mix_312 : decode cX6_mix 312 = .ok (.iload 6, 2) := by decide +kernel
theorem dX6_mix_314 : decode cX6_mix 314 = .ok (.istore 7, 2) := by decide +kernel
theorem dX6_mix_316 : decode cX6_mix 316 = .ok (.iload 5, 2) := by decide +kernel
theorem dX6_mix_318 : decode cX6_mix 318 = .ok (.istore 6, 2) := by decide +kernel
theorem dX6_mix_320 : decode cX6_mix 320 = .ok (.iload 4, 2) := by decide +kernel
theorem dX6_mix_322 : decode cX6_mix 322 = .ok (.iload 11, 2) := by decide +kernel
theorem dX6_mix_324 : decode cX6_mix 324 = .ok (.iadd, 1) := by decide +kernel
theorem dX6_mix_325 : decode cX6_mix 325 = .ok (.istore 5, 2) := by decide +kernel
theorem dX6_mix_327 : decode cX6_mix 327 = .ok (.iload_n 3, 1) := by decide +kernel
theorem dX6_mix_328 : decode cX6_mix 328 = .ok (.istore 4, 2) := by decide +kernel
theorem dX6_mix_330 : decode cX6_mix 330 = .ok (.iload_n 2, 1) := by decide +kernel
theorem dX6_mix_331 : decode cX6_mix 331 = .ok (.istore_n 3, 1) := by decide +kernel
theorem dX6_mix_332 : decode cX6_mix 332 = .ok (.iload_n 1, 1) := by decide +kernel
theorem dX6_mix_333 : decode cX6_mix 333 = .ok (.istore_n 2, 1) := by decide +kernel
theorem dX6_mix_334 : decode cX6_mix 334 = .ok (.iload 11, 2) := by decide +kernel
theorem dX6_mix_336 : decode cX6_mix 336 = .ok (.iload 12, 2) := by decide +kernel
theorem dX6_mix_338 : decode cX6_mix 338 = .ok (.iadd, 1) := by decide +kernel
theorem dX6_mix_339 : decode cX6_mix 339 = .ok (.istore_n 1, 1) := by decide +kernel
theorem dX6_mix_340 : decode cX6_mix 340 = .ok (.iinc 9 1, 3) := by decide +kernel
theorem dX6_mix_343 : decode cX6_mix 343 = .ok (.goto (-161), 3) := by decide +kernel
theorem dX6_mix_346 : decode cX6_mix 346 = .ok (.aload_n 0, 1) := by decide +kernel
theorem dX6_mix_347 : decode cX6_mix 347 = .ok (.getfield 9, 3) := by decide +kernel
theorem dX6_mix_350 : decode cX6_mix 350 = .ok (.iconst 0, 1) := by decide +kernel
theorem dX6_mix_351 : decode cX6_mix 351 = .ok (.dup2, 1) := by decide +kernel
theorem dX6_mix_352 : decode cX6_mix 352 = .ok (.iaload, 1) := by decide +kernel
theorem dX6_mix_353 : decode cX6_mix 353 = .ok (.iload_n 1, 1) := by decide +kernel
theorem dX6_mix_354 : decode cX6_mix 354 = .ok (.iadd, 1) := by decide +kernel
theorem dX6_mix_355 : decode cX6_mix 355 = .ok (.iastore, 1) := by decide +kernel
theorem dX6_mix_356 : decode cX6_mix 356 = .ok (.aload_n 0, 1) := by decide +kernel
theorem dX6_mix_357 : decode cX6_mix 357 = .ok (.getfield 9, 3) := by decide +kernel
theorem dX6_mix_360 : decode cX6_mix 360 = .ok (.iconst 1, 1) := by decide +kernel
theorem dX6_mix_361 : decode cX6_mix 361 = .ok (.dup2, 1) := by decide +kernel
theorem dX6_mix_362 : decode cX6_mix 362 = .ok (.iaload, 1) := by decide +kernel
theorem dX6_mix_363 : decode cX6_mix 363 = .ok (.iload_n 2, 1) := by decide +kernel
theorem dX6_mix_364 : decode cX6_mix 364 = .ok (.iadd, 1) := by decide +kernel
theorem dX6_mix_365 : decode cX6_mix 365 = .ok (.iastore, 1) := by decide +kernel
theorem dX6_mix_366 : decode cX6_mix 366 = .ok (.aload_n 0, 1) := by decide +kernel
theorem dX6_mix_367 : decode cX6_mix 367 = .ok (.getfield 9, 3) := by decide +kernel
theorem dX6_mix_370 : decode cX6_mix 370 = .ok (.iconst 2, 1) := by decide +kernel
theorem dX6_mix_371 : decode cX6_mix 371 = .ok (.dup2, 1) := by decide +kernel
theorem dX6_mix_372 : decode cX6_mix 372 = .ok (.iaload, 1) := by decide +kernel
theorem dX6_mix_373 : decode cX6_mix 373 = .ok (.iload_n 3, 1) := by decide +kernel
theorem dX6_mix_374 : decode cX6_mix 374 = .ok (.iadd, 1) := by decide +kernel
theorem dX6_mix_375 : decode cX6_mix 375 = .ok (.iastore, 1) := by decide +kernel
theorem dX6_mix_376 : decode cX6_mix 376 = .ok (.aload_n 0, 1) := by decide +kernel
theorem dX6_mix_377 : decode cX6_mix 377 = .ok (.getfield 9, 3) := by decide +kernel
theorem dX6_mix_380 : decode cX6_mix 380 = .ok (.iconst 3, 1) := by decide +kernel
theorem dX6_mix_381 : decode cX6_mix 381 = .ok (.dup2, 1) := by decide +kernel
theorem dX6_mix_382 : decode cX6_mix 382 = .ok (.iaload, 1) := by decide +kernel
theorem dX6_mix_383 : decode cX6_mix 383 = .ok (.iload 4, 2) := by decide +kernel
theorem dX6_mix_385 : decode cX6_mix 385 = .ok (.iadd, 1) := by decide +kernel
theorem dX6_mix_386 : decode cX6_mix 386 = .ok (.iastore, 1) := by decide +kernel
theorem dX6_mix_387 : decode cX6_mix 387 = .ok (.aload_n 0, 1) := by decide +kernel
theorem dX6_mix_388 : decode cX6_mix 388 = .ok (.getfield 9, 3) := by decide +kernel
theorem dX6_mix_391 : decode cX6_mix 391 = .ok (.iconst 4, 1) := by decide +kernel
theorem dX6_mix_392 : decode cX6_mix 392 = .ok (.dup2, 1) := by decide +kernel
theorem dX6_mix_393 : decode cX6_mix 393 = .ok (.iaload, 1) := by decide +kernel
theorem dX6_mix_394 : decode cX6_mix 394 = .ok (.iload 5, 2) := by decide +kernel
theorem dX6_mix_396 : decode cX6_mix 396 = .ok (.iadd, 1) := by decide +kernel
theorem dX6_mix_397 : decode cX6_mix 397 = .ok (.iastore, 1) := by decide +kernel
theorem dX6_mix_398 : decode cX6_mix 398 = .ok (.aload_n 0, 1) := by decide +kernel
theorem dX6_mix_399 : decode cX6_mix 399 = .ok (.getfield 9, 3) := by decide +kernel
theorem dX6_mix_402 : decode cX6_mix 402 = .ok (.iconst 5, 1) := by decide +kernel
theorem dX6_mix_403 : decode cX6_mix 403 = .ok (.dup2, 1) := by decide +kernel
theorem dX6_mix_404 : decode cX6_mix 404 = .ok (.iaload, 1) := by decide +kernel
theorem dX6_mix_405 : decode cX6_mix 405 = .ok (.iload 6, 2) := by decide +kernel
theorem dX6_mix_407 : decode cX6_mix 407 = .ok (.iadd, 1) := by decide +kernel
theorem dX6_mix_408 : decode cX6_mix 408 = .ok (.iastore, 1) := by decide +kernel
theorem dX6_mix_409 : decode cX6_mix 409 = .ok (.aload_n 0, 1) := by decide +kernel
theorem dX6_mix_410 : decode cX6_mix 410 = .ok (.getfield 9, 3) := by decide +kernel
theorem dX6_mix_413 : decode cX6_mix 413 = .ok (.bipush 6, 2) := by decide +kernel
theorem dX6_mix_415 : decode cX6_mix 415 = .ok (.dup2, 1) := by decide +kernel
theorem dX6_mix_416 : decode cX6_mix 416 = .ok (.iaload, 1) := by decide +kernel
theorem dX6_mix_417 : decode cX6_mix 417 = .ok (.iload 7, 2) := by decide +kernel
theorem dX6_mix_419 : decode cX6_mix 419 = .ok (.iadd, 1) := by decide +kernel
theorem dX6_mix_420 : decode cX6_mix 420 = .ok (.iastore, 1) := by decide +kernel
theorem dX6_mix_421 : decode cX6_mix 421 = .ok (.aload_n 0, 1) := by decide +kernel
theorem dX6_mix_422 : decode cX6_mix 422 = .ok (.getfield 9, 3) := by decide +kernel
theorem dX6_mix_425 : decode cX6_mix 425 = .ok (.bipush 7, 2) := by decide +kernel
theorem dX6_mix_427 : decode cX6_mix 427 = .ok (.dup2, 1) := by decide +kernel
theorem dX6_mix_428 : decode cX6_mix 428 = .ok (.iaload, 1) := by decide +kernel
theorem dX6_mix_429 : decode cX6_mix 429 = .ok (.iload 8, 2) := by decide +kernel
theorem dX6_mix_431 : decode cX6_mix 431 = .ok (.iadd, 1) := by decide +kernel
theorem dX6_mix_432 : decode cX6_mix 432 = .ok (.iastore, 1) := by decide +kernel
theorem dX6_mix_433 : decode cX6_mix 433 = .ok (.return_, 1) := by decide +kernel
end
section
theorem dX7_init_0 : decode cX7_init 0 = .ok (.aload_n 0, 1) := by decide +kernel
theorem dX7_init_1 : decode cX7_init 1 = .ok (.invokespecial 1, 3) := by decide +kernel
theorem dX7_init_4 : decode cX7_init 4 = .ok (.aload_n 0, 1) := by decide +kernel
theorem dX7_init_5 : decode cX7_init 5 = .ok (.new 7, 3) := by decide +kernel
theorem dX7_init_8 : decode cX7_init 8 = .ok (.dup, 1) := by decide +kernel
theorem dX7_init_9 : decode cX7_init 9 = .ok (.invokespecial 9, 3) := by decide +kernel
theorem dX7_init_12 : decode cX7_init 12 = .ok (.putfield 10, 3) := by decide +kernel
theorem dX7_init_15 : decode cX7_init 15 = .ok (.aload_n 0, 1) := by decide +kernel
theorem dX7_init_16 : decode cX7_init 16 = .ok (.new 16, 3) := by decide +kernel
theorem dX7_init_19 : decode cX7_init 19 = .ok (.dup, 1) := by decide +kernel
theorem dX7_init_20 : decode cX7_init 20 = .ok (.aload_n 0, 1) := by decide +kernel
theorem dX7_init_21 : decode cX7_init 21 = .ok (.getfield 10, 3) := by decide +kernel
theorem dX7_init_24 : decode cX7_init 24 = .ok (.invokespecial 18, 3) := by decide +kernel
theorem dX7_init_27 : decode cX7_init 27 = .ok (.putfield 21, 3) := by decide +kernel
theorem dX7_init_30 : decode cX7_init 30 = .ok (.aload_n 0, 1) := by decide +kernel
theorem dX7_init_31 : decode cX7_init 31 = .ok (.new 25, 3) := by decide +kernel
theorem dX7_init_34 : decode cX7_init 34 = .ok (.dup, 1) := by decide +kernel
theorem dX7_init_35 : decode cX7_init 35 = .ok (.invokespecial 27, 3) := by decide +kernel
theorem dX7_init_38 : decode cX7_init 38 = .ok (.putfield 28, 3) := by decide +kernel
theorem dX7_init_41 : decode cX7_init 41 = .ok (.aload_n 0, 1) := by decide +kernel
theorem dX7_init_42 : decode cX7_init 42 = .ok (.new 32, 3) := by decide +kernel
theorem dX7_init_45 : decode cX7_init 45 = .ok (.dup, 1) := by decide +kernel
theorem dX7_init_46 : decode cX7_init 46 = .ok (.invokespecial 34, 3) := by decide +kernel
theorem dX7_init_49 : decode cX7_init 49 = .ok (.putfield 35, 3) := by decide +kernel
theorem dX7_init_52 : decode cX7_init 52 = .ok (.aload_n 0, 1) := by decide +kernel
theorem dX7_init_53 : decode cX7_init 53 = .ok (.new 39, 3) := by decide +kernel
theorem dX7_init_56 : decode cX7_init 56 = .ok (.dup, 1) := by decide +kernel
theorem dX7_init_57 : decode cX7_init 57 = .ok (.invokespecial 41, 3) := by decide +kernel
theorem dX7_init_60 : decode cX7_init 60 = .ok (.putfield 42, 3) := by decide +kernel
theorem dX7_init_63 : decode cX7_init 63 = .ok (.aload_n 0, 1) := by decide +kernel
theorem dX7_init_64 : decode cX7_init 64 = .ok (.bipush 8, 2) := by decide +kernel
theorem dX7_init_66 : decode cX7_init 66 = .ok (.anewarray 46, 3) := by decide +kernel
theorem dX7_init_69 : decode cX7_init 69 = .ok (.putfield 48, 3) := by decide +kernel
theorem dX7_init_72 : decode cX7_init 72 = .ok (.aload_n 0, 1) := by decide +kernel
theorem dX7_init_73 : decode cX7_init 73 = .ok (.iconst 0, 1) := by decide +kernel
theorem dX7_init_74 : decode cX7_init 74 = .ok (.putfield 52, 3) := by decide +kernel
theorem dX7_init_77 : decode cX7_init 77 = .ok (.aload_n 0, 1) := by decide +kernel
theorem dX7_init_78 : decode cX7_init 78 = .ok (.new 46, 3) := by decide +kernel
theorem dX7_init_81 : decode cX7_init 81 = .ok (.dup, 1) := by decide +kernel
theorem dX7_init_82 : decode cX7_init 82 = .ok (.invokespecial 56, 3) := by decide +kernel
theorem dX7_init_85 : decode cX7_init 85 = .ok (.putfield 57, 3) := by decide +kernel
theorem dX7_init_88 : decode cX7_init 88 = .ok (.return_, 1) := by decide +kernel
theorem dX7_blank_0 : decode cX7_blank 0 = .ok (.aload_n 0, 1) := by decide +kernel
theorem dX7_blank_1 : decode cX7_blank 1 = .ok (.getfield 57, 3) := by decide +kernel
theorem dX7_blank_4 : decode cX7_blank 4 = .ok (.getfield 61, 3) := by decide +kernel
theorem dX7_blank_7 : decode cX7_blank 7 = .ok (.bipush 8, 2) := by decide +kernel
theorem dX7_blank_9 : decode cX7_blank 9 = .ok (.if_icmp .lt 6, 3) := by decide +kernel
theorem dX7_blank_12 : decode cX7_blank 12 = .ok (.bipush (-2), 2) := by decide +kernel
theorem dX7_blank_14 : decode cX7_blank 14 = .ok (.ireturn, 1) := by decide +kernel
theorem dX7_blank_15 : decode cX7_blank 15 = .ok (.aload_n 0, 1) := by decide +kernel
theorem dX7_blank_16 : decode cX7_blank 16 = .ok (.getfield 57, 3) := by decide +kernel
theorem dX7_blank_19 : decode cX7_blank 19 = .ok (.dup, 1) := by decide +kernel
theorem dX7_blank_20 : decode cX7_blank 20 = .ok (.getfield 61, 3) := by decide +kernel
theorem dX7_blank_23 : decode cX7_blank 23 = .ok (.iconst 1, 1) := by decide +kernel
theorem dX7_blank_24 : decode cX7_blank 24 = .ok (.iadd, 1) := by decide +kernel
theorem dX7_blank_25 : decode cX7_blank 25 = .ok (.putfield 61, 3) := by decide +kernel
theorem dX7_blank_28 : decode cX7_blank 28 = .ok (.aload_n 0, 1) := by decide +kernel
theorem dX7_blank_29 : decode cX7_blank 29 = .ok (.getfield 57, 3) := by decide +kernel
theorem dX7_blank_32 : decode cX7_blank 32 = .ok (.iconst 0, 1) := by decide +kernel
theorem dX7_blank_33 : decode cX7_blank 33 = .ok (.putfield 64, 3) := by decide +kernel
theorem dX7_blank_36 : decode cX7_blank 36 = .ok (.aload_n 0, 1) := by decide +kernel
theorem dX7_blank_37 : decode cX7_blank 37 = .ok (.getfield 57, 3) := by decide +kernel
theorem dX7_blank_40 : decode cX7_blank 40 = .ok (.getfield 61, 3) := by decide +kernel
theorem dX7_blank_43 : decode cX7_blank 43 = .ok (.ireturn, 1) := by decide +kernel
theorem dX7_triple_0 : decode cX7_triple 0 = .ok (.aload_n 0, 1) := by decide +kernel
theorem dX7_triple_1 : decode cX7_triple 1 = .ok (.getfield 57, 3) := by decide +kernel
theorem dX7_triple_4 : decode cX7_triple 4 = .ok (.iload_n 1, 1) := by decide +kernel
theorem dX7_triple_5 : decode cX7_triple 5 = .ok (.iload_n 2, 1) := by decide +kernel
theorem dX7_triple_6 : decode cX7_triple 6 = .ok (.iload_n 3, 1) := by decide +kernel
theorem dX7_triple_7 : decode cX7_triple 7 = .ok (.invokevirtual 68, 3) := by decide +kernel
theorem dX7_triple_10 : decode cX7_triple 10 = .ok (.ifCond .ne 5, 3) := by decide +kernel
theorem dX7_triple_13 : decode cX7_triple 13 = .ok (.iconst (-1), 1) := by decide +kernel
theorem dX7_triple_14 : decode cX7_triple 14 = .ok (.ireturn, 1) := by decide +kernel
theorem dX7_triple_15 : decode cX7_triple 15 = .ok (.iload_n 1, 1) := by decide +kernel
theorem dX7_triple_16 : decode cX7_triple 16 = .ok (.iload_n 2, 1) := by decide +kernel
theorem dX7_triple_17 : decode cX7_triple 17 = .ok (.iload_n 3, 1) := by decide +kernel
theorem dX7_triple_18 : decode cX7_triple 18 = .ok (.invokestatic 72, 3) := by decide +kernel
theorem dX7_triple_21 : decode cX7_triple 21 = .ok (.istore 4, 2) := by decide +kernel
theorem dX7_triple_23 : decode cX7_triple 23 = .ok (.aload_n 0, 1) := by decide +kernel
theorem dX7_triple_24 : decode cX7_triple 24 = .ok (.getfield 57, 3) := by decide +kernel
theorem dX7_triple_27 : decode cX7_triple 27 = .ok (.iload 4, 2) := by decide +kernel
theorem dX7_triple_29 : decode cX7_triple 29 = .ok (.invokevirtual 76, 3) := by decide +kernel
theorem dX7_triple_32 : decode cX7_triple 32 = .ok (.ifCond .eq 5, 3) := by decide +kernel
theorem dX7_triple_35 : decode cX7_triple 35 = .ok (.iconst 0, 1) := by decide +kernel
theorem dX7_triple_36 : decode cX7_triple 36 = .ok (.ireturn, 1) := by decide +kernel
theorem dX7_triple_37 : decode cX7_triple 37 = .ok (.aload_n 0, 1) := by decide +kernel
theorem dX7_triple_38 : decode cX7_triple 38 = .ok (.getfield 57, 3) := by decide +kernel
theorem dX7_triple_41 : decode cX7_triple 41 = .ok (.getfield 80, 3) := by decide +kernel
theorem dX7_triple_44 : decode cX7_triple 44 = .ok (.bipush 40, 2) := by decide +kernel
theorem dX7_triple_46 : decode cX7_triple 46 = .ok (.if_icmp .lt 6, 3) := by decide +kernel
theorem dX7_triple_49 : decode cX7_triple 49 = .ok (.bipush (-2), 2) := by decide +kernel
theorem dX7_triple_51 : decode cX7_triple 51 = .ok (.ireturn, 1) := by decide +kernel
theorem dX7_triple_52 : decode cX7_triple 52 = .ok (.aload_n 0, 1) := by decide +kernel
theorem dX7_triple_53 : decode cX7_triple 53 = .ok (.getfield 57, 3) := by decide +kernel
theorem dX7_triple_56 : decode cX7_triple 56 = .ok (.iload 4, 2) := by decide +kernel
theorem dX7_triple_58 : decode cX7_triple 58 = .ok (.invokevirtual 83, 3) := by decide +kernel
theorem dX7_triple_61 : decode cX7_triple 61 = .ok (.iconst 1, 1) := by decide +kernel
theorem dX7_triple_62 : decode cX7_triple 62 = .ok (.ireturn, 1) := by decide +kernel
theorem dX7_drop_0 : decode cX7_drop 0 = .ok (.aload_n 0, 1) := by decide +kernel
theorem dX7_drop_1 : decode cX7_drop 1 = .ok (.getfield 57, 3) := by decide +kernel
theorem dX7_drop_4 : decode cX7_drop 4 = .ok (.iload_n 1, 1) := by decide +kernel
theorem dX7_drop_5 : decode cX7_drop 5 = .ok (.iload_n 2, 1) := by decide +kernel
theorem dX7_drop_6 : decode cX7_drop 6 = .ok (.iload_n 3, 1) := by decide +kernel
theorem dX7_drop_7 : decode cX7_drop 7 = .ok (.invokevirtual 68, 3) := by decide +kernel
theorem dX7_drop_10 : decode cX7_drop 10 = .ok (.ifCond .ne 5, 3) := by decide +kernel
theorem dX7_drop_13 : decode cX7_drop 13 = .ok (.iconst 0, 1) := by decide +kernel
theorem dX7_drop_14 : decode cX7_drop 14 = .ok (.ireturn, 1) := by decide +kernel
theorem dX7_drop_15 : decode cX7_drop 15 = .ok (.iload_n 1, 1) := by decide +kernel
theorem dX7_drop_16 : decode cX7_drop 16 = .ok (.iload_n 2, 1) := by decide +kernel
theorem dX7_drop_17 : decode cX7_drop 17 = .ok (.iload_n 3, 1) := by decide +kernel
theorem dX7_drop_18 : decode cX7_drop 18 = .ok (.invokestatic 72, 3) := by decide +kernel
theorem dX7_drop_21 : decode cX7_drop 21 = .ok (.istore 4, 2) := by decide +kernel
theorem dX7_drop_23 : decode cX7_drop 23 = .ok (.aload_n 0, 1) := by decide +kernel
theorem dX7_drop_24 : decode cX7_drop 24 = .ok (.getfield 57, 3) := by decide +kernel
theorem dX7_drop_27 : decode cX7_drop 27 = .ok (.iload 4, 2) := by decide +kernel
theorem dX7_drop_29 : decode cX7_drop 29 = .ok (.invokevirtual 76, 3) := by decide +kernel
theorem dX7_drop_32 : decode cX7_drop 32 = .ok (.ifCond .ne 5, 3) := by decide +kernel
theorem dX7_drop_35 : decode cX7_drop 35 = .ok (.iconst 0, 1) := by decide +kernel
theorem dX7_drop_36 : decode cX7_drop 36 = .ok (.ireturn, 1) := by decide +kernel
theorem dX7_drop_37 : decode cX7_drop 37 = .ok (.aload_n 0, 1) := by decide +kernel
theorem dX7_drop_38 : decode cX7_drop 38 = .ok (.getfield 57, 3) := by decide +kernel
theorem dX7_drop_41 : decode cX7_drop 41 = .ok (.iload 4, 2) := by decide +kernel
theorem dX7_drop_43 : decode cX7_drop 43 = .ok (.invokevirtual 87, 3) := by decide +kernel
theorem dX7_drop_46 : decode cX7_drop 46 = .ok (.iconst 1, 1) := by decide +kernel
theorem dX7_drop_47 : decode cX7_drop 47 = .ok (.ireturn, 1) := by decide +kernel
theorem dX7_name_0 : decode cX7_name 0 = .ok (.aload_n 0, 1) := by decide +kernel
theorem dX7_name_1 : decode cX7_name 1 = .ok (.getfield 21, 3) := by decide +kernel
theorem dX7_name_4 : decode cX7_name 4 = .ok (.aload_n 0, 1) := by decide +kernel
theorem dX7_name_5 : decode cX7_name 5 = .ok (.getfield 57, 3) := by decide +kernel
theorem dX7_name_8 : decode cX7_name 8 = .ok (.invokevirtual 90, 3) := by decide +kernel
theorem dX7_name_11 : decode cX7_name 11 = .ok (.aload_n 0, 1) := by decide +kernel
theorem dX7_name_12 : decode cX7_name 12 = .ok (.getfield 57, 3) := by decide +kernel
theorem dX7_name_15 : decode cX7_name 15 = .ok (.getfield 94, 3) := by decide +kernel
theorem dX7_name_18 : decode cX7_name 18 = .ok (.invokevirtual 98, 3) := by decide +kernel
theorem dX7_name_21 : decode cX7_name 21 = .ok (.i2l, 1) := by decide +kernel
theorem dX7_name_22 : decode cX7_name 22 = .ok (.lload_n 1, 1) := by decide +kernel
theorem dX7_name_23 : decode cX7_name 23 = .ok (.lcmp, 1) := by decide +kernel
theorem dX7_name_24 : decode cX7_name 24 = .ok (.ifCond .le 5, 3) := by decide +kernel
theorem dX7_name_27 : decode cX7_name 27 = .ok (.iconst (-1), 1) := by decide +kernel
theorem dX7_name_28 : decode cX7_name 28 = .ok (.ireturn, 1) := by decide +kernel
theorem dX7_name_29 : decode cX7_name 29 = .ok (.aload_n 0, 1) := by decide +kernel
theorem dX7_name_30 : decode cX7_name 30 = .ok (.getfield 35, 3) := by decide +kernel
theorem dX7_name_33 : decode cX7_name 33 = .ok (.aload_n 0, 1) := by decide +kernel
theorem dX7_name_34 : decode cX7_name 34 = .ok (.getfield 57, 3) := by decide +kernel
theorem dX7_name_37 : decode cX7_name 37 = .ok (.aload_n 0, 1) := by decide +kernel
theorem dX7_name_38 : decode cX7_name 38 = .ok (.getfield 42, 3) := by decide +kernel
theorem dX7_name_41 : decode cX7_name 41 = .ok (.getfield 104, 3) := by decide +kernel
theorem dX7_name_44 : decode cX7_name 44 = .ok (.invokevirtual 107, 3) := by decide +kernel
theorem dX7_name_47 : decode cX7_name 47 = .ok (.aload_n 0, 1) := by decide +kernel
theorem dX7_name_48 : decode cX7_name 48 = .ok (.getfield 28, 3) := by decide +kernel
theorem dX7_name_51 : decode cX7_name 51 = .ok (.aload_n 0, 1) := by decide +kernel
theorem dX7_name_52 : decode cX7_name 52 = .ok (.getfield 57, 3) := by decide +kernel
theorem dX7_name_55 : decode cX7_name 55 = .ok (.aload_n 0, 1) := by decide +kernel
theorem dX7_name_56 : decode cX7_name 56 = .ok (.getfield 42, 3) := by decide +kernel
theorem dX7_name_59 : decode cX7_name 59 = .ok (.getfield 104, 3) := by decide +kernel
theorem dX7_name_62 : decode cX7_name 62 = .ok (.invokevirtual 111, 3) := by decide +kernel
theorem dX7_name_65 : decode cX7_name 65 = .ok (.ifCond .eq 24, 3) := by decide +kernel
theorem dX7_name_68 : decode cX7_name 68 = .ok (.aload_n 0, 1) := by decide +kernel
theorem dX7_name_69 : decode cX7_name 69 = .ok (.getfield 42, 3) := by decide +kernel
theorem dX7_name_72 : decode cX7_name 72 = .ok (.aload_n 0, 1) := by decide +kernel
theorem dX7_name_73 : decode cX7_name 73 = .ok (.getfield 28, 3) := by decide +kernel
theorem dX7_name_76 : decode cX7_name 76 = .ok (.getfield 115, 3) := by decide +kernel
theorem dX7_name_79 : decode cX7_name 79 = .ok (.aload_n 0, 1) := by decide +kernel
theorem dX7_name_80 : decode cX7_name 80 = .ok (.getfield 57, 3) := by decide +kernel
theorem dX7_name_83 : decode cX7_name 83 = .ok (.getfield 61, 3) := by decide +kernel
theorem dX7_name_86 : decode cX7_name 86 = .ok (.invokevirtual 119, 3) := by decide +kernel
theorem dX7_name_89 : decode cX7_name 89 = .ok (.aload_n 0, 1) := by decide +kernel
theorem dX7_name_90 : decode cX7_name 90 = .ok (.getfield 28, 3) := by decide +kernel
theorem dX7_name_93 : decode cX7_name 93 = .ok (.aload_n 0, 1) := by decide +kernel
theorem dX7_name_94 : decode cX7_name 94 = .ok (.getfield 57, 3) := by decide +kernel
theorem dX7_name_97 : decode cX7_name 97 = .ok (.invokevirtual 123, 3) := by decide +kernel
theorem dX7_name_100 : decode cX7_name 100 = .ok (.ireturn, 1) := by decide +kernel
theorem dX7_named_0 : decode cX7_named 0 = .ok (.iload_n 1, 1) := by decide +kernel
theorem dX7_named_1 : decode cX7_named 1 = .ok (.iconst 1, 1) := by decide +kernel
theorem dX7_named_2 : decode cX7_named 2 = .ok (.if_icmp .lt 17, 3) := by decide +kernel
theorem dX7_named_5 : decode cX7_named 5 = .ok (.iload_n 1, 1) := by decide +kernel
theorem dX7_named_6 : decode cX7_named 6 = .ok (.aload_n 0, 1) := by decide +kernel
theorem dX7_named_7 : decode cX7_named 7 = .ok (.getfield 42, 3) := by decide +kernel
theorem dX7_named_10 : decode cX7_named 10 = .ok (.getfield 104, 3) := by decide +kernel
theorem dX7_named_13 : decode cX7_named 13 = .ok (.getfield 61, 3) := by decide +kernel
theorem dX7_named_16 : decode cX7_named 16 = .ok (.if_icmp .le 5, 3) := by decide +kernel
theorem dX7_named_19 : decode cX7_named 19 = .ok (.iconst (-1), 1) := by decide +kernel
theorem dX7_named_20 : decode cX7_named 20 = .ok (.ireturn, 1) := by decide +kernel
theorem dX7_named_21 : decode cX7_named 21 = .ok (.aload_n 0, 1) := by decide +kernel
theorem dX7_named_22 : decode cX7_named 22 = .ok (.getfield 42, 3) := by decide +kernel
theorem dX7_named_25 : decode cX7_named 25 = .ok (.getfield 127, 3) := by decide +kernel
theorem dX7_named_28 : decode cX7_named 28 = .ok (.iload_n 1, 1) := by decide +kernel
theorem dX7_named_29 : decode cX7_named 29 = .ok (.iconst 1, 1) := by decide +kernel
theorem dX7_named_30 : decode cX7_named 30 = .ok (.isub, 1) := by decide +kernel
theorem dX7_named_31 : decode cX7_named 31 = .ok (.iaload, 1) := by decide +kernel
theorem dX7_named_32 : decode cX7_named 32 = .ok (.ireturn, 1) := by decide +kernel
theorem dX7_form_0 : decode cX7_form 0 = .ok (.iload_n 1, 1) := by decide +kernel
theorem dX7_form_1 : decode cX7_form 1 = .ok (.ifCond .lt 26, 3) := by decide +kernel
theorem dX7_form_4 : decode cX7_form 4 = .ok (.iload_n 1, 1) := by decide +kernel
theorem dX7_form_5 : decode cX7_form 5 = .ok (.aload_n 0, 1) := by decide +kernel
theorem dX7_form_6 : decode cX7_form 6 = .ok (.getfield 42, 3) := by decide +kernel
theorem dX7_form_9 : decode cX7_form 9 = .ok (.getfield 104, 3) := by decide +kernel
theorem dX7_form_12 : decode cX7_form 12 = .ok (.getfield 80, 3) := by decide +kernel
theorem dX7_form_15 : decode cX7_form 15 = .ok (.if_icmp .ge 12, 3) := by decide +kernel
theorem dX7_form_18 : decode cX7_form 18 = .ok (.iload_n 2, 1) := by decide +kernel
theorem dX7_form_19 : decode cX7_form 19 = .ok (.ifCond .lt 8, 3) := by decide +kernel
theorem dX7_form_22 : decode cX7_form 22 = .ok (.iload_n 2, 1) := by decide +kernel
theorem dX7_form_23 : decode cX7_form 23 = .ok (.iconst 3, 1) := by decide +kernel
theorem dX7_form_24 : decode cX7_form 24 = .ok (.if_icmp .lt 5, 3) := by decide +kernel
theorem dX7_form_27 : decode cX7_form 27 = .ok (.iconst 0, 1) := by decide +kernel
theorem dX7_form_28 : decode cX7_form 28 = .ok (.ireturn, 1) := by decide +kernel
theorem dX7_form_29 : decode cX7_form 29 = .ok (.aload_n 0, 1) := by decide +kernel
theorem dX7_form_30 : decode cX7_form 30 = .ok (.getfield 42, 3) := by decide +kernel
theorem dX7_form_33 : decode cX7_form 33 = .ok (.getfield 104, 3) := by decide +kernel
theorem dX7_form_36 : decode cX7_form 36 = .ok (.getfield 130, 3) := by decide +kernel
theorem dX7_form_39 : decode cX7_form 39 = .ok (.iload_n 1, 1) := by decide +kernel
theorem dX7_form_40 : decode cX7_form 40 = .ok (.iaload, 1) := by decide +kernel
theorem dX7_form_41 : decode cX7_form 41 = .ok (.iload_n 2, 1) := by decide +kernel
theorem dX7_form_42 : decode cX7_form 42 = .ok (.invokestatic 133, 3) := by decide +kernel
theorem dX7_form_45 : decode cX7_form 45 = .ok (.ireturn, 1) := by decide +kernel
theorem dX7_octet_0 : decode cX7_octet 0 = .ok (.iload_n 1, 1) := by decide +kernel
theorem dX7_octet_1 : decode cX7_octet 1 = .ok (.ifCond .lt 9, 3) := by decide +kernel
theorem dX7_octet_4 : decode cX7_octet 4 = .ok (.iload_n 1, 1) := by decide +kernel
theorem dX7_octet_5 : decode cX7_octet 5 = .ok (.bipush 32, 2) := by decide +kernel
theorem dX7_octet_7 : decode cX7_octet 7 = .ok (.if_icmp .lt 13, 3) := by decide +kernel
theorem dX7_octet_10 : decode cX7_octet 10 = .ok (.new 137, 3) := by decide +kernel
theorem dX7_octet_13 : decode cX7_octet 13 = .ok (.dup, 1) := by decide +kernel
theorem dX7_octet_14 : decode cX7_octet 14 = .ok (.ldc 139, 2) := by decide +kernel
theorem dX7_octet_16 : decode cX7_octet 16 = .ok (.invokespecial 141, 3) := by decide +kernel
theorem dX7_octet_19 : decode cX7_octet 19 = .ok (.athrow, 1) := by decide +kernel
theorem dX7_octet_20 : decode cX7_octet 20 = .ok (.aload_n 0, 1) := by decide +kernel
theorem dX7_octet_21 : decode cX7_octet 21 = .ok (.getfield 42, 3) := by decide +kernel
theorem dX7_octet_24 : decode cX7_octet 24 = .ok (.aload_n 0, 1) := by decide +kernel
theorem dX7_octet_25 : decode cX7_octet 25 = .ok (.getfield 10, 3) := by decide +kernel
theorem dX7_octet_28 : decode cX7_octet 28 = .ok (.invokevirtual 144, 3) := by decide +kernel
theorem dX7_octet_31 : decode cX7_octet 31 = .ok (.aload_n 0, 1) := by decide +kernel
theorem dX7_octet_32 : decode cX7_octet 32 = .ok (.getfield 42, 3) := by decide +kernel
theorem dX7_octet_35 : decode cX7_octet 35 = .ok (.getfield 147, 3) := by decide +kernel
theorem dX7_octet_38 : decode cX7_octet 38 = .ok (.iload_n 1, 1) := by decide +kernel
theorem dX7_octet_39 : decode cX7_octet 39 = .ok (.iconst 2, 1) := by decide +kernel
theorem dX7_octet_40 : decode cX7_octet 40 = .ok (.ishr, 1) := by decide +kernel
theorem dX7_octet_41 : decode cX7_octet 41 = .ok (.iaload, 1) := by decide +kernel
theorem dX7_octet_42 : decode cX7_octet 42 = .ok (.bipush 24, 2) := by decide +kernel
theorem dX7_octet_44 : decode cX7_octet 44 = .ok (.bipush 8, 2) := by decide +kernel
theorem dX7_octet_46 : decode cX7_octet 46 = .ok (.iload_n 1, 1) := by decide +kernel
theorem dX7_octet_47 : decode cX7_octet 47 = .ok (.iconst 3, 1) := by decide +kernel
theorem dX7_octet_48 : decode cX7_octet 48 = .ok (.iand, 1) := by decide +kernel
theorem dX7_octet_49 : decode cX7_octet 49 = .ok (.imul, 1) := by decide +kernel
theorem dX7_octet_50 : decode cX7_octet 50 = .ok (.isub, 1) := by decide +kernel
theorem dX7_octet_51 : decode cX7_octet 51 = .ok (.iushr, 1) := by decide +kernel
theorem dX7_octet_52 : decode cX7_octet 52 = .ok (.i2b, 1) := by decide +kernel
theorem dX7_octet_53 : decode cX7_octet 53 = .ok (.ireturn, 1) := by decide +kernel
theorem dX7_hash_0 : decode cX7_hash 0 = .ok (.iload_n 1, 1) := by decide +kernel
theorem dX7_hash_1 : decode cX7_hash 1 = .ok (.iconst 1, 1) := by decide +kernel
theorem dX7_hash_2 : decode cX7_hash 2 = .ok (.if_icmp .lt 24, 3) := by decide +kernel
theorem dX7_hash_5 : decode cX7_hash 5 = .ok (.iload_n 1, 1) := by decide +kernel
theorem dX7_hash_6 : decode cX7_hash 6 = .ok (.aload_n 0, 1) := by decide +kernel
theorem dX7_hash_7 : decode cX7_hash 7 = .ok (.getfield 57, 3) := by decide +kernel
theorem dX7_hash_10 : decode cX7_hash 10 = .ok (.getfield 61, 3) := by decide +kernel
theorem dX7_hash_13 : decode cX7_hash 13 = .ok (.if_icmp .gt 13, 3) := by decide +kernel
theorem dX7_hash_16 : decode cX7_hash 16 = .ok (.iload_n 2, 1) := by decide +kernel
theorem dX7_hash_17 : decode cX7_hash 17 = .ok (.ifCond .lt 9, 3) := by decide +kernel
theorem dX7_hash_20 : decode cX7_hash 20 = .ok (.iload_n 2, 1) := by decide +kernel
theorem dX7_hash_21 : decode cX7_hash 21 = .ok (.bipush 8, 2) := by decide +kernel
theorem dX7_hash_23 : decode cX7_hash 23 = .ok (.if_icmp .lt 5, 3) := by decide +kernel
theorem dX7_hash_26 : decode cX7_hash 26 = .ok (.iconst 0, 1) := by decide +kernel
theorem dX7_hash_27 : decode cX7_hash 27 = .ok (.ireturn, 1) := by decide +kernel
theorem dX7_hash_28 : decode cX7_hash 28 = .ok (.aload_n 0, 1) := by decide +kernel
theorem dX7_hash_29 : decode cX7_hash 29 = .ok (.getfield 21, 3) := by decide +kernel
theorem dX7_hash_32 : decode cX7_hash 32 = .ok (.aload_n 0, 1) := by decide +kernel
theorem dX7_hash_33 : decode cX7_hash 33 = .ok (.getfield 57, 3) := by decide +kernel
theorem dX7_hash_36 : decode cX7_hash 36 = .ok (.invokevirtual 90, 3) := by decide +kernel
theorem dX7_hash_39 : decode cX7_hash 39 = .ok (.aload_n 0, 1) := by decide +kernel
theorem dX7_hash_40 : decode cX7_hash 40 = .ok (.getfield 57, 3) := by decide +kernel
theorem dX7_hash_43 : decode cX7_hash 43 = .ok (.getfield 94, 3) := by decide +kernel
theorem dX7_hash_46 : decode cX7_hash 46 = .ok (.getfield 150, 3) := by decide +kernel
theorem dX7_hash_49 : decode cX7_hash 49 = .ok (.iload_n 1, 1) := by decide +kernel
theorem dX7_hash_50 : decode cX7_hash 50 = .ok (.iconst 1, 1) := by decide +kernel
theorem dX7_hash_51 : decode cX7_hash 51 = .ok (.isub, 1) := by decide +kernel
theorem dX7_hash_52 : decode cX7_hash 52 = .ok (.bipush 8, 2) := by decide +kernel
theorem dX7_hash_54 : decode cX7_hash 54 = .ok (.imul, 1) := by decide +kernel
theorem dX7_hash_55 : decode cX7_hash 55 = .ok (.iload_n 2, 1) := by decide +kernel
theorem dX7_hash_56 : decode cX7_hash 56 = .ok (.iadd, 1) := by decide +kernel
theorem dX7_hash_57 : decode cX7_hash 57 = .ok (.iaload, 1) := by decide +kernel
theorem dX7_hash_58 : decode cX7_hash 58 = .ok (.ireturn, 1) := by decide +kernel
theorem dX7_rounds_0 : decode cX7_rounds 0 = .ok (.aload_n 0, 1) := by decide +kernel
theorem dX7_rounds_1 : decode cX7_rounds 1 = .ok (.getfield 21, 3) := by decide +kernel
theorem dX7_rounds_4 : decode cX7_rounds 4 = .ok (.aload_n 0, 1) := by decide +kernel
theorem dX7_rounds_5 : decode cX7_rounds 5 = .ok (.getfield 57, 3) := by decide +kernel
theorem dX7_rounds_8 : decode cX7_rounds 8 = .ok (.invokevirtual 90, 3) := by decide +kernel
theorem dX7_rounds_11 : decode cX7_rounds 11 = .ok (.aload_n 0, 1) := by decide +kernel
theorem dX7_rounds_12 : decode cX7_rounds 12 = .ok (.getfield 57, 3) := by decide +kernel
theorem dX7_rounds_15 : decode cX7_rounds 15 = .ok (.getfield 153, 3) := by decide +kernel
theorem dX7_rounds_18 : decode cX7_rounds 18 = .ok (.ireturn, 1) := by decide +kernel
theorem dX7_first_0 : decode cX7_first 0 = .ok (.aload_n 0, 1) := by decide +kernel
theorem dX7_first_1 : decode cX7_first 1 = .ok (.getfield 21, 3) := by decide +kernel
theorem dX7_first_4 : decode cX7_first 4 = .ok (.aload_n 0, 1) := by decide +kernel
theorem dX7_first_5 : decode cX7_first 5 = .ok (.getfield 57, 3) := by decide +kernel
theorem dX7_first_8 : decode cX7_first 8 = .ok (.invokevirtual 90, 3) := by decide +kernel
theorem dX7_first_11 : decode cX7_first 11 = .ok (.aload_n 0, 1) := by decide +kernel
theorem dX7_first_12 : decode cX7_first 12 = .ok (.getfield 57, 3) := by decide +kernel
theorem dX7_first_15 : decode cX7_first 15 = .ok (.getfield 94, 3) := by decide +kernel
theorem dX7_first_18 : decode cX7_first 18 = .ok (.astore_n 3, 1) := by decide +kernel
theorem dX7_first_19 : decode cX7_first 19 = .ok (.iload_n 1, 1) := by decide +kernel
theorem dX7_first_20 : decode cX7_first 20 = .ok (.ifCond .lt 24, 3) := by decide +kernel
theorem dX7_first_23 : decode cX7_first 23 = .ok (.iload_n 1, 1) := by decide +kernel
theorem dX7_first_24 : decode cX7_first 24 = .ok (.aload_n 3, 1) := by decide +kernel
theorem dX7_first_25 : decode cX7_first 25 = .ok (.getfield 156, 3) := by decide +kernel
theorem dX7_first_28 : decode cX7_first 28 = .ok (.if_icmp .ge 16, 3) := by decide +kernel
theorem dX7_first_31 : decode cX7_first 31 = .ok (.iload_n 2, 1) := by decide +kernel
theorem dX7_first_32 : decode cX7_first 32 = .ok (.ifCond .lt 12, 3) := by decide +kernel
theorem dX7_first_35 : decode cX7_first 35 = .ok (.iload_n 2, 1) := by decide +kernel
theorem dX7_first_36 : decode cX7_first 36 = .ok (.aload_n 3, 1) := by decide +kernel
theorem dX7_first_37 : decode cX7_first 37 = .ok (.iload_n 1, 1) := by decide +kernel
theorem dX7_first_38 : decode cX7_first 38 = .ok (.invokevirtual 159, 3) := by decide +kernel
theorem dX7_first_41 : decode cX7_first 41 = .ok (.if_icmp .lt 5, 3) := by decide +kernel
theorem dX7_first_44 : decode cX7_first 44 = .ok (.iconst (-1), 1) := by decide +kernel
theorem dX7_first_45 : decode cX7_first 45 = .ok (.ireturn, 1) := by decide +kernel
theorem dX7_first_46 : decode cX7_first 46 = .ok (.aload_n 3, 1) := by decide +kernel
theorem dX7_first_47 : decode cX7_first 47 = .ok (.getfield 163, 3) := by decide +kernel
theorem dX7_first_50 : decode cX7_first 50 = .ok (.aload_n 3, 1) := by decide +kernel
theorem dX7_first_51 : decode cX7_first 51 = .ok (.getfield 166, 3) := by decide +kernel
theorem dX7_first_54 : decode cX7_first 54 = .ok (.iload_n 1, 1) := by decide +kernel
theorem dX7_first_55 : decode cX7_first 55 = .ok (.iaload, 1) := by decide +kernel
theorem dX7_first_56 : decode cX7_first 56 = .ok (.iload_n 2, 1) := by decide +kernel
theorem dX7_first_57 : decode cX7_first 57 = .ok (.iadd, 1) := by decide +kernel
theorem dX7_first_58 : decode cX7_first 58 = .ok (.iaload, 1) := by decide +kernel
theorem dX7_first_59 : decode cX7_first 59 = .ok (.iconst 1, 1) := by decide +kernel
theorem dX7_first_60 : decode cX7_first 60 = .ok (.iadd, 1) := by decide +kernel
theorem dX7_first_61 : decode cX7_first 61 = .ok (.ireturn, 1) := by decide +kernel
theorem dX7_keep_0 : decode cX7_keep 0 = .ok (.aload_n 0, 1) := by decide +kernel
theorem dX7_keep_1 : decode cX7_keep 1 = .ok (.getfield 52, 3) := by decide +kernel
theorem dX7_keep_4 : decode cX7_keep 4 = .ok (.bipush 8, 2) := by decide +kernel
theorem dX7_keep_6 : decode cX7_keep 6 = .ok (.if_icmp .lt 6, 3) := by decide +kernel
theorem dX7_keep_9 : decode cX7_keep 9 = .ok (.bipush (-2), 2) := by decide +kernel
theorem dX7_keep_11 : decode cX7_keep 11 = .ok (.ireturn, 1) := by decide +kernel
theorem dX7_keep_12 : decode cX7_keep 12 = .ok (.aload_n 0, 1) := by decide +kernel
theorem dX7_keep_13 : decode cX7_keep 13 = .ok (.getfield 48, 3) := by decide +kernel
theorem dX7_keep_16 : decode cX7_keep 16 = .ok (.aload_n 0, 1) := by decide +kernel
theorem dX7_keep_17 : decode cX7_keep 17 = .ok (.getfield 52, 3) := by decide +kernel
theorem dX7_keep_20 : decode cX7_keep 20 = .ok (.aload_n 0, 1) := by decide +kernel
theorem dX7_keep_21 : decode cX7_keep 21 = .ok (.getfield 57, 3) := by decide +kernel
theorem dX7_keep_24 : decode cX7_keep 24 = .ok (.aastore, 1) := by decide +kernel
theorem dX7_keep_25 : decode cX7_keep 25 = .ok (.aload_n 0, 1) := by decide +kernel
theorem dX7_keep_26 : decode cX7_keep 26 = .ok (.new 46, 3) := by decide +kernel
theorem dX7_keep_29 : decode cX7_keep 29 = .ok (.dup, 1) := by decide +kernel
theorem dX7_keep_30 : decode cX7_keep 30 = .ok (.invokespecial 56, 3) := by decide +kernel
theorem dX7_keep_33 : decode cX7_keep 33 = .ok (.putfield 57, 3) := by decide +kernel
theorem dX7_keep_36 : decode cX7_keep 36 = .ok (.aload_n 0, 1) := by decide +kernel
theorem dX7_keep_37 : decode cX7_keep 37 = .ok (.dup, 1) := by decide +kernel
theorem dX7_keep_38 : decode cX7_keep 38 = .ok (.getfield 52, 3) := by decide +kernel
theorem dX7_keep_41 : decode cX7_keep 41 = .ok (.iconst 1, 1) := by decide +kernel
theorem dX7_keep_42 : decode cX7_keep 42 = .ok (.iadd, 1) := by decide +kernel
theorem dX7_keep_43 : decode cX7_keep 43 = .ok (.putfield 52, 3) := by decide +kernel
theorem dX7_keep_46 : decode cX7_keep 46 = .ok (.aload_n 0, 1) := by decide +kernel
theorem dX7_keep_47 : decode cX7_keep 47 = .ok (.getfield 52, 3) := by decide +kernel
theorem dX7_keep_50 : decode cX7_keep 50 = .ok (.iconst 1, 1) := by decide +kernel
theorem dX7_keep_51 : decode cX7_keep 51 = .ok (.isub, 1) := by decide +kernel
theorem dX7_keep_52 : decode cX7_keep 52 = .ok (.ireturn, 1) := by decide +kernel
theorem dX7_isomorphic_0 : decode cX7_isomorphic 0 = .ok (.aload_n 0, 1) := by decide +kernel
theorem dX7_isomorphic_1 : decode cX7_isomorphic 1 = .ok (.iload_n 1, 1) := by decide +kernel
theorem dX7_isomorphic_2 : decode cX7_isomorphic 2 = .ok (.invokevirtual 169, 3) := by decide +kernel
theorem dX7_isomorphic_5 : decode cX7_isomorphic 5 = .ok (.astore_n 2, 1) := by decide +kernel
theorem dX7_isomorphic_6 : decode cX7_isomorphic 6 = .ok (.aload_n 2, 1) := by decide +kernel
theorem dX7_isomorphic_7 : decode cX7_isomorphic 7 = .ok (.ifnonnull 5, 3) := by decide +kernel
theorem dX7_isomorphic_10 : decode cX7_isomorphic 10 = .ok (.iconst (-1), 1) := by decide +kernel
theorem dX7_isomorphic_11 : decode cX7_isomorphic 11 = .ok (.ireturn, 1) := by decide +kernel
theorem dX7_isomorphic_12 : decode cX7_isomorphic 12 = .ok (.aload_n 0, 1) := by decide +kernel
theorem dX7_isomorphic_13 : decode cX7_isomorphic 13 = .ok (.aload_n 2, 1) := by decide +kernel
theorem dX7_isomorphic_14 : decode cX7_isomorphic 14 = .ok (.invokevirtual 173, 3) := by decide +kernel
theorem dX7_isomorphic_17 : decode cX7_isomorphic 17 = .ok (.ifCond .eq 7, 3) := by decide +kernel
theorem dX7_isomorphic_20 : decode cX7_isomorphic 20 = .ok (.iconst 1, 1) := by decide +kernel
theorem dX7_isomorphic_21 : decode cX7_isomorphic 21 = .ok (.goto 4, 3) := by decide +kernel
theorem dX7_isomorphic_24 : decode cX7_isomorphic 24 = .ok (.iconst 0, 1) := by decide +kernel
theorem dX7_isomorphic_25 : decode cX7_isomorphic 25 = .ok (.ireturn, 1) := by decide +kernel
theorem dX7_ways_0 : decode cX7_ways 0 = .ok (.aload_n 0, 1) := by decide +kernel
theorem dX7_ways_1 : decode cX7_ways 1 = .ok (.iload_n 1, 1) := by decide +kernel
theorem dX7_ways_2 : decode cX7_ways 2 = .ok (.invokevirtual 169, 3) := by decide +kernel
theorem dX7_ways_5 : decode cX7_ways 5 = .ok (.astore_n 2, 1) := by decide +kernel
theorem dX7_ways_6 : decode cX7_ways 6 = .ok (.aload_n 2, 1) := by decide +kernel
theorem dX7_ways_7 : decode cX7_ways 7 = .ok (.ifnonnull 5, 3) := by decide +kernel
theorem dX7_ways_10 : decode cX7_ways 10 = .ok (.iconst (-1), 1) := by decide +kernel
theorem dX7_ways_11 : decode cX7_ways 11 = .ok (.ireturn, 1) := by decide +kernel
theorem dX7_ways_12 : decode cX7_ways 12 = .ok (.aload_n 0, 1) := by decide +kernel
theorem dX7_ways_13 : decode cX7_ways 13 = .ok (.aload_n 2, 1) := by decide +kernel
theorem dX7_ways_14 : decode cX7_ways 14 = .ok (.invokevirtual 173, 3) := by decide +kernel
theorem dX7_ways_17 : decode cX7_ways 17 = .ok (.ifCond .eq 17, 3) := by decide +kernel
theorem dX7_ways_20 : decode cX7_ways 20 = .ok (.aload_n 0, 1) := by decide +kernel
theorem dX7_ways_21 : decode cX7_ways 21 = .ok (.getfield 28, 3) := by decide +kernel
theorem dX7_ways_24 : decode cX7_ways 24 = .ok (.aload_n 0, 1) := by decide +kernel
theorem dX7_ways_25 : decode cX7_ways 25 = .ok (.getfield 57, 3) := by decide +kernel
theorem dX7_ways_28 : decode cX7_ways 28 = .ok (.invokevirtual 123, 3) := by decide +kernel
theorem dX7_ways_31 : decode cX7_ways 31 = .ok (.goto 4, 3) := by decide +kernel
theorem dX7_ways_34 : decode cX7_ways 34 = .ok (.iconst 0, 1) := by decide +kernel
theorem dX7_ways_35 : decode cX7_ways 35 = .ok (.ireturn, 1) := by decide +kernel
theorem dX7_equal_0 : decode cX7_equal 0 = .ok (.aload_n 0, 1) := by decide +kernel
theorem dX7_equal_1 : decode cX7_equal 1 = .ok (.iload_n 1, 1) := by decide +kernel
theorem dX7_equal_2 : decode cX7_equal 2 = .ok (.invokevirtual 169, 3) := by decide +kernel
theorem dX7_equal_5 : decode cX7_equal 5 = .ok (.astore_n 2, 1) := by decide +kernel
theorem dX7_equal_6 : decode cX7_equal 6 = .ok (.aload_n 2, 1) := by decide +kernel
theorem dX7_equal_7 : decode cX7_equal 7 = .ok (.ifnonnull 5, 3) := by decide +kernel
theorem dX7_equal_10 : decode cX7_equal 10 = .ok (.iconst (-1), 1) := by decide +kernel
theorem dX7_equal_11 : decode cX7_equal 11 = .ok (.ireturn, 1) := by decide +kernel
theorem dX7_equal_12 : decode cX7_equal 12 = .ok (.aload_n 0, 1) := by decide +kernel
theorem dX7_equal_13 : decode cX7_equal 13 = .ok (.getfield 57, 3) := by decide +kernel
theorem dX7_equal_16 : decode cX7_equal 16 = .ok (.aload_n 2, 1) := by decide +kernel
theorem dX7_equal_17 : decode cX7_equal 17 = .ok (.invokevirtual 177, 3) := by decide +kernel
theorem dX7_equal_20 : decode cX7_equal 20 = .ok (.ifCond .eq 31, 3) := by decide +kernel
theorem dX7_equal_23 : decode cX7_equal 23 = .ok (.aload_n 0, 1) := by decide +kernel
theorem dX7_equal_24 : decode cX7_equal 24 = .ok (.getfield 57, 3) := by decide +kernel
theorem dX7_equal_27 : decode cX7_equal 27 = .ok (.getfield 130, 3) := by decide +kernel
theorem dX7_equal_30 : decode cX7_equal 30 = .ok (.aload_n 2, 1) := by decide +kernel
theorem dX7_equal_31 : decode cX7_equal 31 = .ok (.getfield 130, 3) := by decide +kernel
theorem dX7_equal_34 : decode cX7_equal 34 = .ok (.aload_n 0, 1) := by decide +kernel
theorem dX7_equal_35 : decode cX7_equal 35 = .ok (.getfield 57, 3) := by decide +kernel
theorem dX7_equal_38 : decode cX7_equal 38 = .ok (.getfield 80, 3) := by decide +kernel
theorem dX7_equal_41 : decode cX7_equal 41 = .ok (.invokestatic 180, 3) := by decide +kernel
theorem dX7_equal_44 : decode cX7_equal 44 = .ok (.ifCond .eq 7, 3) := by decide +kernel
theorem dX7_equal_47 : decode cX7_equal 47 = .ok (.iconst 1, 1) := by decide +kernel
theorem dX7_equal_48 : decode cX7_equal 48 = .ok (.goto 4, 3) := by decide +kernel
theorem dX7_equal_51 : decode cX7_equal 51 = .ok (.iconst 0, 1) := by decide +kernel
theorem dX7_equal_52 : decode cX7_equal 52 = .ok (.ireturn, 1) := by decide +kernel
theorem dX7_triples_0 : decode cX7_triples 0 = .ok (.aload_n 0, 1) := by decide +kernel
theorem dX7_triples_1 : decode cX7_triples 1 = .ok (.getfield 57, 3) := by decide +kernel
theorem dX7_triples_4 : decode cX7_triples 4 = .ok (.getfield 80, 3) := by decide +kernel
theorem dX7_triples_7 : decode cX7_triples 7 = .ok (.ireturn, 1) := by decide +kernel
theorem dX7_blanks_0 : decode cX7_blanks 0 = .ok (.aload_n 0, 1) := by decide +kernel
theorem dX7_blanks_1 : decode cX7_blanks 1 = .ok (.getfield 57, 3) := by decide +kernel
theorem dX7_blanks_4 : decode cX7_blanks 4 = .ok (.getfield 61, 3) := by decide +kernel
theorem dX7_blanks_7 : decode cX7_blanks 7 = .ok (.ireturn, 1) := by decide +kernel
theorem dX7_keptAt_0 : decode cX7_keptAt 0 = .ok (.iload_n 1, 1) := by decide +kernel
theorem dX7_keptAt_1 : decode cX7_keptAt 1 = .ok (.ifCond .lt 11, 3) := by decide +kernel
theorem dX7_keptAt_4 : decode cX7_keptAt 4 = .ok (.iload_n 1, 1) := by decide +kernel
theorem dX7_keptAt_5 : decode cX7_keptAt 5 = .ok (.aload_n 0, 1) := by decide +kernel
theorem dX7_keptAt_6 : decode cX7_keptAt 6 = .ok (.getfield 52, 3) := by decide +kernel
theorem dX7_keptAt_9 : decode cX7_keptAt 9 = .ok (.if_icmp .lt 5, 3) := by decide +kernel
theorem dX7_keptAt_12 : decode cX7_keptAt 12 = .ok (.aconst_null, 1) := by decide +kernel
theorem dX7_keptAt_13 : decode cX7_keptAt 13 = .ok (.areturn, 1) := by decide +kernel
theorem dX7_keptAt_14 : decode cX7_keptAt 14 = .ok (.aload_n 0, 1) := by decide +kernel
theorem dX7_keptAt_15 : decode cX7_keptAt 15 = .ok (.getfield 48, 3) := by decide +kernel
theorem dX7_keptAt_18 : decode cX7_keptAt 18 = .ok (.iload_n 1, 1) := by decide +kernel
theorem dX7_keptAt_19 : decode cX7_keptAt 19 = .ok (.aaload, 1) := by decide +kernel
theorem dX7_keptAt_20 : decode cX7_keptAt 20 = .ok (.areturn, 1) := by decide +kernel
theorem dX7_becomes_0 : decode cX7_becomes 0 = .ok (.aload_n 0, 1) := by decide +kernel
theorem dX7_becomes_1 : decode cX7_becomes 1 = .ok (.getfield 57, 3) := by decide +kernel
theorem dX7_becomes_4 : decode cX7_becomes 4 = .ok (.aload_n 1, 1) := by decide +kernel
theorem dX7_becomes_5 : decode cX7_becomes 5 = .ok (.invokevirtual 177, 3) := by decide +kernel
theorem dX7_becomes_8 : decode cX7_becomes 8 = .ok (.ifCond .ne 5, 3) := by decide +kernel
theorem dX7_becomes_11 : decode cX7_becomes 11 = .ok (.iconst 0, 1) := by decide +kernel
theorem dX7_becomes_12 : decode cX7_becomes 12 = .ok (.ireturn, 1) := by decide +kernel
theorem dX7_becomes_13 : decode cX7_becomes 13 = .ok (.aload_n 0, 1) := by decide +kernel
theorem dX7_becomes_14 : decode cX7_becomes 14 = .ok (.getfield 21, 3) := by decide +kernel
theorem dX7_becomes_17 : decode cX7_becomes 17 = .ok (.aload_n 0, 1) := by decide +kernel
theorem dX7_becomes_18 : decode cX7_becomes 18 = .ok (.getfield 57, 3) := by decide +kernel
theorem dX7_becomes_21 : decode cX7_becomes 21 = .ok (.invokevirtual 90, 3) := by decide +kernel
theorem dX7_becomes_24 : decode cX7_becomes 24 = .ok (.aload_n 0, 1) := by decide +kernel
theorem dX7_becomes_25 : decode cX7_becomes 25 = .ok (.getfield 21, 3) := by decide +kernel
theorem dX7_becomes_28 : decode cX7_becomes 28 = .ok (.aload_n 1, 1) := by decide +kernel
theorem dX7_becomes_29 : decode cX7_becomes 29 = .ok (.invokevirtual 90, 3) := by decide +kernel
theorem dX7_becomes_32 : decode cX7_becomes 32 = .ok (.aload_n 0, 1) := by decide +kernel
theorem dX7_becomes_33 : decode cX7_becomes 33 = .ok (.getfield 57, 3) := by decide +kernel
theorem dX7_becomes_36 : decode cX7_becomes 36 = .ok (.getfield 94, 3) := by decide +kernel
theorem dX7_becomes_39 : decode cX7_becomes 39 = .ok (.aload_n 1, 1) := by decide +kernel
theorem dX7_becomes_40 : decode cX7_becomes 40 = .ok (.getfield 94, 3) := by decide +kernel
theorem dX7_becomes_43 : decode cX7_becomes 43 = .ok (.aload_n 0, 1) := by decide +kernel
theorem dX7_becomes_44 : decode cX7_becomes 44 = .ok (.getfield 57, 3) := by decide +kernel
theorem dX7_becomes_47 : decode cX7_becomes 47 = .ok (.getfield 61, 3) := by decide +kernel
theorem dX7_becomes_50 : decode cX7_becomes 50 = .ok (.invokevirtual 184, 3) := by decide +kernel
theorem dX7_becomes_53 : decode cX7_becomes 53 = .ok (.ifCond .ne 5, 3) := by decide +kernel
theorem dX7_becomes_56 : decode cX7_becomes 56 = .ok (.iconst 0, 1) := by decide +kernel
theorem dX7_becomes_57 : decode cX7_becomes 57 = .ok (.ireturn, 1) := by decide +kernel
theorem dX7_becomes_58 : decode cX7_becomes 58 = .ok (.aload_n 0, 1) := by decide +kernel
theorem dX7_becomes_59 : decode cX7_becomes 59 = .ok (.getfield 28, 3) := by decide +kernel
theorem dX7_becomes_62 : decode cX7_becomes 62 = .ok (.aload_n 0, 1) := by decide +kernel
theorem dX7_becomes_63 : decode cX7_becomes 63 = .ok (.getfield 57, 3) := by decide +kernel
theorem dX7_becomes_66 : decode cX7_becomes 66 = .ok (.aload_n 1, 1) := by decide +kernel
theorem dX7_becomes_67 : decode cX7_becomes 67 = .ok (.invokevirtual 111, 3) := by decide +kernel
theorem dX7_becomes_70 : decode cX7_becomes 70 = .ok (.ireturn, 1) := by decide +kernel
theorem dX7_keyOf_0 : decode cX7_keyOf 0 = .ok (.iload_n 0, 1) := by decide +kernel
theorem dX7_keyOf_1 : decode cX7_keyOf 1 = .ok (.bipush 8, 2) := by decide +kernel
theorem dX7_keyOf_3 : decode cX7_keyOf 3 = .ok (.iadd, 1) := by decide +kernel
theorem dX7_keyOf_4 : decode cX7_keyOf 4 = .ok (.istore_n 3, 1) := by decide +kernel
theorem dX7_keyOf_5 : decode cX7_keyOf 5 = .ok (.iload_n 1, 1) := by decide +kernel
theorem dX7_keyOf_6 : decode cX7_keyOf 6 = .ok (.bipush 8, 2) := by decide +kernel
theorem dX7_keyOf_8 : decode cX7_keyOf 8 = .ok (.iadd, 1) := by decide +kernel
theorem dX7_keyOf_9 : decode cX7_keyOf 9 = .ok (.istore 4, 2) := by decide +kernel
theorem dX7_keyOf_11 : decode cX7_keyOf 11 = .ok (.iload_n 2, 1) := by decide +kernel
theorem dX7_keyOf_12 : decode cX7_keyOf 12 = .ok (.bipush 8, 2) := by decide +kernel
theorem dX7_keyOf_14 : decode cX7_keyOf 14 = .ok (.iadd, 1) := by decide +kernel
theorem dX7_keyOf_15 : decode cX7_keyOf 15 = .ok (.istore 5, 2) := by decide +kernel
theorem dX7_keyOf_17 : decode cX7_keyOf 17 = .ok (.iload_n 3, 1) := by decide +kernel
theorem dX7_keyOf_18 : decode cX7_keyOf 18 = .ok (.bipush 20, 2) := by decide +kernel
theorem dX7_keyOf_20 : decode cX7_keyOf 20 = .ok (.ishl, 1) := by decide +kernel
theorem dX7_keyOf_21 : decode cX7_keyOf 21 = .ok (.iload 4, 2) := by decide +kernel
theorem dX7_keyOf_23 : decode cX7_keyOf 23 = .ok (.bipush 10, 2) := by decide +kernel
theorem dX7_keyOf_25 : decode cX7_keyOf 25 = .ok (.ishl, 1) := by decide +kernel
theorem dX7_keyOf_26 : decode cX7_keyOf 26 = .ok (.ior, 1) := by decide +kernel
theorem dX7_keyOf_27 : decode cX7_keyOf 27 = .ok (.iload 5, 2) := by decide +kernel
theorem dX7_keyOf_29 : decode cX7_keyOf 29 = .ok (.ior, 1) := by decide +kernel
theorem dX7_keyOf_30 : decode cX7_keyOf 30 = .ok (.ireturn, 1) := by decide +kernel
theorem dX7_partAt_0 : decode cX7_partAt 0 = .ok (.iload_n 0, 1) := by decide +kernel
theorem dX7_partAt_1 : decode cX7_partAt 1 = .ok (.bipush 10, 2) := by decide +kernel
theorem dX7_partAt_3 : decode cX7_partAt 3 = .ok (.iconst 2, 1) := by decide +kernel
theorem dX7_partAt_4 : decode cX7_partAt 4 = .ok (.iload_n 1, 1) := by decide +kernel
theorem dX7_partAt_5 : decode cX7_partAt 5 = .ok (.isub, 1) := by decide +kernel
theorem dX7_partAt_6 : decode cX7_partAt 6 = .ok (.imul, 1) := by decide +kernel
theorem dX7_partAt_7 : decode cX7_partAt 7 = .ok (.ishr, 1) := by decide +kernel
theorem dX7_partAt_8 : decode cX7_partAt 8 = .ok (.sipush 1023, 3) := by decide +kernel
theorem dX7_partAt_11 : decode cX7_partAt 11 = .ok (.iand, 1) := by decide +kernel
theorem dX7_partAt_12 : decode cX7_partAt 12 = .ok (.ireturn, 1) := by decide +kernel
theorem dX7_pointAt_0 : decode cX7_pointAt 0 = .ok (.iload_n 0, 1) := by decide +kernel
theorem dX7_pointAt_1 : decode cX7_pointAt 1 = .ok (.iload_n 1, 1) := by decide +kernel
theorem dX7_pointAt_2 : decode cX7_pointAt 2 = .ok (.invokestatic 188, 3) := by decide +kernel
theorem dX7_pointAt_5 : decode cX7_pointAt 5 = .ok (.bipush 8, 2) := by decide +kernel
theorem dX7_pointAt_7 : decode cX7_pointAt 7 = .ok (.isub, 1) := by decide +kernel
theorem dX7_pointAt_8 : decode cX7_pointAt 8 = .ok (.ireturn, 1) := by decide +kernel
theorem dX7_renumbered_0 : decode cX7_renumbered 0 = .ok (.iconst 0, 1) := by decide +kernel
theorem dX7_renumbered_1 : decode cX7_renumbered 1 = .ok (.istore_n 2, 1) := by decide +kernel
theorem dX7_renumbered_2 : decode cX7_renumbered 2 = .ok (.bipush 20, 2) := by decide +kernel
theorem dX7_renumbered_4 : decode cX7_renumbered 4 = .ok (.istore_n 3, 1) := by decide +kernel
theorem dX7_renumbered_5 : decode cX7_renumbered 5 = .ok (.iload_n 3, 1) := by decide +kernel
theorem dX7_renumbered_6 : decode cX7_renumbered 6 = .ok (.ifCond .lt 45, 3) := by decide +kernel
theorem dX7_renumbered_9 : decode cX7_renumbered 9 = .ok (.iload_n 0, 1) := by decide +kernel
theorem dX7_renumbered_10 : decode cX7_renumbered 10 = .ok (.iload_n 3, 1) := by decide +kernel
theorem dX7_renumbered_11 : decode cX7_renumbered 11 = .ok (.ishr, 1) := by decide +kernel
theorem dX7_renumbered_12 : decode cX7_renumbered 12 = .ok (.sipush 1023, 3) := by decide +kernel
theorem dX7_renumbered_15 : decode cX7_renumbered 15 = .ok (.iand, 1) := by decide +kernel
theorem dX7_renumbered_16 : decode cX7_renumbered 16 = .ok (.istore 4, 2) := by decide +kernel
theorem dX7_renumbered_18 : decode cX7_renumbered 18 = .ok (.iload 4, 2) := by decide +kernel
theorem dX7_renumbered_20 : decode cX7_renumbered 20 = .ok (.bipush 8, 2) := by decide +kernel
theorem dX7_renumbered_22 : decode cX7_renumbered 22 = .ok (.if_icmp .ge 15, 3) := by decide +kernel
theorem dX7_renumbered_25 : decode cX7_renumbered 25 = .ok (.bipush 8, 2) := by decide +kernel
theorem dX7_renumbered_27 : decode cX7_renumbered 27 = .ok (.aload_n 1, 1) := by decide +kernel
theorem dX7_renumbered_28 : decode cX7_renumbered 28 = .ok (.bipush 7, 2) := by decide +kernel
theorem dX7_renumbered_30 : decode cX7_renumbered 30 = .ok (.iload 4, 2) := by decide +kernel
theorem dX7_renumbered_32 : decode cX7_renumbered 32 = .ok (.isub, 1) := by decide +kernel
theorem dX7_renumbered_33 : decode cX7_renumbered 33 = .ok (.iaload, 1) := by decide +kernel
theorem dX7_renumbered_34 : decode cX7_renumbered 34 = .ok (.isub, 1) := by decide +kernel
theorem dX7_renumbered_35 : decode cX7_renumbered 35 = .ok (.istore 4, 2) := by decide +kernel
theorem dX7_renumbered_37 : decode cX7_renumbered 37 = .ok (.iload_n 2, 1) := by decide +kernel
theorem dX7_renumbered_38 : decode cX7_renumbered 38 = .ok (.bipush 10, 2) := by decide +kernel
theorem dX7_renumbered_40 : decode cX7_renumbered 40 = .ok (.ishl, 1) := by decide +kernel
theorem dX7_renumbered_41 : decode cX7_renumbered 41 = .ok (.iload 4, 2) := by decide +kernel
theorem dX7_renumbered_43 : decode cX7_renumbered 43 = .ok (.ior, 1) := by decide +kernel
theorem dX7_renumbered_44 : decode cX7_renumbered 44 = .ok (.istore_n 2, 1) := by decide +kernel
theorem dX7_renumbered_45 : decode cX7_renumbered 45 = .ok (.iinc 3 (-10), 3) := by decide +kernel
theorem dX7_renumbered_48 : decode cX7_renumbered 48 = .ok (.goto (-43), 3) := by decide +kernel
theorem dX7_renumbered_51 : decode cX7_renumbered 51 = .ok (.iload_n 2, 1) := by decide +kernel
theorem dX7_renumbered_52 : decode cX7_renumbered 52 = .ok (.ireturn, 1) := by decide +kernel
theorem dX7_sort_0 : decode cX7_sort 0 = .ok (.iconst 1, 1) := by decide +kernel
theorem dX7_sort_1 : decode cX7_sort 1 = .ok (.istore_n 2, 1) := by decide +kernel
theorem dX7_sort_2 : decode cX7_sort 2 = .ok (.iload_n 2, 1) := by decide +kernel
theorem dX7_sort_3 : decode cX7_sort 3 = .ok (.iload_n 1, 1) := by decide +kernel
theorem dX7_sort_4 : decode cX7_sort 4 = .ok (.if_icmp .ge 52, 3) := by decide +kernel
theorem dX7_sort_7 : decode cX7_sort 7 = .ok (.aload_n 0, 1) := by decide +kernel
theorem dX7_sort_8 : decode cX7_sort 8 = .ok (.iload_n 2, 1) := by decide +kernel
theorem dX7_sort_9 : decode cX7_sort 9 = .ok (.iaload, 1) := by decide +kernel
theorem dX7_sort_10 : decode cX7_sort 10 = .ok (.istore_n 3, 1) := by decide +kernel
theorem dX7_sort_11 : decode cX7_sort 11 = .ok (.iload_n 2, 1) := by decide +kernel
theorem dX7_sort_12 : decode cX7_sort 12 = .ok (.istore 4, 2) := by decide +kernel
theorem dX7_sort_14 : decode cX7_sort 14 = .ok (.iload 4, 2) := by decide +kernel
theorem dX7_sort_16 : decode cX7_sort 16 = .ok (.ifCond .le 29, 3) := by decide +kernel
theorem dX7_sort_19 : decode cX7_sort 19 = .ok (.aload_n 0, 1) := by decide +kernel
theorem dX7_sort_20 : decode cX7_sort 20 = .ok (.iload 4, 2) := by decide +kernel
theorem dX7_sort_22 : decode cX7_sort 22 = .ok (.iconst 1, 1) := by decide +kernel
theorem dX7_sort_23 : decode cX7_sort 23 = .ok (.isub, 1) := by decide +kernel
theorem dX7_sort_24 : decode cX7_sort 24 = .ok (.iaload, 1) := by decide +kernel
theorem dX7_sort_25 : decode cX7_sort 25 = .ok (.iload_n 3, 1) := by decide +kernel
theorem dX7_sort_26 : decode cX7_sort 26 = .ok (.if_icmp .le 19, 3) := by decide +kernel
theorem dX7_sort_29 : decode cX7_sort 29 = .ok (.aload_n 0, 1) := by decide +kernel
theorem dX7_sort_30 : decode cX7_sort 30 = .ok (.iload 4, 2) := by decide +kernel
theorem dX7_sort_32 : decode cX7_sort 32 = .ok (.aload_n 0, 1) := by decide +kernel
theorem dX7_sort_33 : decode cX7_sort 33 = .ok (.iload 4, 2) := by decide +kernel
theorem dX7_sort_35 : decode cX7_sort 35 = .ok (.iconst 1, 1) := by decide +kernel
theorem dX7_sort_36 : decode cX7_sort 36 = .ok (.isub, 1) := by decide +kernel
theorem dX7_sort_37 : decode cX7_sort 37 = .ok (.iaload, 1) := by decide +kernel
theorem dX7_sort_38 : decode cX7_sort 38 = .ok (.iastore, 1) := by decide +kernel
theorem dX7_sort_39 : decode cX7_sort 39 = .ok (.iinc 4 (-1), 3) := by decide +kernel
theorem dX7_sort_42 : decode cX7_sort 42 = .ok (.goto (-28), 3) := by decide +kernel
theorem dX7_sort_45 : decode cX7_sort 45 = .ok (.aload_n 0, 1) := by decide +kernel
theorem dX7_sort_46 : decode cX7_sort 46 = .ok (.iload 4, 2) := by decide +kernel
theorem dX7_sort_48 : decode cX7_sort 48 = .ok (.iload_n 3, 1) := by decide +kernel
theorem dX7_sort_49 : decode cX7_sort 49 = .ok (.iastore, 1) := by decide +kernel
theorem dX7_sort_50 : decode cX7_sort 50 = .ok (.iinc 2 1, 3) := by decide +kernel
theorem dX7_sort_53 : decode cX7_sort 53 = .ok (.goto (-51), 3) := by decide +kernel
theorem dX7_sort_56 : decode cX7_sort 56 = .ok (.return_, 1) := by decide +kernel
theorem dX7_placeFor_0 : decode cX7_placeFor 0 = .ok (.iconst 0, 1) := by decide +kernel
theorem dX7_placeFor_1 : decode cX7_placeFor 1 = .ok (.istore_n 3, 1) := by decide +kernel
theorem dX7_placeFor_2 : decode cX7_placeFor 2 = .ok (.iload_n 3, 1) := by decide +kernel
theorem dX7_placeFor_3 : decode cX7_placeFor 3 = .ok (.iload_n 2, 1) := by decide +kernel
theorem dX7_placeFor_4 : decode cX7_placeFor 4 = .ok (.if_icmp .ge 18, 3) := by decide +kernel
theorem dX7_placeFor_7 : decode cX7_placeFor 7 = .ok (.aload_n 1, 1) := by decide +kernel
theorem dX7_placeFor_8 : decode cX7_placeFor 8 = .ok (.iload_n 3, 1) := by decide +kernel
theorem dX7_placeFor_9 : decode cX7_placeFor 9 = .ok (.iaload, 1) := by decide +kernel
theorem dX7_placeFor_10 : decode cX7_placeFor 10 = .ok (.iload_n 0, 1) := by decide +kernel
theorem dX7_placeFor_11 : decode cX7_placeFor 11 = .ok (.if_icmp .lt 5, 3) := by decide +kernel
theorem dX7_placeFor_14 : decode cX7_placeFor 14 = .ok (.iload_n 3, 1) := by decide +kernel
theorem dX7_placeFor_15 : decode cX7_placeFor 15 = .ok (.ireturn, 1) := by decide +kernel
theorem dX7_placeFor_16 : decode cX7_placeFor 16 = .ok (.iinc 3 1, 3) := by decide +kernel
theorem dX7_placeFor_19 : decode cX7_placeFor 19 = .ok (.goto (-17), 3) := by decide +kernel
theorem dX7_placeFor_22 : decode cX7_placeFor 22 = .ok (.iload_n 2, 1) := by decide +kernel
theorem dX7_placeFor_23 : decode cX7_placeFor 23 = .ok (.ireturn, 1) := by decide +kernel
theorem dX7_isIn_0 : decode cX7_isIn 0 = .ok (.iconst 0, 1) := by decide +kernel
theorem dX7_isIn_1 : decode cX7_isIn 1 = .ok (.istore_n 3, 1) := by decide +kernel
theorem dX7_isIn_2 : decode cX7_isIn 2 = .ok (.iload_n 3, 1) := by decide +kernel
theorem dX7_isIn_3 : decode cX7_isIn 3 = .ok (.iload_n 2, 1) := by decide +kernel
theorem dX7_isIn_4 : decode cX7_isIn 4 = .ok (.if_icmp .ge 29, 3) := by decide +kernel
theorem dX7_isIn_7 : decode cX7_isIn 7 = .ok (.aload_n 1, 1) := by decide +kernel
theorem dX7_isIn_8 : decode cX7_isIn 8 = .ok (.iload_n 3, 1) := by decide +kernel
theorem dX7_isIn_9 : decode cX7_isIn 9 = .ok (.iaload, 1) := by decide +kernel
theorem dX7_isIn_10 : decode cX7_isIn 10 = .ok (.iload_n 0, 1) := by decide +kernel
theorem dX7_isIn_11 : decode cX7_isIn 11 = .ok (.if_icmp .lt 16, 3) := by decide +kernel
theorem dX7_isIn_14 : decode cX7_isIn 14 = .ok (.aload_n 1, 1) := by decide +kernel
theorem dX7_isIn_15 : decode cX7_isIn 15 = .ok (.iload_n 3, 1) := by decide +kernel
theorem dX7_isIn_16 : decode cX7_isIn 16 = .ok (.iaload, 1) := by decide +kernel
theorem dX7_isIn_17 : decode cX7_isIn 17 = .ok (.iload_n 0, 1) := by decide +kernel
theorem dX7_isIn_18 : decode cX7_isIn 18 = .ok (.if_icmp .ne 7, 3) := by decide +kernel
theorem dX7_isIn_21 : decode cX7_isIn 21 = .ok (.iconst 1, 1) := by decide +kernel
theorem dX7_isIn_22 : decode cX7_isIn 22 = .ok (.goto 4, 3) := by decide +kernel
theorem dX7_isIn_25 : decode cX7_isIn 25 = .ok (.iconst 0, 1) := by decide +kernel
theorem dX7_isIn_26 : decode cX7_isIn 26 = .ok (.ireturn, 1) := by decide +kernel
theorem dX7_isIn_27 : decode cX7_isIn 27 = .ok (.iinc 3 1, 3) := by decide +kernel
theorem dX7_isIn_30 : decode cX7_isIn 30 = .ok (.goto (-28), 3) := by decide +kernel
theorem dX7_isIn_33 : decode cX7_isIn 33 = .ok (.iconst 0, 1) := by decide +kernel
theorem dX7_isIn_34 : decode cX7_isIn 34 = .ok (.ireturn, 1) := by decide +kernel
theorem dX7_sameRows_0 : decode cX7_sameRows 0 = .ok (.iconst 0, 1) := by decide +kernel
theorem dX7_sameRows_1 : decode cX7_sameRows 1 = .ok (.istore_n 3, 1) := by decide +kernel
theorem dX7_sameRows_2 : decode cX7_sameRows 2 = .ok (.iload_n 3, 1) := by decide +kernel
theorem dX7_sameRows_3 : decode cX7_sameRows 3 = .ok (.iload_n 2, 1) := by decide +kernel
theorem dX7_sameRows_4 : decode cX7_sameRows 4 = .ok (.if_icmp .ge 20, 3) := by decide +kernel
theorem dX7_sameRows_7 : decode cX7_sameRows 7 = .ok (.aload_n 0, 1) := by decide +kernel
theorem dX7_sameRows_8 : decode cX7_sameRows 8 = .ok (.iload_n 3, 1) := by decide +kernel
theorem dX7_sameRows_9 : decode cX7_sameRows 9 = .ok (.iaload, 1) := by decide +kernel
theorem dX7_sameRows_10 : decode cX7_sameRows 10 = .ok (.aload_n 1, 1) := by decide +kernel
theorem dX7_sameRows_11 : decode cX7_sameRows 11 = .ok (.iload_n 3, 1) := by decide +kernel
theorem dX7_sameRows_12 : decode cX7_sameRows 12 = .ok (.iaload, 1) := by decide +kernel
theorem dX7_sameRows_13 : decode cX7_sameRows 13 = .ok (.if_icmp .eq 5, 3) := by decide +kernel
theorem dX7_sameRows_16 : decode cX7_sameRows 16 = .ok (.iconst 0, 1) := by decide +kernel
theorem dX7_sameRows_17 : decode cX7_sameRows 17 = .ok (.ireturn, 1) := by decide +kernel
theorem dX7_sameRows_18 : decode cX7_sameRows 18 = .ok (.iinc 3 1, 3) := by decide +kernel
theorem dX7_sameRows_21 : decode cX7_sameRows 21 = .ok (.goto (-19), 3) := by decide +kernel
theorem dX7_sameRows_24 : decode cX7_sameRows 24 = .ok (.iconst 1, 1) := by decide +kernel
theorem dX7_sameRows_25 : decode cX7_sameRows 25 = .ok (.ireturn, 1) := by decide +kernel
theorem dL_octet_0 : decode cL_octet 0 = .ok (.aload_n 2, 1) := by decide +kernel
theorem dL_octet_1 : decode cL_octet 1 = .ok (.iconst 0, 1) := by decide +kernel
theorem dL_octet_2 : decode cL_octet 2 = .ok (.aload_n 0, 1) := by decide +kernel
theorem dL_octet_3 : decode cL_octet 3 = .ok (.iload_n 1, 1) := by decide +kernel
theorem dL_octet_4 : decode cL_octet 4 = .ok (.invokevirtual 7, 3) := by decide +kernel
theorem dL_octet_7 : decode cL_octet 7 = .ok (.i2l, 1) := by decide +kernel
theorem dL_octet_8 : decode cL_octet 8 = .ok (.lastore, 1) := by decide +kernel
theorem dL_octet_9 : decode cL_octet 9 = .ok (.goto 6, 3) := by decide +kernel
theorem dL_octet_12 : decode cL_octet 12 = .ok (.astore_n 3, 1) := by decide +kernel
theorem dL_octet_13 : decode cL_octet 13 = .ok (.iconst 1, 1) := by decide +kernel
theorem dL_octet_14 : decode cL_octet 14 = .ok (.ireturn, 1) := by decide +kernel
theorem dL_octet_15 : decode cL_octet 15 = .ok (.iconst 0, 1) := by decide +kernel
theorem dL_octet_16 : decode cL_octet 16 = .ok (.ireturn, 1) := by decide +kernel
theorem dL_law_0 : decode cL_law 0 = .ok (.new 8, 3) := by decide +kernel
theorem dL_law_3 : decode cL_law 3 = .ok (.dup, 1) := by decide +kernel
theorem dL_law_4 : decode cL_law 4 = .ok (.invokespecial 15, 3) := by decide +kernel
theorem dL_law_7 : decode cL_law 7 = .ok (.astore_n 1, 1) := by decide +kernel
theorem dL_law_8 : decode cL_law 8 = .ok (.new 16, 3) := by decide +kernel
theorem dL_law_11 : decode cL_law 11 = .ok (.dup, 1) := by decide +kernel
theorem dL_law_12 : decode cL_law 12 = .ok (.invokespecial 18, 3) := by decide +kernel
theorem dL_law_15 : decode cL_law 15 = .ok (.astore_n 2, 1) := by decide +kernel
theorem dL_law_16 : decode cL_law 16 = .ok (.iconst 1, 1) := by decide +kernel
theorem dL_law_17 : decode cL_law 17 = .ok (.newarray .long, 2) := by decide +kernel
theorem dL_law_19 : decode cL_law 19 = .ok (.astore_n 3, 1) := by decide +kernel
theorem dL_law_20 : decode cL_law 20 = .ok (.iconst 0, 1) := by decide +kernel
theorem dL_law_21 : decode cL_law 21 = .ok (.istore 4, 2) := by decide +kernel
theorem dL_law_23 : decode cL_law 23 = .ok (.iload 4, 2) := by decide +kernel
theorem dL_law_25 : decode cL_law 25 = .ok (.aload_n 0, 1) := by decide +kernel
theorem dL_law_26 : decode cL_law 26 = .ok (.arraylength, 1) := by decide +kernel
theorem dL_law_27 : decode cL_law 27 = .ok (.iconst 4, 1) := by decide +kernel
theorem dL_law_28 : decode cL_law 28 = .ok (.isub, 1) := by decide +kernel
theorem dL_law_29 : decode cL_law 29 = .ok (.if_icmp .gt 580, 3) := by decide +kernel
theorem dL_law_32 : decode cL_law 32 = .ok (.aload_n 0, 1) := by decide +kernel
theorem dL_law_33 : decode cL_law 33 = .ok (.iload 4, 2) := by decide +kernel
theorem dL_law_35 : decode cL_law 35 = .ok (.iaload, 1) := by decide +kernel
theorem dL_law_36 : decode cL_law 36 = .ok (.bipush 15, 2) := by decide +kernel
theorem dL_law_38 : decode cL_law 38 = .ok (.iand, 1) := by decide +kernel
theorem dL_law_39 : decode cL_law 39 = .ok (.tableswitch 564 0 15 #[77, 90, 139, 188, 245, 270, 307, 363, 400, 413, 450, 463, 488, 513, 538, 551], 77) := by decide +kernel
theorem dL_law_116 : decode cL_law 116 = .ok (.aload_n 1, 1) := by decide +kernel
theorem dL_law_117 : decode cL_law 117 = .ok (.invokevirtual 19, 3) := by decide +kernel
theorem dL_law_120 : decode cL_law 120 = .ok (.aload_n 2, 1) := by decide +kernel
theorem dL_law_121 : decode cL_law 121 = .ok (.invokevirtual 23, 3) := by decide +kernel
theorem dL_law_124 : decode cL_law 124 = .ok (.if_icmp .eq 479, 3) := by decide +kernel
theorem dL_law_127 : decode cL_law 127 = .ok (.iconst 0, 1) := by decide +kernel
theorem dL_law_128 : decode cL_law 128 = .ok (.ireturn, 1) := by decide +kernel
theorem dL_law_129 : decode cL_law 129 = .ok (.aload_n 1, 1) := by decide +kernel
theorem dL_law_130 : decode cL_law 130 = .ok (.aload_n 0, 1) := by decide +kernel
theorem dL_law_131 : decode cL_law 131 = .ok (.iload 4, 2) := by decide +kernel
theorem dL_law_133 : decode cL_law 133 = .ok (.iconst 1, 1) := by decide +kernel
theorem dL_law_134 : decode cL_law 134 = .ok (.iadd, 1) := by decide +kernel
theorem dL_law_135 : decode cL_law 135 = .ok (.iaload, 1) := by decide +kernel
theorem dL_law_136 : decode cL_law 136 = .ok (.aload_n 0, 1) := by decide +kernel
theorem dL_law_137 : decode cL_law 137 = .ok (.iload 4, 2) := by decide +kernel
theorem dL_law_139 : decode cL_law 139 = .ok (.iconst 2, 1) := by decide +kernel
theorem dL_law_140 : decode cL_law 140 = .ok (.iadd, 1) := by decide +kernel
theorem dL_law_141 : decode cL_law 141 = .ok (.iaload, 1) := by decide +kernel
theorem dL_law_142 : decode cL_law 142 = .ok (.aload_n 0, 1) := by decide +kernel
theorem dL_law_143 : decode cL_law 143 = .ok (.iload 4, 2) := by decide +kernel
theorem dL_law_145 : decode cL_law 145 = .ok (.iconst 3, 1) := by decide +kernel
theorem dL_law_146 : decode cL_law 146 = .ok (.iadd, 1) := by decide +kernel
theorem dL_law_147 : decode cL_law 147 = .ok (.iaload, 1) := by decide +kernel
theorem dL_law_148 : decode cL_law 148 = .ok (.invokevirtual 24, 3) := by decide +kernel
theorem dL_law_151 : decode cL_law 151 = .ok (.aload_n 2, 1) := by decide +kernel
theorem dL_law_152 : decode cL_law 152 = .ok (.aload_n 0, 1) := by decide +kernel
theorem dL_law_153 : decode cL_law 153 = .ok (.iload 4, 2) := by decide +kernel
theorem dL_law_155 : decode cL_law 155 = .ok (.iconst 1, 1) := by decide +kernel
theorem dL_law_156 : decode cL_law 156 = .ok (.iadd, 1) := by decide +kernel
theorem dL_law_157 : decode cL_law 157 = .ok (.iaload, 1) := by decide +kernel
theorem dL_law_158 : decode cL_law 158 = .ok (.aload_n 0, 1) := by decide +kernel
theorem dL_law_159 : decode cL_law 159 = .ok (.iload 4, 2) := by decide +kernel
theorem dL_law_161 : decode cL_law 161 = .ok (.iconst 2, 1) := by decide +kernel
theorem dL_law_162 : decode cL_law 162 = .ok (.iadd, 1) := by decide +kernel
theorem dL_law_163 : decode cL_law 163 = .ok (.iaload, 1) := by decide +kernel
theorem dL_law_164 : decode cL_law 164 = .ok (.aload_n 0, 1) := by decide +kernel
theorem dL_law_165 : decode cL_law 165 = .ok (.iload 4, 2) := by decide +kernel
theorem dL_law_167 : decode cL_law 167 = .ok (.iconst 3, 1) := by decide +kernel
theorem dL_law_168 : decode cL_law 168 = .ok (.iadd, 1) := by decide +kernel
theorem dL_law_169 : decode cL_law 169 = .ok (.iaload, 1) := by decide +kernel
theorem dL_law_170 : decode cL_law 170 = .ok (.invokevirtual 28, 3) := by decide +kernel
theorem dL_law_173 : decode cL_law 173 = .ok (.if_icmp .eq 430, 3) := by decide +kernel
theorem dL_law_176 : decode cL_law 176 = .ok (.iconst 0, 1) := by decide +kernel
theorem dL_law_177 : decode cL_law 177 = .ok (.ireturn, 1) := by decide +kernel
theorem dL_law_178 : decode cL_law 178 = .ok (.aload_n 1, 1) := by decide +kernel
theorem dL_law_179 : decode cL_law 179 = .ok (.aload_n 0, 1) := by decide +kernel
theorem dL_law_180 : decode cL_law 180 = .ok (.iload 4, 2) := by decide +kernel
theorem dL_law_182 : decode cL_law 182 = .ok (.iconst 1, 1) := by decide +kernel
theorem dL_law_183 : decode cL_law 183 = .ok (.iadd, 1) := by decide +kernel
theorem dL_law_184 : decode cL_law 184 = .ok (.iaload, 1) := by decide +kernel
theorem dL_law_185 : decode cL_law 185 = .ok (.aload_n 0, 1) := by decide +kernel
theorem dL_law_186 : decode cL_law 186 = .ok (.iload 4, 2) := by decide +kernel
theorem dL_law_188 : decode cL_law 188 = .ok (.iconst 2, 1) := by decide +kernel
theorem dL_law_189 : decode cL_law 189 = .ok (.iadd, 1) := by decide +kernel
theorem dL_law_190 : decode cL_law 190 = .ok (.iaload, 1) := by decide +kernel
theorem dL_law_191 : decode cL_law 191 = .ok (.aload_n 0, 1) := by decide +kernel
theorem dL_law_192 : decode cL_law 192 = .ok (.iload 4, 2) := by decide +kernel
theorem dL_law_194 : decode cL_law 194 = .ok (.iconst 3, 1) := by decide +kernel
theorem dL_law_195 : decode cL_law 195 = .ok (.iadd, 1) := by decide +kernel
theorem dL_law_196 : decode cL_law 196 = .ok (.iaload, 1) := by decide +kernel
theorem dL_law_197 : decode cL_law 197 = .ok (.invokevirtual 29, 3) := by decide +kernel
theorem dL_law_200 : decode cL_law 200 = .ok (.aload_n 2, 1) := by decide +kernel
theorem dL_law_201 : decode cL_law 201 = .ok (.aload_n 0, 1) := by decide +kernel
theorem dL_law_202 : decode cL_law 202 = .ok (.iload 4, 2) := by decide +kernel
theorem dL_law_204 : decode cL_law 204 = .ok (.iconst 1, 1) := by decide +kernel
theorem dL_law_205 : decode cL_law 205 = .ok (.iadd, 1) := by decide +kernel
theorem dL_law_206 : decode cL_law 206 = .ok (.iaload, 1) := by decide +kernel
theorem dL_law_207 : decode cL_law 207 = .ok (.aload_n 0, 1) := by decide +kernel
theorem dL_law_208 : decode cL_law 208 = .ok (.iload 4, 2) := by decide +kernel
theorem dL_law_210 : decode cL_law 210 = .ok (.iconst 2, 1) := by decide +kernel
theorem dL_law_211 : decode cL_law 211 = .ok (.iadd, 1) := by decide +kernel
theorem dL_law_212 : decode cL_law 212 = .ok (.iaload, 1) := by decide +kernel
theorem dL_law_213 : decode cL_law 213 = .ok (.aload_n 0, 1) := by decide +kernel
theorem dL_law_214 : decode cL_law 214 = .ok (.iload 4, 2) := by decide +kernel
theorem dL_law_216 : decode cL_law 216 = .ok (.iconst 3, 1) := by decide +kernel
theorem dL_law_217 : decode cL_law 217 = .ok (.iadd, 1) := by decide +kernel
theorem dL_law_218 : decode cL_law 218 = .ok (.iaload, 1) := by decide +kernel
theorem dL_law_219 : decode cL_law 219 = .ok (.invokevirtual 32, 3) := by decide +kernel
theorem dL_law_222 : decode cL_law 222 = .ok (.if_icmp .eq 381, 3) := by decide +kernel
theorem dL_law_225 : decode cL_law 225 = .ok (.iconst 0, 1) := by decide +kernel
theorem dL_law_226 : decode cL_law 226 = .ok (.ireturn, 1) := by decide +kernel
theorem dL_law_227 : decode cL_law 227 = .ok (.aload_n 1, 1) := by decide +kernel
theorem dL_law_228 : decode cL_law 228 = .ok (.aload_n 0, 1) := by decide +kernel
theorem dL_law_229 : decode cL_law 229 = .ok (.iload 4, 2) := by decide +kernel
theorem dL_law_231 : decode cL_law 231 = .ok (.iconst 1, 1) := by decide +kernel
theorem dL_law_232 : decode cL_law 232 = .ok (.iadd, 1) := by decide +kernel
theorem dL_law_233 : decode cL_law 233 = .ok (.iaload, 1) := by decide +kernel
theorem dL_law_234 : decode cL_law 234 = .ok (.i2l, 1) := by decide +kernel
theorem dL_law_235 : decode cL_law 235 = .ok (.bipush 32, 2) := by decide +kernel
theorem dL_law_237 : decode cL_law 237 = .ok (.lshl, 1) := by decide +kernel
theorem dL_law_238 : decode cL_law 238 = .ok (.aload_n 0, 1) := by decide +kernel
theorem dL_law_239 : decode cL_law 239 = .ok (.iload 4, 2) := by decide +kernel
theorem dL_law_241 : decode cL_law 241 = .ok (.iconst 2, 1) := by decide +kernel
theorem dL_law_242 : decode cL_law 242 = .ok (.iadd, 1) := by decide +kernel
theorem dL_law_243 : decode cL_law 243 = .ok (.iaload, 1) := by decide +kernel
theorem dL_law_244 : decode cL_law 244 = .ok (.i2l, 1) := by decide +kernel
theorem dL_law_245 : decode cL_law 245 = .ok (.ldc2_w 33, 3) := by decide +kernel
theorem dL_law_248 : decode cL_law 248 = .ok (.land, 1) := by decide +kernel
theorem dL_law_249 : decode cL_law 249 = .ok (.lor, 1) := by decide +kernel
theorem dL_law_250 : decode cL_law 250 = .ok (.invokevirtual 35, 3) := by decide +kernel
theorem dL_law_253 : decode cL_law 253 = .ok (.aload_n 2, 1) := by decide +kernel
theorem dL_law_254 : decode cL_law 254 = .ok (.aload_n 0, 1) := by decide +kernel
theorem dL_law_255 : decode cL_law 255 = .ok (.iload 4, 2) := by decide +kernel
theorem dL_law_257 : decode cL_law 257 = .ok (.iconst 1, 1) := by decide +kernel
theorem dL_law_258 : decode cL_law 258 = .ok (.iadd, 1) := by decide +kernel
theorem dL_law_259 : decode cL_law 259 = .ok (.iaload, 1) := by decide +kernel
theorem dL_law_260 : decode cL_law 260 = .ok (.i2l, 1) := by decide +kernel
theorem dL_law_261 : decode cL_law 261 = .ok (.bipush 32, 2) := by decide +kernel
theorem dL_law_263 : decode cL_law 263 = .ok (.lshl, 1) := by decide +kernel
theorem dL_law_264 : decode cL_law 264 = .ok (.aload_n 0, 1) := by decide +kernel
theorem dL_law_265 : decode cL_law 265 = .ok (.iload 4, 2) := by decide +kernel
theorem dL_law_267 : decode cL_law 267 = .ok (.iconst 2, 1) := by decide +kernel
theorem dL_law_268 : decode cL_law 268 = .ok (.iadd, 1) := by decide +kernel
theorem dL_law_269 : decode cL_law 269 = .ok (.iaload, 1) := by decide +kernel
theorem dL_law_270 : decode cL_law 270 = .ok (.i2l, 1) := by decide +kernel
theorem dL_law_271 : decode cL_law 271 = .ok (.ldc2_w 33, 3) := by decide +kernel
theorem dL_law_274 : decode cL_law 274 = .ok (.land, 1) := by decide +kernel
theorem dL_law_275 : decode cL_law 275 = .ok (.lor, 1) := by decide +kernel
theorem dL_law_276 : decode cL_law 276 = .ok (.invokevirtual 39, 3) := by decide +kernel
theorem dL_law_279 : decode cL_law 279 = .ok (.if_icmp .eq 324, 3) := by decide +kernel
theorem dL_law_282 : decode cL_law 282 = .ok (.iconst 0, 1) := by decide +kernel
theorem dL_law_283 : decode cL_law 283 = .ok (.ireturn, 1) := by decide +kernel
theorem dL_law_284 : decode cL_law 284 = .ok (.aload_n 1, 1) := by decide +kernel
theorem dL_law_285 : decode cL_law 285 = .ok (.aload_n 0, 1) := by decide +kernel
theorem dL_law_286 : decode cL_law 286 = .ok (.iload 4, 2) := by decide +kernel
theorem dL_law_288 : decode cL_law 288 = .ok (.iconst 1, 1) := by decide +kernel
theorem dL_law_289 : decode cL_law 289 = .ok (.iadd, 1) := by decide +kernel
theorem dL_law_290 : decode cL_law 290 = .ok (.iaload, 1) := by decide +kernel
theorem dL_law_291 : decode cL_law 291 = .ok (.invokevirtual 40, 3) := by decide +kernel
theorem dL_law_294 : decode cL_law 294 = .ok (.aload_n 2, 1) := by decide +kernel
theorem dL_law_295 : decode cL_law 295 = .ok (.aload_n 0, 1) := by decide +kernel
theorem dL_law_296 : decode cL_law 296 = .ok (.iload 4, 2) := by decide +kernel
theorem dL_law_298 : decode cL_law 298 = .ok (.iconst 1, 1) := by decide +kernel
theorem dL_law_299 : decode cL_law 299 = .ok (.iadd, 1) := by decide +kernel
theorem dL_law_300 : decode cL_law 300 = .ok (.iaload, 1) := by decide +kernel
theorem dL_law_301 : decode cL_law 301 = .ok (.invokevirtual 44, 3) := by decide +kernel
theorem dL_law_304 : decode cL_law 304 = .ok (.if_icmp .eq 299, 3) := by decide +kernel
theorem dL_law_307 : decode cL_law 307 = .ok (.iconst 0, 1) := by decide +kernel
theorem dL_law_308 : decode cL_law 308 = .ok (.ireturn, 1) := by decide +kernel
theorem dL_law_309 : decode cL_law 309 = .ok (.aload_n 1, 1) := by decide +kernel
theorem dL_law_310 : decode cL_law 310 = .ok (.aload_n 0, 1) := by decide +kernel
theorem dL_law_311 : decode cL_law 311 = .ok (.iload 4, 2) := by decide +kernel
theorem dL_law_313 : decode cL_law 313 = .ok (.iconst 1, 1) := by decide +kernel
theorem dL_law_314 : decode cL_law 314 = .ok (.iadd, 1) := by decide +kernel
theorem dL_law_315 : decode cL_law 315 = .ok (.iaload, 1) := by decide +kernel
theorem dL_law_316 : decode cL_law 316 = .ok (.aload_n 0, 1) := by decide +kernel
theorem dL_law_317 : decode cL_law 317 = .ok (.iload 4, 2) := by decide +kernel
theorem dL_law_319 : decode cL_law 319 = .ok (.iconst 2, 1) := by decide +kernel
theorem dL_law_320 : decode cL_law 320 = .ok (.iadd, 1) := by decide +kernel
theorem dL_law_321 : decode cL_law 321 = .ok (.iaload, 1) := by decide +kernel
theorem dL_law_322 : decode cL_law 322 = .ok (.invokevirtual 45, 3) := by decide +kernel
theorem dL_law_325 : decode cL_law 325 = .ok (.aload_n 2, 1) := by decide +kernel
theorem dL_law_326 : decode cL_law 326 = .ok (.aload_n 0, 1) := by decide +kernel
theorem dL_law_327 : decode cL_law 327 = .ok (.iload 4, 2) := by decide +kernel
theorem dL_law_329 : decode cL_law 329 = .ok (.iconst 1, 1) := by decide +kernel
theorem dL_law_330 : decode cL_law 330 = .ok (.iadd, 1) := by decide +kernel
theorem dL_law_331 : decode cL_law 331 = .ok (.iaload, 1) := by decide +kernel
theorem dL_law_332 : decode cL_law 332 = .ok (.aload_n 0, 1) := by decide +kernel
theorem dL_law_333 : decode cL_law 333 = .ok (.iload 4, 2) := by decide +kernel
theorem dL_law_335 : decode cL_law 335 = .ok (.iconst 2, 1) := by decide +kernel
theorem dL_law_336 : decode cL_law 336 = .ok (.iadd, 1) := by decide +kernel
theorem dL_law_337 : decode cL_law 337 = .ok (.iaload, 1) := by decide +kernel
theorem dL_law_338 : decode cL_law 338 = .ok (.invokevirtual 49, 3) := by decide +kernel
theorem dL_law_341 : decode cL_law 341 = .ok (.if_icmp .eq 262, 3) := by decide +kernel
theorem dL_law_344 : decode cL_law 344 = .ok (.iconst 0, 1) := by decide +kernel
theorem dL_law_345 : decode cL_law 345 = .ok (.ireturn, 1) := by decide +kernel
theorem dL_law_346 : decode cL_law 346 = .ok (.aload_n 1, 1) := by decide +kernel
theorem dL_law_347 : decode cL_law 347 = .ok (.aload_n 0, 1) := by decide +kernel
theorem dL_law_348 : decode cL_law 348 = .ok (.iload 4, 2) := by decide +kernel
theorem dL_law_350 : decode cL_law 350 = .ok (.iconst 1, 1) := by decide +kernel
theorem dL_law_351 : decode cL_law 351 = .ok (.iadd, 1) := by decide +kernel
theorem dL_law_352 : decode cL_law 352 = .ok (.iaload, 1) := by decide +kernel
theorem dL_law_353 : decode cL_law 353 = .ok (.aload_n 3, 1) := by decide +kernel
theorem dL_law_354 : decode cL_law 354 = .ok (.invokestatic 50, 3) := by decide +kernel
theorem dL_law_357 : decode cL_law 357 = .ok (.istore 5, 2) := by decide +kernel
theorem dL_law_359 : decode cL_law 359 = .ok (.aload_n 2, 1) := by decide +kernel
theorem dL_law_360 : decode cL_law 360 = .ok (.aload_n 0, 1) := by decide +kernel
theorem dL_law_361 : decode cL_law 361 = .ok (.iload 4, 2) := by decide +kernel
theorem dL_law_363 : decode cL_law 363 = .ok (.iconst 1, 1) := by decide +kernel
theorem dL_law_364 : decode cL_law 364 = .ok (.iadd, 1) := by decide +kernel
theorem dL_law_365 : decode cL_law 365 = .ok (.iaload, 1) := by decide +kernel
theorem dL_law_366 : decode cL_law 366 = .ok (.invokevirtual 55, 3) := by decide +kernel
theorem dL_law_369 : decode cL_law 369 = .ok (.istore 6, 2) := by decide +kernel
theorem dL_law_371 : decode cL_law 371 = .ok (.aload_n 2, 1) := by decide +kernel
theorem dL_law_372 : decode cL_law 372 = .ok (.invokevirtual 56, 3) := by decide +kernel
theorem dL_law_375 : decode cL_law 375 = .ok (.iload 5, 2) := by decide +kernel
theorem dL_law_377 : decode cL_law 377 = .ok (.if_icmp .eq 5, 3) := by decide +kernel
theorem dL_law_380 : decode cL_law 380 = .ok (.iconst 0, 1) := by decide +kernel
theorem dL_law_381 : decode cL_law 381 = .ok (.ireturn, 1) := by decide +kernel
theorem dL_law_382 : decode cL_law 382 = .ok (.iload 5, 2) := by decide +kernel
theorem dL_law_384 : decode cL_law 384 = .ok (.ifCond .ne 15, 3) := by decide +kernel
theorem dL_law_387 : decode cL_law 387 = .ok (.aload_n 3, 1) := by decide +kernel
theorem dL_law_388 : decode cL_law 388 = .ok (.iconst 0, 1) := by decide +kernel
theorem dL_law_389 : decode cL_law 389 = .ok (.laload, 1) := by decide +kernel
theorem dL_law_390 : decode cL_law 390 = .ok (.iload 6, 2) := by decide +kernel
theorem dL_law_392 : decode cL_law 392 = .ok (.i2l, 1) := by decide +kernel
theorem dL_law_393 : decode cL_law 393 = .ok (.lcmp, 1) := by decide +kernel
theorem dL_law_394 : decode cL_law 394 = .ok (.ifCond .eq 5, 3) := by decide +kernel
theorem dL_law_397 : decode cL_law 397 = .ok (.iconst 0, 1) := by decide +kernel
theorem dL_law_398 : decode cL_law 398 = .ok (.ireturn, 1) := by decide +kernel
theorem dL_law_399 : decode cL_law 399 = .ok (.goto 204, 3) := by decide +kernel
theorem dL_law_402 : decode cL_law 402 = .ok (.aload_n 1, 1) := by decide +kernel
theorem dL_law_403 : decode cL_law 403 = .ok (.aload_n 0, 1) := by decide +kernel
theorem dL_law_404 : decode cL_law 404 = .ok (.iload 4, 2) := by decide +kernel
theorem dL_law_406 : decode cL_law 406 = .ok (.iconst 1, 1) := by decide +kernel
theorem dL_law_407 : decode cL_law 407 = .ok (.iadd, 1) := by decide +kernel
theorem dL_law_408 : decode cL_law 408 = .ok (.iaload, 1) := by decide +kernel
theorem dL_law_409 : decode cL_law 409 = .ok (.aload_n 0, 1) := by decide +kernel
theorem dL_law_410 : decode cL_law 410 = .ok (.iload 4, 2) := by decide +kernel
theorem dL_law_412 : decode cL_law 412 = .ok (.iconst 2, 1) := by decide +kernel
theorem dL_law_413 : decode cL_law 413 = .ok (.iadd, 1) := by decide +kernel
theorem dL_law_414 : decode cL_law 414 = .ok (.iaload, 1) := by decide +kernel
theorem dL_law_415 : decode cL_law 415 = .ok (.invokevirtual 59, 3) := by decide +kernel
theorem dL_law_418 : decode cL_law 418 = .ok (.aload_n 2, 1) := by decide +kernel
theorem dL_law_419 : decode cL_law 419 = .ok (.aload_n 0, 1) := by decide +kernel
theorem dL_law_420 : decode cL_law 420 = .ok (.iload 4, 2) := by decide +kernel
theorem dL_law_422 : decode cL_law 422 = .ok (.iconst 1, 1) := by decide +kernel
theorem dL_law_423 : decode cL_law 423 = .ok (.iadd, 1) := by decide +kernel
theorem dL_law_424 : decode cL_law 424 = .ok (.iaload, 1) := by decide +kernel
theorem dL_law_425 : decode cL_law 425 = .ok (.aload_n 0, 1) := by decide +kernel
theorem dL_law_426 : decode cL_law 426 = .ok (.iload 4, 2) := by decide +kernel
theorem dL_law_428 : decode cL_law 428 = .ok (.iconst 2, 1) := by decide +kernel
theorem dL_law_429 : decode cL_law 429 = .ok (.iadd, 1) := by decide +kernel
theorem dL_law_430 : decode cL_law 430 = .ok (.iaload, 1) := by decide +kernel
theorem dL_law_431 : decode cL_law 431 = .ok (.invokevirtual 62, 3) := by decide +kernel
theorem dL_law_434 : decode cL_law 434 = .ok (.if_icmp .eq 169, 3) := by decide +kernel
theorem dL_law_437 : decode cL_law 437 = .ok (.iconst 0, 1) := by decide +kernel
theorem dL_law_438 : decode cL_law 438 = .ok (.ireturn, 1) := by decide +kernel
theorem dL_law_439 : decode cL_law 439 = .ok (.aload_n 1, 1) := by decide +kernel
theorem dL_law_440 : decode cL_law 440 = .ok (.invokevirtual 63, 3) := by decide +kernel
theorem dL_law_443 : decode cL_law 443 = .ok (.aload_n 2, 1) := by decide +kernel
theorem dL_law_444 : decode cL_law 444 = .ok (.invokevirtual 66, 3) := by decide +kernel
theorem dL_law_447 : decode cL_law 447 = .ok (.if_icmp .eq 156, 3) := by decide +kernel
theorem dL_law_450 : decode cL_law 450 = .ok (.iconst 0, 1) := by decide +kernel
theorem dL_law_451 : decode cL_law 451 = .ok (.ireturn, 1) := by decide +kernel
theorem dL_law_452 : decode cL_law 452 = .ok (.aload_n 1, 1) := by decide +kernel
theorem dL_law_453 : decode cL_law 453 = .ok (.aload_n 0, 1) := by decide +kernel
theorem dL_law_454 : decode cL_law 454 = .ok (.iload 4, 2) := by decide +kernel
theorem dL_law_456 : decode cL_law 456 = .ok (.iconst 1, 1) := by decide +kernel
theorem dL_law_457 : decode cL_law 457 = .ok (.iadd, 1) := by decide +kernel
theorem dL_law_458 : decode cL_law 458 = .ok (.iaload, 1) := by decide +kernel
theorem dL_law_459 : decode cL_law 459 = .ok (.aload_n 0, 1) := by decide +kernel
theorem dL_law_460 : decode cL_law 460 = .ok (.iload 4, 2) := by decide +kernel
theorem dL_law_462 : decode cL_law 462 = .ok (.iconst 2, 1) := by decide +kernel
theorem dL_law_463 : decode cL_law 463 = .ok (.iadd, 1) := by decide +kernel
theorem dL_law_464 : decode cL_law 464 = .ok (.iaload, 1) := by decide +kernel
theorem dL_law_465 : decode cL_law 465 = .ok (.invokevirtual 67, 3) := by decide +kernel
theorem dL_law_468 : decode cL_law 468 = .ok (.aload_n 2, 1) := by decide +kernel
theorem dL_law_469 : decode cL_law 469 = .ok (.aload_n 0, 1) := by decide +kernel
theorem dL_law_470 : decode cL_law 470 = .ok (.iload 4, 2) := by decide +kernel
theorem dL_law_472 : decode cL_law 472 = .ok (.iconst 1, 1) := by decide +kernel
theorem dL_law_473 : decode cL_law 473 = .ok (.iadd, 1) := by decide +kernel
theorem dL_law_474 : decode cL_law 474 = .ok (.iaload, 1) := by decide +kernel
theorem dL_law_475 : decode cL_law 475 = .ok (.aload_n 0, 1) := by decide +kernel
theorem dL_law_476 : decode cL_law 476 = .ok (.iload 4, 2) := by decide +kernel
theorem dL_law_478 : decode cL_law 478 = .ok (.iconst 2, 1) := by decide +kernel
theorem dL_law_479 : decode cL_law 479 = .ok (.iadd, 1) := by decide +kernel
theorem dL_law_480 : decode cL_law 480 = .ok (.iaload, 1) := by decide +kernel
theorem dL_law_481 : decode cL_law 481 = .ok (.invokevirtual 70, 3) := by decide +kernel
theorem dL_law_484 : decode cL_law 484 = .ok (.if_icmp .eq 119, 3) := by decide +kernel
theorem dL_law_487 : decode cL_law 487 = .ok (.iconst 0, 1) := by decide +kernel
theorem dL_law_488 : decode cL_law 488 = .ok (.ireturn, 1) := by decide +kernel
theorem dL_law_489 : decode cL_law 489 = .ok (.aload_n 1, 1) := by decide +kernel
theorem dL_law_490 : decode cL_law 490 = .ok (.invokevirtual 71, 3) := by decide +kernel
theorem dL_law_493 : decode cL_law 493 = .ok (.aload_n 2, 1) := by decide +kernel
theorem dL_law_494 : decode cL_law 494 = .ok (.invokevirtual 74, 3) := by decide +kernel
theorem dL_law_497 : decode cL_law 497 = .ok (.if_icmp .eq 106, 3) := by decide +kernel
theorem dL_law_500 : decode cL_law 500 = .ok (.iconst 0, 1) := by decide +kernel
theorem dL_law_501 : decode cL_law 501 = .ok (.ireturn, 1) := by decide +kernel
theorem dL_law_502 : decode cL_law 502 = .ok (.aload_n 1, 1) := by decide +kernel
theorem dL_law_503 : decode cL_law 503 = .ok (.aload_n 0, 1) := by decide +kernel
theorem dL_law_504 : decode cL_law 504 = .ok (.iload 4, 2) := by decide +kernel
theorem dL_law_506 : decode cL_law 506 = .ok (.iconst 1, 1) := by decide +kernel
theorem dL_law_507 : decode cL_law 507 = .ok (.iadd, 1) := by decide +kernel
theorem dL_law_508 : decode cL_law 508 = .ok (.iaload, 1) := by decide +kernel
theorem dL_law_509 : decode cL_law 509 = .ok (.invokevirtual 75, 3) := by decide +kernel
theorem dL_law_512 : decode cL_law 512 = .ok (.aload_n 2, 1) := by decide +kernel
theorem dL_law_513 : decode cL_law 513 = .ok (.aload_n 0, 1) := by decide +kernel
theorem dL_law_514 : decode cL_law 514 = .ok (.iload 4, 2) := by decide +kernel
theorem dL_law_516 : decode cL_law 516 = .ok (.iconst 1, 1) := by decide +kernel
theorem dL_law_517 : decode cL_law 517 = .ok (.iadd, 1) := by decide +kernel
theorem dL_law_518 : decode cL_law 518 = .ok (.iaload, 1) := by decide +kernel
theorem dL_law_519 : decode cL_law 519 = .ok (.invokevirtual 78, 3) := by decide +kernel
theorem dL_law_522 : decode cL_law 522 = .ok (.if_icmp .eq 81, 3) := by decide +kernel
theorem dL_law_525 : decode cL_law 525 = .ok (.iconst 0, 1) := by decide +kernel
theorem dL_law_526 : decode cL_law 526 = .ok (.ireturn, 1) := by decide +kernel
theorem dL_law_527 : decode cL_law 527 = .ok (.aload_n 1, 1) := by decide +kernel
theorem dL_law_528 : decode cL_law 528 = .ok (.aload_n 0, 1) := by decide +kernel
theorem dL_law_529 : decode cL_law 529 = .ok (.iload 4, 2) := by decide +kernel
theorem dL_law_531 : decode cL_law 531 = .ok (.iconst 1, 1) := by decide +kernel
theorem dL_law_532 : decode cL_law 532 = .ok (.iadd, 1) := by decide +kernel
theorem dL_law_533 : decode cL_law 533 = .ok (.iaload, 1) := by decide +kernel
theorem dL_law_534 : decode cL_law 534 = .ok (.invokevirtual 79, 3) := by decide +kernel
theorem dL_law_537 : decode cL_law 537 = .ok (.aload_n 2, 1) := by decide +kernel
theorem dL_law_538 : decode cL_law 538 = .ok (.aload_n 0, 1) := by decide +kernel
theorem dL_law_539 : decode cL_law 539 = .ok (.iload 4, 2) := by decide +kernel
theorem dL_law_541 : decode cL_law 541 = .ok (.iconst 1, 1) := by decide +kernel
theorem dL_law_542 : decode cL_law 542 = .ok (.iadd, 1) := by decide +kernel
theorem dL_law_543 : decode cL_law 543 = .ok (.iaload, 1) := by decide +kernel
theorem dL_law_544 : decode cL_law 544 = .ok (.invokevirtual 82, 3) := by decide +kernel
theorem dL_law_547 : decode cL_law 547 = .ok (.if_icmp .eq 56, 3) := by decide +kernel
theorem dL_law_550 : decode cL_law 550 = .ok (.iconst 0, 1) := by decide +kernel
theorem dL_law_551 : decode cL_law 551 = .ok (.ireturn, 1) := by decide +kernel
theorem dL_law_552 : decode cL_law 552 = .ok (.aload_n 1, 1) := by decide +kernel
theorem dL_law_553 : decode cL_law 553 = .ok (.aload_n 0, 1) := by decide +kernel
theorem dL_law_554 : decode cL_law 554 = .ok (.iload 4, 2) := by decide +kernel
theorem dL_law_556 : decode cL_law 556 = .ok (.iconst 1, 1) := by decide +kernel
theorem dL_law_557 : decode cL_law 557 = .ok (.iadd, 1) := by decide +kernel
theorem dL_law_558 : decode cL_law 558 = .ok (.iaload, 1) := by decide +kernel
theorem dL_law_559 : decode cL_law 559 = .ok (.invokevirtual 83, 3) := by decide +kernel
theorem dL_law_562 : decode cL_law 562 = .ok (.aload_n 2, 1) := by decide +kernel
theorem dL_law_563 : decode cL_law 563 = .ok (.aload_n 0, 1) := by decide +kernel
theorem dL_law_564 : decode cL_law 564 = .ok (.iload 4, 2) := by decide +kernel
theorem dL_law_566 : decode cL_law 566 = .ok (.iconst 1, 1) := by decide +kernel
theorem dL_law_567 : decode cL_law 567 = .ok (.iadd, 1) := by decide +kernel
theorem dL_law_568 : decode cL_law 568 = .ok (.iaload, 1) := by decide +kernel
theorem dL_law_569 : decode cL_law 569 = .ok (.invokevirtual 86, 3) := by decide +kernel
theorem dL_law_572 : decode cL_law 572 = .ok (.if_icmp .eq 31, 3) := by decide +kernel
theorem dL_law_575 : decode cL_law 575 = .ok (.iconst 0, 1) := by decide +kernel
theorem dL_law_576 : decode cL_law 576 = .ok (.ireturn, 1) := by decide +kernel
theorem dL_law_577 : decode cL_law 577 = .ok (.aload_n 1, 1) := by decide +kernel
theorem dL_law_578 : decode cL_law 578 = .ok (.invokevirtual 87, 3) := by decide +kernel
theorem dL_law_581 : decode cL_law 581 = .ok (.aload_n 2, 1) := by decide +kernel
theorem dL_law_582 : decode cL_law 582 = .ok (.invokevirtual 90, 3) := by decide +kernel
theorem dL_law_585 : decode cL_law 585 = .ok (.if_icmp .eq 18, 3) := by decide +kernel
theorem dL_law_588 : decode cL_law 588 = .ok (.iconst 0, 1) := by decide +kernel
theorem dL_law_589 : decode cL_law 589 = .ok (.ireturn, 1) := by decide +kernel
theorem dL_law_590 : decode cL_law 590 = .ok (.aload_n 1, 1) := by decide +kernel
theorem dL_law_591 : decode cL_law 591 = .ok (.invokevirtual 91, 3) := by decide +kernel
theorem dL_law_594 : decode cL_law 594 = .ok (.aload_n 2, 1) := by decide +kernel
theorem dL_law_595 : decode cL_law 595 = .ok (.invokevirtual 94, 3) := by decide +kernel
theorem dL_law_598 : decode cL_law 598 = .ok (.if_icmp .eq 5, 3) := by decide +kernel
theorem dL_law_601 : decode cL_law 601 = .ok (.iconst 0, 1) := by decide +kernel
theorem dL_law_602 : decode cL_law 602 = .ok (.ireturn, 1) := by decide +kernel
theorem dL_law_603 : decode cL_law 603 = .ok (.iinc 4 4, 3) := by decide +kernel
theorem dL_law_606 : decode cL_law 606 = .ok (.goto (-583), 3) := by decide +kernel
theorem dL_law_609 : decode cL_law 609 = .ok (.iconst 1, 1) := by decide +kernel
theorem dL_law_610 : decode cL_law 610 = .ok (.ireturn, 1) := by decide +kernel
end
section
theorem dX8_thrown_0 : decode cX8_thrown 0 = .ok (.aload_n 0, 1) := by decide +kernel
theorem dX8_thrown_1 : decode cX8_thrown 1 = .ok (.getfield 1, 3) := by decide +kernel
theorem dX8_thrown_4 : decode cX8_thrown 4 = .ok (.ireturn, 1) := by decide +kernel
theorem dX8_init_0 : decode cX8_init 0 = .ok (.aload_n 0, 1) := by decide +kernel
theorem dX8_init_1 : decode cX8_init 1 = .ok (.invokespecial 7, 3) := by decide +kernel
theorem dX8_init_4 : decode cX8_init 4 = .ok (.aload_n 0, 1) := by decide +kernel
theorem dX8_init_5 : decode cX8_init 5 = .ok (.bipush 64, 2) := by decide +kernel
theorem dX8_init_7 : decode cX8_init 7 = .ok (.newarray .long, 2) := by decide +kernel
theorem dX8_init_9 : decode cX8_init 9 = .ok (.dup, 1) := by decide +kernel
theorem dX8_init_10 : decode cX8_init 10 = .ok (.iconst 0, 1) := by decide +kernel
theorem dX8_init_11 : decode cX8_init 11 = .ok (.ldc2_w 13, 3) := by decide +kernel
theorem dX8_init_14 : decode cX8_init 14 = .ok (.lastore, 1) := by decide +kernel
theorem dX8_init_15 : decode cX8_init 15 = .ok (.dup, 1) := by decide +kernel
theorem dX8_init_16 : decode cX8_init 16 = .ok (.iconst 1, 1) := by decide +kernel
theorem dX8_init_17 : decode cX8_init 17 = .ok (.ldc2_w 15, 3) := by decide +kernel
theorem dX8_init_20 : decode cX8_init 20 = .ok (.lastore, 1) := by decide +kernel
theorem dX8_init_21 : decode cX8_init 21 = .ok (.dup, 1) := by decide +kernel
theorem dX8_init_22 : decode cX8_init 22 = .ok (.iconst 2, 1) := by decide +kernel
theorem dX8_init_23 : decode cX8_init 23 = .ok (.ldc2_w 17, 3) := by decide +kernel
theorem dX8_init_26 : decode cX8_init 26 = .ok (.lastore, 1) := by decide +kernel
theorem dX8_init_27 : decode cX8_init 27 = .ok (.dup, 1) := by decide +kernel
theorem dX8_init_28 : decode cX8_init 28 = .ok (.iconst 3, 1) := by decide +kernel
theorem dX8_init_29 : decode cX8_init 29 = .ok (.ldc2_w 19, 3) := by decide +kernel
theorem dX8_init_32 : decode cX8_init 32 = .ok (.lastore, 1) := by decide +kernel
theorem dX8_init_33 : decode cX8_init 33 = .ok (.dup, 1) := by decide +kernel
theorem dX8_init_34 : decode cX8_init 34 = .ok (.iconst 4, 1) := by decide +kernel
theorem dX8_init_35 : decode cX8_init 35 = .ok (.ldc2_w 21, 3) := by decide +kernel
theorem dX8_init_38 : decode cX8_init 38 = .ok (.lastore, 1) := by decide +kernel
theorem dX8_init_39 : decode cX8_init 39 = .ok (.dup, 1) := by decide +kernel
theorem dX8_init_40 : decode cX8_init 40 = .ok (.iconst 5, 1) := by decide +kernel
theorem dX8_init_41 : decode cX8_init 41 = .ok (.ldc2_w 23, 3) := by decide +kernel
theorem dX8_init_44 : decode cX8_init 44 = .ok (.lastore, 1) := by decide +kernel
theorem dX8_init_45 : decode cX8_init 45 = .ok (.dup, 1) := by decide +kernel
theorem dX8_init_46 : decode cX8_init 46 = .ok (.bipush 6, 2) := by decide +kernel
theorem dX8_init_48 : decode cX8_init 48 = .ok (.ldc2_w 25, 3) := by decide +kernel
theorem dX8_init_51 : decode cX8_init 51 = .ok (.lastore, 1) := by decide +kernel
theorem dX8_init_52 : decode cX8_init 52 = .ok (.dup, 1) := by decide +kernel
theorem dX8_init_53 : decode cX8_init 53 = .ok (.bipush 7, 2) := by decide +kernel
theorem dX8_init_55 : decode cX8_init 55 = .ok (.ldc2_w 27, 3) := by decide +kernel
theorem dX8_init_58 : decode cX8_init 58 = .ok (.lastore, 1) := by decide +kernel
theorem dX8_init_59 : decode cX8_init 59 = .ok (.dup, 1) := by decide +kernel
theorem dX8_init_60 : decode cX8_init 60 = .ok (.bipush 8, 2) := by decide +kernel
theorem dX8_init_62 : decode cX8_init 62 = .ok (.ldc2_w 29, 3) := by decide +kernel
theorem dX8_init_65 : decode cX8_init 65 = .ok (.lastore, 1) := by decide +kernel
theorem dX8_init_66 : decode cX8_init 66 = .ok (.dup, 1) := by decide +kernel
theorem dX8_init_67 : decode cX8_init 67 = .ok (.bipush 9, 2) := by decide +kernel
theorem dX8_init_69 : decode cX8_init 69 = .ok (.ldc2_w 31, 3) := by decide +kernel
theorem dX8_init_72 : decode cX8_init 72 = .ok (.lastore, 1) := by decide +kernel
theorem dX8_init_73 : decode cX8_init 73 = .ok (.dup, 1) := by decide +kernel
theorem dX8_init_74 : decode cX8_init 74 = .ok (.bipush 10, 2) := by decide +kernel
theorem dX8_init_76 : decode cX8_init 76 = .ok (.ldc2_w 33, 3) := by decide +kernel
theorem dX8_init_79 : decode cX8_init 79 = .ok (.lastore, 1) := by decide +kernel
theorem dX8_init_80 : decode cX8_init 80 = .ok (.dup, 1) := by decide +kernel
theorem dX8_init_81 : decode cX8_init 81 = .ok (.bipush 11, 2) := by decide +kernel
theorem dX8_init_83 : decode cX8_init 83 = .ok (.ldc2_w 35, 3) := by decide +kernel
theorem dX8_init_86 : decode cX8_init 86 = .ok (.lastore, 1) := by decide +kernel
theorem dX8_init_87 : decode cX8_init 87 = .ok (.dup, 1) := by decide +kernel
theorem dX8_init_88 : decode cX8_init 88 = .ok (.bipush 12, 2) := by decide +kernel
theorem dX8_init_90 : decode cX8_init 90 = .ok (.ldc2_w 37, 3) := by decide +kernel
theorem dX8_init_93 : decode cX8_init 93 = .ok (.lastore, 1) := by decide +kernel
theorem dX8_init_94 : decode cX8_init 94 = .ok (.dup, 1) := by decide +kernel
theorem dX8_init_95 : decode cX8_init 95 = .ok (.bipush 13, 2) := by decide +kernel
theorem dX8_init_97 : decode cX8_init 97 = .ok (.ldc2_w 39, 3) := by decide +kernel
theorem dX8_init_100 : decode cX8_init 100 = .ok (.lastore, 1) := by decide +kernel
theorem dX8_init_101 : decode cX8_init 101 = .ok (.dup, 1) := by decide +kernel
theorem dX8_init_102 : decode cX8_init 102 = .ok (.bipush 14, 2) := by decide +kernel
theorem dX8_init_104 : decode cX8_init 104 = .ok (.ldc2_w 41, 3) := by decide +kernel
theorem dX8_init_107 : decode cX8_init 107 = .ok (.lastore, 1) := by decide +kernel
theorem dX8_init_108 : decode cX8_init 108 = .ok (.dup, 1) := by decide +kernel
theorem dX8_init_109 : decode cX8_init 109 = .ok (.bipush 15, 2) := by decide +kernel
theorem dX8_init_111 : decode cX8_init 111 = .ok (.ldc2_w 43, 3) := by decide +kernel
theorem dX8_init_114 : decode cX8_init 114 = .ok (.lastore, 1) := by decide +kernel
theorem dX8_init_115 : decode cX8_init 115 = .ok (.dup, 1) := by decide +kernel
theorem dX8_init_116 : decode cX8_init 116 = .ok (.bipush 16, 2) := by decide +kernel
theorem dX8_init_118 : decode cX8_init 118 = .ok (.ldc2_w 45, 3) := by decide +kernel
theorem dX8_init_121 : decode cX8_init 121 = .ok (.lastore, 1) := by decide +kernel
theorem dX8_init_122 : decode cX8_init 122 = .ok (.dup, 1) := by decide +kernel
theorem dX8_init_123 : decode cX8_init 123 = .ok (.bipush 17, 2) := by decide +kernel
theorem dX8_init_125 : decode cX8_init 125 = .ok (.ldc2_w 47, 3) := by decide +kernel
theorem dX8_init_128 : decode cX8_init 128 = .ok (.lastore, 1) := by decide +kernel
theorem dX8_init_129 : decode cX8_init 129 = .ok (.dup, 1) := by decide +kernel
theorem dX8_init_130 : decode cX8_init 130 = .ok (.bipush 18, 2) := by decide +kernel
theorem dX8_init_132 : decode cX8_init 132 = .ok (.ldc2_w 49, 3) := by decide +kernel
theorem dX8_init_135 : decode cX8_init 135 = .ok (.lastore, 1) := by decide +kernel
theorem dX8_init_136 : decode cX8_init 136 = .ok (.dup, 1) := by decide +kernel
theorem dX8_init_137 : decode cX8_init 137 = .ok (.bipush 19, 2) := by decide +kernel
theorem dX8_init_139 : decode cX8_init 139 = .ok (.ldc2_w 51, 3) := by decide +kernel
theorem dX8_init_142 : decode cX8_init 142 = .ok (.lastore, 1) := by decide +kernel
theorem dX8_init_143 : decode cX8_init 143 = .ok (.dup, 1) := by decide +kernel
theorem dX8_init_144 : decode cX8_init 144 = .ok (.bipush 20, 2) := by decide +kernel
theorem dX8_init_146 : decode cX8_init 146 = .ok (.ldc2_w 53, 3) := by decide +kernel
theorem dX8_init_149 : decode cX8_init 149 = .ok (.lastore, 1) := by decide +kernel
theorem dX8_init_150 : decode cX8_init 150 = .ok (.dup, 1) := by decide +kernel
theorem dX8_init_151 : decode cX8_init 151 = .ok (.bipush 21, 2) := by decide +kernel
theorem dX8_init_153 : decode cX8_init 153 = .ok (.ldc2_w 55, 3) := by decide +kernel
theorem dX8_init_156 : decode cX8_init 156 = .ok (.lastore, 1) := by decide +kernel
theorem dX8_init_157 : decode cX8_init 157 = .ok (.dup, 1) := by decide +kernel
theorem dX8_init_158 : decode cX8_init 158 = .ok (.bipush 22, 2) := by decide +kernel
theorem dX8_init_160 : decode cX8_init 160 = .ok (.ldc2_w 57, 3) := by decide +kernel
theorem dX8_init_163 : decode cX8_init 163 = .ok (.lastore, 1) := by decide +kernel
theorem dX8_init_164 : decode cX8_init 164 = .ok (.dup, 1) := by decide +kernel
theorem dX8_init_165 : decode cX8_init 165 = .ok (.bipush 23, 2) := by decide +kernel
theorem dX8_init_167 : decode cX8_init 167 = .ok (.ldc2_w 59, 3) := by decide +kernel
theorem dX8_init_170 : decode cX8_init 170 = .ok (.lastore, 1) := by decide +kernel
theorem dX8_init_171 : decode cX8_init 171 = .ok (.dup, 1) := by decide +kernel
theorem dX8_init_172 : decode cX8_init 172 = .ok (.bipush 24, 2) := by decide +kernel
theorem dX8_init_174 : decode cX8_init 174 = .ok (.ldc2_w 61, 3) := by decide +kernel
theorem dX8_init_177 : decode cX8_init 177 = .ok (.lastore, 1) := by decide +kernel
theorem dX8_init_178 : decode cX8_init 178 = .ok (.dup, 1) := by decide +kernel
theorem dX8_init_179 : decode cX8_init 179 = .ok (.bipush 25, 2) := by decide +kernel
theorem dX8_init_181 : decode cX8_init 181 = .ok (.ldc2_w 63, 3) := by decide +kernel
theorem dX8_init_184 : decode cX8_init 184 = .ok (.lastore, 1) := by decide +kernel
theorem dX8_init_185 : decode cX8_init 185 = .ok (.dup, 1) := by decide +kernel
theorem dX8_init_186 : decode cX8_init 186 = .ok (.bipush 26, 2) := by decide +kernel
theorem dX8_init_188 : decode cX8_init 188 = .ok (.ldc2_w 65, 3) := by decide +kernel
theorem dX8_init_191 : decode cX8_init 191 = .ok (.lastore, 1) := by decide +kernel
theorem dX8_init_192 : decode cX8_init 192 = .ok (.dup, 1) := by decide +kernel
theorem dX8_init_193 : decode cX8_init 193 = .ok (.bipush 27, 2) := by decide +kernel
theorem dX8_init_195 : decode cX8_init 195 = .ok (.ldc2_w 67, 3) := by decide +kernel
theorem dX8_init_198 : decode cX8_init 198 = .ok (.lastore, 1) := by decide +kernel
theorem dX8_init_199 : decode cX8_init 199 = .ok (.dup, 1) := by decide +kernel
theorem dX8_init_200 : decode cX8_init 200 = .ok (.bipush 28, 2) := by decide +kernel
theorem dX8_init_202 : decode cX8_init 202 = .ok (.ldc2_w 69, 3) := by decide +kernel
theorem dX8_init_205 : decode cX8_init 205 = .ok (.lastore, 1) := by decide +kernel
theorem dX8_init_206 : decode cX8_init 206 = .ok (.dup, 1) := by decide +kernel
theorem dX8_init_207 : decode cX8_init 207 = .ok (.bipush 29, 2) := by decide +kernel
theorem dX8_init_209 : decode cX8_init 209 = .ok (.ldc2_w 71, 3) := by decide +kernel
theorem dX8_init_212 : decode cX8_init 212 = .ok (.lastore, 1) := by decide +kernel
theorem dX8_init_213 : decode cX8_init 213 = .ok (.dup, 1) := by decide +kernel
theorem dX8_init_214 : decode cX8_init 214 = .ok (.bipush 30, 2) := by decide +kernel
theorem dX8_init_216 : decode cX8_init 216 = .ok (.ldc2_w 73, 3) := by decide +kernel
theorem dX8_init_219 : decode cX8_init 219 = .ok (.lastore, 1) := by decide +kernel
theorem dX8_init_220 : decode cX8_init 220 = .ok (.dup, 1) := by decide +kernel
theorem dX8_init_221 : decode cX8_init 221 = .ok (.bipush 31, 2) := by decide +kernel
theorem dX8_init_223 : decode cX8_init 223 = .ok (.ldc2_w 75, 3) := by decide +kernel
theorem dX8_init_226 : decode cX8_init 226 = .ok (.lastore, 1) := by decide +kernel
theorem dX8_init_227 : decode cX8_init 227 = .ok (.dup, 1) := by decide +kernel
theorem dX8_init_228 : decode cX8_init 228 = .ok (.bipush 32, 2) := by decide +kernel
theorem dX8_init_230 : decode cX8_init 230 = .ok (.ldc2_w 77, 3) := by decide +kernel
theorem dX8_init_233 : decode cX8_init 233 = .ok (.lastore, 1) := by decide +kernel
theorem dX8_init_234 : decode cX8_init 234 = .ok (.dup, 1) := by decide +kernel
theorem dX8_init_235 : decode cX8_init 235 = .ok (.bipush 33, 2) := by decide +kernel
theorem dX8_init_237 : decode cX8_init 237 = .ok (.ldc2_w 79, 3) := by decide +kernel
theorem dX8_init_240 : decode cX8_init 240 = .ok (.lastore, 1) := by decide +kernel
theorem dX8_init_241 : decode cX8_init 241 = .ok (.dup, 1) := by decide +kernel
theorem dX8_init_242 : decode cX8_init 242 = .ok (.bipush 34, 2) := by decide +kernel
theorem dX8_init_244 : decode cX8_init 244 = .ok (.ldc2_w 81, 3) := by decide +kernel
theorem dX8_init_247 : decode cX8_init 247 = .ok (.lastore, 1) := by decide +kernel
theorem dX8_init_248 : decode cX8_init 248 = .ok (.dup, 1) := by decide +kernel
theorem dX8_init_249 : decode cX8_init 249 = .ok (.bipush 35, 2) := by decide +kernel
theorem dX8_init_251 : decode cX8_init 251 = .ok (.ldc2_w 83, 3) := by decide +kernel
theorem dX8_init_254 : decode cX8_init 254 = .ok (.lastore, 1) := by decide +kernel
theorem dX8_init_255 : decode cX8_init 255 = .ok (.dup, 1) := by decide +kernel
theorem dX8_init_256 : decode cX8_init 256 = .ok (.bipush 36, 2) := by decide +kernel
theorem dX8_init_258 : decode cX8_init 258 = .ok (.ldc2_w 85, 3) := by decide +kernel
theorem dX8_init_261 : decode cX8_init 261 = .ok (.lastore, 1) := by decide +kernel
theorem dX8_init_262 : decode cX8_init 262 = .ok (.dup, 1) := by decide +kernel
theorem dX8_init_263 : decode cX8_init 263 = .ok (.bipush 37, 2) := by decide +kernel
theorem dX8_init_265 : decode cX8_init 265 = .ok (.ldc2_w 87, 3) := by decide +kernel
theorem dX8_init_268 : decode cX8_init 268 = .ok (.lastore, 1) := by decide +kernel
theorem dX8_init_269 : decode cX8_init 269 = .ok (.dup, 1) := by decide +kernel
theorem dX8_init_270 : decode cX8_init 270 = .ok (.bipush 38, 2) := by decide +kernel
theorem dX8_init_272 : decode cX8_init 272 = .ok (.ldc2_w 89, 3) := by decide +kernel
theorem dX8_init_275 : decode cX8_init 275 = .ok (.lastore, 1) := by decide +kernel
theorem dX8_init_276 : decode cX8_init 276 = .ok (.dup, 1) := by decide +kernel
theorem dX8_init_277 : decode cX8_init 277 = .ok (.bipush 39, 2) := by decide +kernel
theorem dX8_init_279 : decode cX8_init 279 = .ok (.ldc2_w 91, 3) := by decide +kernel
theorem dX8_init_282 : decode cX8_init 282 = .ok (.lastore, 1) := by decide +kernel
theorem dX8_init_283 : decode cX8_init 283 = .ok (.dup, 1) := by decide +kernel
theorem dX8_init_284 : decode cX8_init 284 = .ok (.bipush 40, 2) := by decide +kernel
theorem dX8_init_286 : decode cX8_init 286 = .ok (.ldc2_w 93, 3) := by decide +kernel
theorem dX8_init_289 : decode cX8_init 289 = .ok (.lastore, 1) := by decide +kernel
theorem dX8_init_290 : decode cX8_init 290 = .ok (.dup, 1) := by decide +kernel
theorem dX8_init_291 : decode cX8_init 291 = .ok (.bipush 41, 2) := by decide +kernel
theorem dX8_init_293 : decode cX8_init 293 = .ok (.ldc2_w 95, 3) := by decide +kernel
theorem dX8_init_296 : decode cX8_init 296 = .ok (.lastore, 1) := by decide +kernel
theorem dX8_init_297 : decode cX8_init 297 = .ok (.dup, 1) := by decide +kernel
theorem dX8_init_298 : decode cX8_init 298 = .ok (.bipush 42, 2) := by decide +kernel
theorem dX8_init_300 : decode cX8_init 300 = .ok (.ldc2_w 97, 3) := by decide +kernel
theorem dX8_init_303 : decode cX8_init 303 = .ok (.lastore, 1) := by decide +kernel
theorem dX8_init_304 : decode cX8_init 304 = .ok (.dup, 1) := by decide +kernel
theorem dX8_init_305 : decode cX8_init 305 = .ok (.bipush 43, 2) := by decide +kernel
theorem dX8_init_307 : decode cX8_init 307 = .ok (.ldc2_w 99, 3) := by decide +kernel
theorem dX8_init_310 : decode cX8_init 310 = .ok (.lastore, 1) := by decide +kernel
theorem dX8_init_311 : decode cX8_init 311 = .ok (.dup, 1) := by decide +kernel
theorem dX8_init_312 : decode cX8_init 312 = .ok (.bipush 44, 2) := by decide +kernel
theorem dX8_init_314 : decode cX8_init 314 = .ok (.ldc2_w 101, 3) := by decide +kernel
theorem dX8_init_317 : decode cX8_init 317 = .ok (.lastore, 1) := by decide +kernel
theorem dX8_init_318 : decode cX8_init 318 = .ok (.dup, 1) := by decide +kernel
theorem dX8_init_319 : decode cX8_init 319 = .ok (.bipush 45, 2) := by decide +kernel
theorem dX8_init_321 : decode cX8_init 321 = .ok (.ldc2_w 103, 3) := by decide +kernel
theorem dX8_init_324 : decode cX8_init 324 = .ok (.lastore, 1) := by decide +kernel
theorem dX8_init_325 : decode cX8_init 325 = .ok (.dup, 1) := by decide +kernel
theorem dX8_init_326 : decode cX8_init 326 = .ok (.bipush 46, 2) := by decide +kernel
theorem dX8_init_328 : decode cX8_init 328 = .ok (.ldc2_w 105, 3) := by decide +kernel
theorem dX8_init_331 : decode cX8_init 331 = .ok (.lastore, 1) := by decide +kernel
theorem dX8_init_332 : decode cX8_init 332 = .ok (.dup, 1) := by decide +kernel
theorem dX8_init_333 : decode cX8_init 333 = .ok (.bipush 47, 2) := by decide +kernel
theorem dX8_init_335 : decode cX8_init 335 = .ok (.ldc2_w 107, 3) := by decide +kernel
theorem dX8_init_338 : decode cX8_init 338 = .ok (.lastore, 1) := by decide +kernel
theorem dX8_init_339 : decode cX8_init 339 = .ok (.dup, 1) := by decide +kernel
theorem dX8_init_340 : decode cX8_init 340 = .ok (.bipush 48, 2) := by decide +kernel
theorem dX8_init_342 : decode cX8_init 342 = .ok (.ldc2_w 109, 3) := by decide +kernel
theorem dX8_init_345 : decode cX8_init 345 = .ok (.lastore, 1) := by decide +kernel
theorem dX8_init_346 : decode cX8_init 346 = .ok (.dup, 1) := by decide +kernel
theorem dX8_init_347 : decode cX8_init 347 = .ok (.bipush 49, 2) := by decide +kernel
theorem dX8_init_349 : decode cX8_init 349 = .ok (.ldc2_w 111, 3) := by decide +kernel
theorem dX8_init_352 : decode cX8_init 352 = .ok (.lastore, 1) := by decide +kernel
theorem dX8_init_353 : decode cX8_init 353 = .ok (.dup, 1) := by decide +kernel
theorem dX8_init_354 : decode cX8_init 354 = .ok (.bipush 50, 2) := by decide +kernel
theorem dX8_init_356 : decode cX8_init 356 = .ok (.ldc2_w 113, 3) := by decide +kernel
theorem dX8_init_359 : decode cX8_init 359 = .ok (.lastore, 1) := by decide +kernel
theorem dX8_init_360 : decode cX8_init 360 = .ok (.dup, 1) := by decide +kernel
theorem dX8_init_361 : decode cX8_init 361 = .ok (.bipush 51, 2) := by decide +kernel
theorem dX8_init_363 : decode cX8_init 363 = .ok (.ldc2_w 115, 3) := by decide +kernel
theorem dX8_init_366 : decode cX8_init 366 = .ok (.lastore, 1) := by decide +kernel
theorem dX8_init_367 : decode cX8_init 367 = .ok (.dup, 1) := by decide +kernel
theorem dX8_init_368 : decode cX8_init 368 = .ok (.bipush 52, 2) := by decide +kernel
theorem dX8_init_370 : decode cX8_init 370 = .ok (.ldc2_w 117, 3) := by decide +kernel
theorem dX8_init_373 : decode cX8_init 373 = .ok (.lastore, 1) := by decide +kernel
theorem dX8_init_374 : decode cX8_init 374 = .ok (.dup, 1) := by decide +kernel
theorem dX8_init_375 : decode cX8_init 375 = .ok (.bipush 53, 2) := by decide +kernel
theorem dX8_init_377 : decode cX8_init 377 = .ok (.ldc2_w 119, 3) := by decide +kernel
theorem dX8_init_380 : decode cX8_init 380 = .ok (.lastore, 1) := by decide +kernel
theorem dX8_init_381 : decode cX8_init 381 = .ok (.dup, 1) := by decide +kernel
theorem dX8_init_382 : decode cX8_init 382 = .ok (.bipush 54, 2) := by decide +kernel
theorem dX8_init_384 : decode cX8_init 384 = .ok (.ldc2_w 121, 3) := by decide +kernel
theorem dX8_init_387 : decode cX8_init 387 = .ok (.lastore, 1) := by decide +kernel
theorem dX8_init_388 : decode cX8_init 388 = .ok (.dup, 1) := by decide +kernel
theorem dX8_init_389 : decode cX8_init 389 = .ok (.bipush 55, 2) := by decide +kernel
theorem dX8_init_391 : decode cX8_init 391 = .ok (.ldc2_w 123, 3) := by decide +kernel
theorem dX8_init_394 : decode cX8_init 394 = .ok (.lastore, 1) := by decide +kernel
theorem dX8_init_395 : decode cX8_init 395 = .ok (.dup, 1) := by decide +kernel
theorem dX8_init_396 : decode cX8_init 396 = .ok (.bipush 56, 2) := by decide +kernel
theorem dX8_init_398 : decode cX8_init 398 = .ok (.ldc2_w 125, 3) := by decide +kernel
theorem dX8_init_401 : decode cX8_init 401 = .ok (.lastore, 1) := by decide +kernel
theorem dX8_init_402 : decode cX8_init 402 = .ok (.dup, 1) := by decide +kernel
theorem dX8_init_403 : decode cX8_init 403 = .ok (.bipush 57, 2) := by decide +kernel
theorem dX8_init_405 : decode cX8_init 405 = .ok (.ldc2_w 127, 3) := by decide +kernel
theorem dX8_init_408 : decode cX8_init 408 = .ok (.lastore, 1) := by decide +kernel
theorem dX8_init_409 : decode cX8_init 409 = .ok (.dup, 1) := by decide +kernel
theorem dX8_init_410 : decode cX8_init 410 = .ok (.bipush 58, 2) := by decide +kernel
theorem dX8_init_412 : decode cX8_init 412 = .ok (.ldc2_w 129, 3) := by decide +kernel
theorem dX8_init_415 : decode cX8_init 415 = .ok (.lastore, 1) := by decide +kernel
theorem dX8_init_416 : decode cX8_init 416 = .ok (.dup, 1) := by decide +kernel
theorem dX8_init_417 : decode cX8_init 417 = .ok (.bipush 59, 2) := by decide +kernel
theorem dX8_init_419 : decode cX8_init 419 = .ok (.ldc2_w 131, 3) := by decide +kernel
theorem dX8_init_422 : decode cX8_init 422 = .ok (.lastore, 1) := by decide +kernel
theorem dX8_init_423 : decode cX8_init 423 = .ok (.dup, 1) := by decide +kernel
theorem dX8_init_424 : decode cX8_init 424 = .ok (.bipush 60, 2) := by decide +kernel
theorem dX8_init_426 : decode cX8_init 426 = .ok (.ldc2_w 133, 3) := by decide +kernel
theorem dX8_init_429 : decode cX8_init 429 = .ok (.lastore, 1) := by decide +kernel
theorem dX8_init_430 : decode cX8_init 430 = .ok (.dup, 1) := by decide +kernel
theorem dX8_init_431 : decode cX8_init 431 = .ok (.bipush 61, 2) := by decide +kernel
theorem dX8_init_433 : decode cX8_init 433 = .ok (.ldc2_w 135, 3) := by decide +kernel
theorem dX8_init_436 : decode cX8_init 436 = .ok (.lastore, 1) := by decide +kernel
theorem dX8_init_437 : decode cX8_init 437 = .ok (.dup, 1) := by decide +kernel
theorem dX8_init_438 : decode cX8_init 438 = .ok (.bipush 62, 2) := by decide +kernel
theorem dX8_init_440 : decode cX8_init 440 = .ok (.ldc2_w 137, 3) := by decide +kernel
theorem dX8_init_443 : decode cX8_init 443 = .ok (.lastore, 1) := by decide +kernel
theorem dX8_init_444 : decode cX8_init 444 = .ok (.dup, 1) := by decide +kernel
theorem dX8_init_445 : decode cX8_init 445 = .ok (.bipush 63, 2) := by decide +kernel
theorem dX8_init_447 : decode cX8_init 447 = .ok (.ldc2_w 139, 3) := by decide +kernel
theorem dX8_init_450 : decode cX8_init 450 = .ok (.lastore, 1) := by decide +kernel
theorem dX8_init_451 : decode cX8_init 451 = .ok (.putfield 141, 3) := by decide +kernel
theorem dX8_init_454 : decode cX8_init 454 = .ok (.aload_n 0, 1) := by decide +kernel
theorem dX8_init_455 : decode cX8_init 455 = .ok (.bipush 9, 2) := by decide +kernel
theorem dX8_init_457 : decode cX8_init 457 = .ok (.newarray .int, 2) := by decide +kernel
theorem dX8_init_459 : decode cX8_init 459 = .ok (.putfield 145, 3) := by decide +kernel
theorem dX8_init_462 : decode cX8_init 462 = .ok (.aload_n 0, 1) := by decide +kernel
theorem dX8_init_463 : decode cX8_init 463 = .ok (.bipush 9, 2) := by decide +kernel
theorem dX8_init_465 : decode cX8_init 465 = .ok (.newarray .int, 2) := by decide +kernel
theorem dX8_init_467 : decode cX8_init 467 = .ok (.putfield 149, 3) := by decide +kernel
theorem dX8_init_470 : decode cX8_init 470 = .ok (.aload_n 0, 1) := by decide +kernel
theorem dX8_init_471 : decode cX8_init 471 = .ok (.sipush 1080, 3) := by decide +kernel
theorem dX8_init_474 : decode cX8_init 474 = .ok (.newarray .int, 2) := by decide +kernel
theorem dX8_init_476 : decode cX8_init 476 = .ok (.putfield 152, 3) := by decide +kernel
theorem dX8_init_479 : decode cX8_init 479 = .ok (.aload_n 0, 1) := by decide +kernel
theorem dX8_init_480 : decode cX8_init 480 = .ok (.bipush 72, 2) := by decide +kernel
theorem dX8_init_482 : decode cX8_init 482 = .ok (.newarray .long, 2) := by decide +kernel
theorem dX8_init_484 : decode cX8_init 484 = .ok (.putfield 155, 3) := by decide +kernel
theorem dX8_init_487 : decode cX8_init 487 = .ok (.aload_n 0, 1) := by decide +kernel
theorem dX8_init_488 : decode cX8_init 488 = .ok (.bipush 72, 2) := by decide +kernel
theorem dX8_init_490 : decode cX8_init 490 = .ok (.newarray .long, 2) := by decide +kernel
theorem dX8_init_492 : decode cX8_init 492 = .ok (.putfield 158, 3) := by decide +kernel
theorem dX8_init_495 : decode cX8_init 495 = .ok (.aload_n 0, 1) := by decide +kernel
theorem dX8_init_496 : decode cX8_init 496 = .ok (.bipush 9, 2) := by decide +kernel
theorem dX8_init_498 : decode cX8_init 498 = .ok (.newarray .int, 2) := by decide +kernel
theorem dX8_init_500 : decode cX8_init 500 = .ok (.putfield 161, 3) := by decide +kernel
theorem dX8_init_503 : decode cX8_init 503 = .ok (.aload_n 0, 1) := by decide +kernel
theorem dX8_init_504 : decode cX8_init 504 = .ok (.bipush 9, 2) := by decide +kernel
theorem dX8_init_506 : decode cX8_init 506 = .ok (.newarray .int, 2) := by decide +kernel
theorem dX8_init_508 : decode cX8_init 508 = .ok (.putfield 164, 3) := by decide +kernel
theorem dX8_init_511 : decode cX8_init 511 = .ok (.aload_n 0, 1) := by decide +kernel
theorem dX8_init_512 : decode cX8_init 512 = .ok (.bipush 10, 2) := by decide +kernel
theorem dX8_init_514 : decode cX8_init 514 = .ok (.newarray .int, 2) := by decide +kernel
theorem dX8_init_516 : decode cX8_init 516 = .ok (.putfield 167, 3) := by decide +kernel
theorem dX8_init_519 : decode cX8_init 519 = .ok (.aload_n 0, 1) := by decide +kernel
theorem dX8_init_520 : decode cX8_init 520 = .ok (.bipush 120, 2) := by decide +kernel
theorem dX8_init_522 : decode cX8_init 522 = .ok (.newarray .int, 2) := by decide +kernel
theorem dX8_init_524 : decode cX8_init 524 = .ok (.putfield 170, 3) := by decide +kernel
theorem dX8_init_527 : decode cX8_init 527 = .ok (.aload_n 0, 1) := by decide +kernel
theorem dX8_init_528 : decode cX8_init 528 = .ok (.bipush 9, 2) := by decide +kernel
theorem dX8_init_530 : decode cX8_init 530 = .ok (.newarray .int, 2) := by decide +kernel
theorem dX8_init_532 : decode cX8_init 532 = .ok (.putfield 173, 3) := by decide +kernel
theorem dX8_init_535 : decode cX8_init 535 = .ok (.aload_n 0, 1) := by decide +kernel
theorem dX8_init_536 : decode cX8_init 536 = .ok (.bipush 120, 2) := by decide +kernel
theorem dX8_init_538 : decode cX8_init 538 = .ok (.newarray .int, 2) := by decide +kernel
theorem dX8_init_540 : decode cX8_init 540 = .ok (.putfield 176, 3) := by decide +kernel
theorem dX8_init_543 : decode cX8_init 543 = .ok (.aload_n 0, 1) := by decide +kernel
theorem dX8_init_544 : decode cX8_init 544 = .ok (.bipush 32, 2) := by decide +kernel
theorem dX8_init_546 : decode cX8_init 546 = .ok (.newarray .byte, 2) := by decide +kernel
theorem dX8_init_548 : decode cX8_init 548 = .ok (.putfield 179, 3) := by decide +kernel
theorem dX8_init_551 : decode cX8_init 551 = .ok (.aload_n 0, 1) := by decide +kernel
theorem dX8_init_552 : decode cX8_init 552 = .ok (.sipush 5120, 3) := by decide +kernel
theorem dX8_init_555 : decode cX8_init 555 = .ok (.newarray .int, 2) := by decide +kernel
theorem dX8_init_557 : decode cX8_init 557 = .ok (.putfield 183, 3) := by decide +kernel
theorem dX8_init_560 : decode cX8_init 560 = .ok (.aload_n 0, 1) := by decide +kernel
theorem dX8_init_561 : decode cX8_init 561 = .ok (.sipush 4400, 3) := by decide +kernel
theorem dX8_init_564 : decode cX8_init 564 = .ok (.newarray .byte, 2) := by decide +kernel
theorem dX8_init_566 : decode cX8_init 566 = .ok (.putfield 186, 3) := by decide +kernel
theorem dX8_init_569 : decode cX8_init 569 = .ok (.aload_n 0, 1) := by decide +kernel
theorem dX8_init_570 : decode cX8_init 570 = .ok (.bipush 8, 2) := by decide +kernel
theorem dX8_init_572 : decode cX8_init 572 = .ok (.newarray .long, 2) := by decide +kernel
theorem dX8_init_574 : decode cX8_init 574 = .ok (.putfield 189, 3) := by decide +kernel
theorem dX8_init_577 : decode cX8_init 577 = .ok (.aload_n 0, 1) := by decide +kernel
theorem dX8_init_578 : decode cX8_init 578 = .ok (.bipush 64, 2) := by decide +kernel
theorem dX8_init_580 : decode cX8_init 580 = .ok (.newarray .long, 2) := by decide +kernel
theorem dX8_init_582 : decode cX8_init 582 = .ok (.putfield 192, 3) := by decide +kernel
theorem dX8_init_585 : decode cX8_init 585 = .ok (.aload_n 0, 1) := by decide +kernel
theorem dX8_init_586 : decode cX8_init 586 = .ok (.bipush 40, 2) := by decide +kernel
theorem dX8_init_588 : decode cX8_init 588 = .ok (.newarray .boolean, 2) := by decide +kernel
theorem dX8_init_590 : decode cX8_init 590 = .ok (.putfield 195, 3) := by decide +kernel
theorem dX8_init_593 : decode cX8_init 593 = .ok (.aload_n 0, 1) := by decide +kernel
theorem dX8_init_594 : decode cX8_init 594 = .ok (.iconst 0, 1) := by decide +kernel
theorem dX8_init_595 : decode cX8_init 595 = .ok (.invokevirtual 199, 3) := by decide +kernel
theorem dX8_init_598 : decode cX8_init 598 = .ok (.aload_n 0, 1) := by decide +kernel
theorem dX8_init_599 : decode cX8_init 599 = .ok (.invokevirtual 203, 3) := by decide +kernel
theorem dX8_init_602 : decode cX8_init 602 = .ok (.return_, 1) := by decide +kernel
theorem dX8_turned_0 : decode cX8_turned 0 = .ok (.lload_n 0, 1) := by decide +kernel
theorem dX8_turned_1 : decode cX8_turned 1 = .ok (.iload_n 2, 1) := by decide +kernel
theorem dX8_turned_2 : decode cX8_turned 2 = .ok (.lshr, 1) := by decide +kernel
theorem dX8_turned_3 : decode cX8_turned 3 = .ok (.lload_n 0, 1) := by decide +kernel
theorem dX8_turned_4 : decode cX8_turned 4 = .ok (.bipush 32, 2) := by decide +kernel
theorem dX8_turned_6 : decode cX8_turned 6 = .ok (.iload_n 2, 1) := by decide +kernel
theorem dX8_turned_7 : decode cX8_turned 7 = .ok (.isub, 1) := by decide +kernel
theorem dX8_turned_8 : decode cX8_turned 8 = .ok (.lshl, 1) := by decide +kernel
theorem dX8_turned_9 : decode cX8_turned 9 = .ok (.lor, 1) := by decide +kernel
theorem dX8_turned_10 : decode cX8_turned 10 = .ok (.ldc2_w 206, 3) := by decide +kernel
theorem dX8_turned_13 : decode cX8_turned 13 = .ok (.land, 1) := by decide +kernel
theorem dX8_turned_14 : decode cX8_turned 14 = .ok (.lreturn, 1) := by decide +kernel
theorem dX8_digestOf_0 : decode cX8_digestOf 0 = .ok (.aload_n 0, 1) := by decide +kernel
theorem dX8_digestOf_1 : decode cX8_digestOf 1 = .ok (.getfield 189, 3) := by decide +kernel
theorem dX8_digestOf_4 : decode cX8_digestOf 4 = .ok (.iconst 0, 1) := by decide +kernel
theorem dX8_digestOf_5 : decode cX8_digestOf 5 = .ok (.ldc2_w 208, 3) := by decide +kernel
theorem dX8_digestOf_8 : decode cX8_digestOf 8 = .ok (.lastore, 1) := by decide +kernel
theorem dX8_digestOf_9 : decode cX8_digestOf 9 = .ok (.aload_n 0, 1) := by decide +kernel
theorem dX8_digestOf_10 : decode cX8_digestOf 10 = .ok (.getfield 189, 3) := by decide +kernel
theorem dX8_digestOf_13 : decode cX8_digestOf 13 = .ok (.iconst 1, 1) := by decide +kernel
theorem dX8_digestOf_14 : decode cX8_digestOf 14 = .ok (.ldc2_w 210, 3) := by decide +kernel
theorem dX8_digestOf_17 : decode cX8_digestOf 17 = .ok (.lastore, 1) := by decide +kernel
theorem dX8_digestOf_18 : decode cX8_digestOf 18 = .ok (.aload_n 0, 1) := by decide +kernel
theorem dX8_digestOf_19 : decode cX8_digestOf 19 = .ok (.getfield 189, 3) := by decide +kernel
theorem dX8_digestOf_22 : decode cX8_digestOf 22 = .ok (.iconst 2, 1) := by decide +kernel
theorem dX8_digestOf_23 : decode cX8_digestOf 23 = .ok (.ldc2_w 212, 3) := by decide +kernel
theorem dX8_digestOf_26 : decode cX8_digestOf 26 = .ok (.lastore, 1) := by decide +kernel
theorem dX8_digestOf_27 : decode cX8_digestOf 27 = .ok (.aload_n 0, 1) := by decide +kernel
theorem dX8_digestOf_28 : decode cX8_digestOf 28 = .ok (.getfield 189, 3) := by decide +kernel
theorem dX8_digestOf_31 : decode cX8_digestOf 31 = .ok (.iconst 3, 1) := by decide +kernel
theorem dX8_digestOf_32 : decode cX8_digestOf 32 = .ok (.ldc2_w 214, 3) := by decide +kernel
theorem dX8_digestOf_35 : decode cX8_digestOf 35 = .ok (.lastore, 1) := by decide +kernel
theorem dX8_digestOf_36 : decode cX8_digestOf 36 = .ok (.aload_n 0, 1) := by decide +kernel
theorem dX8_digestOf_37 : decode cX8_digestOf 37 = .ok (.getfield 189, 3) := by decide +kernel
theorem dX8_digestOf_40 : decode cX8_digestOf 40 = .ok (.iconst 4, 1) := by decide +kernel
theorem dX8_digestOf_41 : decode cX8_digestOf 41 = .ok (.ldc2_w 216, 3) := by decide +kernel
theorem dX8_digestOf_44 : decode cX8_digestOf 44 = .ok (.lastore, 1) := by decide +kernel
theorem dX8_digestOf_45 : decode cX8_digestOf 45 = .ok (.aload_n 0, 1) := by decide +kernel
theorem dX8_digestOf_46 : decode cX8_digestOf 46 = .ok (.getfield 189, 3) := by decide +kernel
theorem dX8_digestOf_49 : decode cX8_digestOf 49 = .ok (.iconst 5, 1) := by decide +kernel
theorem dX8_digestOf_50 : decode cX8_digestOf 50 = .ok (.ldc2_w 218, 3) := by decide +kernel
theorem dX8_digestOf_53 : decode cX8_digestOf 53 = .ok (.lastore, 1) := by decide +kernel
theorem dX8_digestOf_54 : decode cX8_digestOf 54 = .ok (.aload_n 0, 1) := by decide +kernel
theorem dX8_digestOf_55 : decode cX8_digestOf 55 = .ok (.getfield 189, 3) := by decide +kernel
theorem dX8_digestOf_58 : decode cX8_digestOf 58 = .ok (.bipush 6, 2) := by decide +kernel
theorem dX8_digestOf_60 : decode cX8_digestOf 60 = .ok (.ldc2_w 220, 3) := by decide +kernel
theorem dX8_digestOf_63 : decode cX8_digestOf 63 = .ok (.lastore, 1) := by decide +kernel
theorem dX8_digestOf_64 : decode cX8_digestOf 64 = .ok (.aload_n 0, 1) := by decide +kernel
theorem dX8_digestOf_65 : decode cX8_digestOf 65 = .ok (.getfield 189, 3) := by decide +kernel
theorem dX8_digestOf_68 : decode cX8_digestOf 68 = .ok (.bipush 7, 2) := by decide +kernel
theorem dX8_digestOf_70 : decode cX8_digestOf 70 = .ok (.ldc2_w 222, 3) := by decide +kernel
theorem dX8_digestOf_73 : decode cX8_digestOf 73 = .ok (.lastore, 1) := by decide +kernel
theorem dX8_digestOf_74 : decode cX8_digestOf 74 = .ok (.iload_n 1, 1) := by decide +kernel
theorem dX8_digestOf_75 : decode cX8_digestOf 75 = .ok (.istore_n 2, 1) := by decide +kernel
theorem dX8_digestOf_76 : decode cX8_digestOf 76 = .ok (.aload_n 0, 1) := by decide +kernel
theorem dX8_digestOf_77 : decode cX8_digestOf 77 = .ok (.getfield 186, 3) := by decide +kernel
theorem dX8_digestOf_80 : decode cX8_digestOf 80 = .ok (.iload_n 2, 1) := by decide +kernel
theorem dX8_digestOf_81 : decode cX8_digestOf 81 = .ok (.bipush (-128), 2) := by decide +kernel
theorem dX8_digestOf_83 : decode cX8_digestOf 83 = .ok (.bastore, 1) := by decide +kernel
theorem dX8_digestOf_84 : decode cX8_digestOf 84 = .ok (.iinc 2 1, 3) := by decide +kernel
theorem dX8_digestOf_87 : decode cX8_digestOf 87 = .ok (.iload_n 2, 1) := by decide +kernel
theorem dX8_digestOf_88 : decode cX8_digestOf 88 = .ok (.bipush 64, 2) := by decide +kernel
theorem dX8_digestOf_90 : decode cX8_digestOf 90 = .ok (.irem, 1) := by decide +kernel
theorem dX8_digestOf_91 : decode cX8_digestOf 91 = .ok (.bipush 56, 2) := by decide +kernel
theorem dX8_digestOf_93 : decode cX8_digestOf 93 = .ok (.if_icmp .eq 16, 3) := by decide +kernel
theorem dX8_digestOf_96 : decode cX8_digestOf 96 = .ok (.aload_n 0, 1) := by decide +kernel
theorem dX8_digestOf_97 : decode cX8_digestOf 97 = .ok (.getfield 186, 3) := by decide +kernel
theorem dX8_digestOf_100 : decode cX8_digestOf 100 = .ok (.iload_n 2, 1) := by decide +kernel
theorem dX8_digestOf_101 : decode cX8_digestOf 101 = .ok (.iconst 0, 1) := by decide +kernel
theorem dX8_digestOf_102 : decode cX8_digestOf 102 = .ok (.bastore, 1) := by decide +kernel
theorem dX8_digestOf_103 : decode cX8_digestOf 103 = .ok (.iinc 2 1, 3) := by decide +kernel
theorem dX8_digestOf_106 : decode cX8_digestOf 106 = .ok (.goto (-19), 3) := by decide +kernel
theorem dX8_digestOf_109 : decode cX8_digestOf 109 = .ok (.bipush 7, 2) := by decide +kernel
theorem dX8_digestOf_111 : decode cX8_digestOf 111 = .ok (.istore_n 3, 1) := by decide +kernel
theorem dX8_digestOf_112 : decode cX8_digestOf 112 = .ok (.iload_n 3, 1) := by decide +kernel
theorem dX8_digestOf_113 : decode cX8_digestOf 113 = .ok (.ifCond .lt 31, 3) := by decide +kernel
theorem dX8_digestOf_116 : decode cX8_digestOf 116 = .ok (.aload_n 0, 1) := by decide +kernel
theorem dX8_digestOf_117 : decode cX8_digestOf 117 = .ok (.getfield 186, 3) := by decide +kernel
theorem dX8_digestOf_120 : decode cX8_digestOf 120 = .ok (.iload_n 2, 1) := by decide +kernel
theorem dX8_digestOf_121 : decode cX8_digestOf 121 = .ok (.ldc2_w 224, 3) := by decide +kernel
theorem dX8_digestOf_124 : decode cX8_digestOf 124 = .ok (.iload_n 1, 1) := by decide +kernel
theorem dX8_digestOf_125 : decode cX8_digestOf 125 = .ok (.i2l, 1) := by decide +kernel
theorem dX8_digestOf_126 : decode cX8_digestOf 126 = .ok (.lmul, 1) := by decide +kernel
theorem dX8_digestOf_127 : decode cX8_digestOf 127 = .ok (.bipush 8, 2) := by decide +kernel
theorem dX8_digestOf_129 : decode cX8_digestOf 129 = .ok (.iload_n 3, 1) := by decide +kernel
theorem dX8_digestOf_130 : decode cX8_digestOf 130 = .ok (.imul, 1) := by decide +kernel
theorem dX8_digestOf_131 : decode cX8_digestOf 131 = .ok (.lshr, 1) := by decide +kernel
theorem dX8_digestOf_132 : decode cX8_digestOf 132 = .ok (.l2i, 1) := by decide +kernel
theorem dX8_digestOf_133 : decode cX8_digestOf 133 = .ok (.i2b, 1) := by decide +kernel
theorem dX8_digestOf_134 : decode cX8_digestOf 134 = .ok (.bastore, 1) := by decide +kernel
theorem dX8_digestOf_135 : decode cX8_digestOf 135 = .ok (.iinc 2 1, 3) := by decide +kernel
theorem dX8_digestOf_138 : decode cX8_digestOf 138 = .ok (.iinc 3 (-1), 3) := by decide +kernel
theorem dX8_digestOf_141 : decode cX8_digestOf 141 = .ok (.goto (-29), 3) := by decide +kernel
theorem dX8_digestOf_144 : decode cX8_digestOf 144 = .ok (.iconst 0, 1) := by decide +kernel
theorem dX8_digestOf_145 : decode cX8_digestOf 145 = .ok (.istore_n 3, 1) := by decide +kernel
theorem dX8_digestOf_146 : decode cX8_digestOf 146 = .ok (.iload_n 3, 1) := by decide +kernel
theorem dX8_digestOf_147 : decode cX8_digestOf 147 = .ok (.iload_n 2, 1) := by decide +kernel
theorem dX8_digestOf_148 : decode cX8_digestOf 148 = .ok (.if_icmp .ge 14, 3) := by decide +kernel
theorem dX8_digestOf_151 : decode cX8_digestOf 151 = .ok (.aload_n 0, 1) := by decide +kernel
theorem dX8_digestOf_152 : decode cX8_digestOf 152 = .ok (.iload_n 3, 1) := by decide +kernel
theorem dX8_digestOf_153 : decode cX8_digestOf 153 = .ok (.invokevirtual 226, 3) := by decide +kernel
theorem dX8_digestOf_156 : decode cX8_digestOf 156 = .ok (.iinc 3 64, 3) := by decide +kernel
theorem dX8_digestOf_159 : decode cX8_digestOf 159 = .ok (.goto (-13), 3) := by decide +kernel
theorem dX8_digestOf_162 : decode cX8_digestOf 162 = .ok (.return_, 1) := by decide +kernel
theorem dX8_block_0 : decode cX8_block 0 = .ok (.iconst 0, 1) := by decide +kernel
theorem dX8_block_1 : decode cX8_block 1 = .ok (.istore_n 2, 1) := by decide +kernel
theorem dX8_block_2 : decode cX8_block 2 = .ok (.iload_n 2, 1) := by decide +kernel
theorem dX8_block_3 : decode cX8_block 3 = .ok (.bipush 16, 2) := by decide +kernel
theorem dX8_block_5 : decode cX8_block 5 = .ok (.if_icmp .ge 58, 3) := by decide +kernel
theorem dX8_block_8 : decode cX8_block 8 = .ok (.lconst 0, 1) := by decide +kernel
theorem dX8_block_9 : decode cX8_block 9 = .ok (.lstore_n 3, 1) := by decide +kernel
theorem dX8_block_10 : decode cX8_block 10 = .ok (.iconst 0, 1) := by decide +kernel
theorem dX8_block_11 : decode cX8_block 11 = .ok (.istore 5, 2) := by decide +kernel
theorem dX8_block_13 : decode cX8_block 13 = .ok (.iload 5, 2) := by decide +kernel
theorem dX8_block_15 : decode cX8_block 15 = .ok (.iconst 4, 1) := by decide +kernel
theorem dX8_block_16 : decode cX8_block 16 = .ok (.if_icmp .ge 34, 3) := by decide +kernel
theorem dX8_block_19 : decode cX8_block 19 = .ok (.ldc2_w 229, 3) := by decide +kernel
theorem dX8_block_22 : decode cX8_block 22 = .ok (.lload_n 3, 1) := by decide +kernel
theorem dX8_block_23 : decode cX8_block 23 = .ok (.lmul, 1) := by decide +kernel
theorem dX8_block_24 : decode cX8_block 24 = .ok (.aload_n 0, 1) := by decide +kernel
theorem dX8_block_25 : decode cX8_block 25 = .ok (.getfield 186, 3) := by decide +kernel
theorem dX8_block_28 : decode cX8_block 28 = .ok (.iload_n 1, 1) := by decide +kernel
theorem dX8_block_29 : decode cX8_block 29 = .ok (.iconst 4, 1) := by decide +kernel
theorem dX8_block_30 : decode cX8_block 30 = .ok (.iload_n 2, 1) := by decide +kernel
theorem dX8_block_31 : decode cX8_block 31 = .ok (.imul, 1) := by decide +kernel
theorem dX8_block_32 : decode cX8_block 32 = .ok (.iadd, 1) := by decide +kernel
theorem dX8_block_33 : decode cX8_block 33 = .ok (.iload 5, 2) := by decide +kernel
theorem dX8_block_35 : decode cX8_block 35 = .ok (.iadd, 1) := by decide +kernel
theorem dX8_block_36 : decode cX8_block 36 = .ok (.baload, 1) := by decide +kernel
theorem dX8_block_37 : decode cX8_block 37 = .ok (.sipush 255, 3) := by decide +kernel
theorem dX8_block_40 : decode cX8_block 40 = .ok (.iand, 1) := by decide +kernel
theorem dX8_block_41 : decode cX8_block 41 = .ok (.i2l, 1) := by decide +kernel
theorem dX8_block_42 : decode cX8_block 42 = .ok (.ladd, 1) := by decide +kernel
theorem dX8_block_43 : decode cX8_block 43 = .ok (.lstore_n 3, 1) := by decide +kernel
theorem dX8_block_44 : decode cX8_block 44 = .ok (.iinc 5 1, 3) := by decide +kernel
theorem dX8_block_47 : decode cX8_block 47 = .ok (.goto (-34), 3) := by decide +kernel
theorem dX8_block_50 : decode cX8_block 50 = .ok (.aload_n 0, 1) := by decide +kernel
theorem dX8_block_51 : decode cX8_block 51 = .ok (.getfield 192, 3) := by decide +kernel
theorem dX8_block_54 : decode cX8_block 54 = .ok (.iload_n 2, 1) := by decide +kernel
theorem dX8_block_55 : decode cX8_block 55 = .ok (.lload_n 3, 1) := by decide +kernel
theorem dX8_block_56 : decode cX8_block 56 = .ok (.lastore, 1) := by decide +kernel
theorem dX8_block_57 : decode cX8_block 57 = .ok (.iinc 2 1, 3) := by decide +kernel
theorem dX8_block_60 : decode cX8_block 60 = .ok (.goto (-58), 3) := by decide +kernel
theorem dX8_block_63 : decode cX8_block 63 = .ok (.bipush 16, 2) := by decide +kernel
theorem dX8_block_65 : decode cX8_block 65 = .ok (.istore_n 2, 1) := by decide +kernel
theorem dX8_block_66 : decode cX8_block 66 = .ok (.iload_n 2, 1) := by decide +kernel
theorem dX8_block_67 : decode cX8_block 67 = .ok (.bipush 64, 2) := by decide +kernel
theorem dX8_block_69 : decode cX8_block 69 = .ok (.if_icmp .ge 106, 3) := by decide +kernel
theorem dX8_block_72 : decode cX8_block 72 = .ok (.aload_n 0, 1) := by decide +kernel
theorem dX8_block_73 : decode cX8_block 73 = .ok (.getfield 192, 3) := by decide +kernel
theorem dX8_block_76 : decode cX8_block 76 = .ok (.iload_n 2, 1) := by decide +kernel
theorem dX8_block_77 : decode cX8_block 77 = .ok (.bipush 15, 2) := by decide +kernel
theorem dX8_block_79 : decode cX8_block 79 = .ok (.isub, 1) := by decide +kernel
theorem dX8_block_80 : decode cX8_block 80 = .ok (.laload, 1) := by decide +kernel
theorem dX8_block_81 : decode cX8_block 81 = .ok (.lstore_n 3, 1) := by decide +kernel
theorem dX8_block_82 : decode cX8_block 82 = .ok (.aload_n 0, 1) := by decide +kernel
theorem dX8_block_83 : decode cX8_block 83 = .ok (.getfield 192, 3) := by decide +kernel
theorem dX8_block_86 : decode cX8_block 86 = .ok (.iload_n 2, 1) := by decide +kernel
theorem dX8_block_87 : decode cX8_block 87 = .ok (.iconst 2, 1) := by decide +kernel
theorem dX8_block_88 : decode cX8_block 88 = .ok (.isub, 1) := by decide +kernel
theorem dX8_block_89 : decode cX8_block 89 = .ok (.laload, 1) := by decide +kernel
theorem dX8_block_90 : decode cX8_block 90 = .ok (.lstore 5, 2) := by decide +kernel
theorem dX8_block_92 : decode cX8_block 92 = .ok (.lload_n 3, 1) := by decide +kernel
theorem dX8_block_93 : decode cX8_block 93 = .ok (.bipush 7, 2) := by decide +kernel
theorem dX8_block_95 : decode cX8_block 95 = .ok (.invokestatic 231, 3) := by decide +kernel
theorem dX8_block_98 : decode cX8_block 98 = .ok (.lload_n 3, 1) := by decide +kernel
theorem dX8_block_99 : decode cX8_block 99 = .ok (.bipush 18, 2) := by decide +kernel
theorem dX8_block_101 : decode cX8_block 101 = .ok (.invokestatic 231, 3) := by decide +kernel
theorem dX8_block_104 : decode cX8_block 104 = .ok (.lxor, 1) := by decide +kernel
theorem dX8_block_105 : decode cX8_block 105 = .ok (.lload_n 3, 1) := by decide +kernel
theorem dX8_block_106 : decode cX8_block 106 = .ok (.iconst 3, 1) := by decide +kernel
theorem dX8_block_107 : decode cX8_block 107 = .ok (.lshr, 1) := by decide +kernel
theorem dX8_block_108 : decode cX8_block 108 = .ok (.lxor, 1) := by decide +kernel
theorem dX8_block_109 : decode cX8_block 109 = .ok (.lstore 7, 2) := by decide +kernel
theorem dX8_block_111 : decode cX8_block 111 = .ok (.lload 5, 2) := by decide +kernel
theorem dX8_block_113 : decode cX8_block 113 = .ok (.bipush 17, 2) := by decide +kernel
theorem dX8_block_115 : decode cX8_block 115 = .ok (.invokestatic 231, 3) := by decide +kernel
theorem dX8_block_118 : decode cX8_block 118 = .ok (.lload 5, 2) := by decide +kernel
theorem dX8_block_120 : decode cX8_block 120 = .ok (.bipush 19, 2) := by decide +kernel
theorem dX8_block_122 : decode cX8_block 122 = .ok (.invokestatic 231, 3) := by decide +kernel
theorem dX8_block_125 : decode cX8_block 125 = .ok (.lxor, 1) := by decide +kernel
theorem dX8_block_126 : decode cX8_block 126 = .ok (.lload 5, 2) := by decide +kernel
theorem dX8_block_128 : decode cX8_block 128 = .ok (.bipush 10, 2) := by decide +kernel
theorem dX8_block_130 : decode cX8_block 130 = .ok (.lshr, 1) := by decide +kernel
theorem dX8_block_131 : decode cX8_block 131 = .ok (.lxor, 1) := by decide +kernel
theorem dX8_block_132 : decode cX8_block 132 = .ok (.lstore 9, 2) := by decide +kernel
theorem dX8_block_134 : decode cX8_block 134 = .ok (.aload_n 0, 1) := by decide +kernel
theorem dX8_block_135 : decode cX8_block 135 = .ok (.getfield 192, 3) := by decide +kernel
theorem dX8_block_138 : decode cX8_block 138 = .ok (.iload_n 2, 1) := by decide +kernel
theorem dX8_block_139 : decode cX8_block 139 = .ok (.aload_n 0, 1) := by decide +kernel
theorem dX8_block_140 : decode cX8_block 140 = .ok (.getfield 192, 3) := by decide +kernel
theorem dX8_block_143 : decode cX8_block 143 = .ok (.iload_n 2, 1) := by decide +kernel
theorem dX8_block_144 : decode cX8_block 144 = .ok (.bipush 16, 2) := by decide +kernel
theorem dX8_block_146 : decode cX8_block 146 = .ok (.isub, 1) := by decide +kernel
theorem dX8_block_147 : decode cX8_block 147 = .ok (.laload, 1) := by decide +kernel
theorem dX8_block_148 : decode cX8_block 148 = .ok (.lload 7, 2) := by decide +kernel
theorem dX8_block_150 : decode cX8_block 150 = .ok (.ladd, 1) := by decide +kernel
theorem dX8_block_151 : decode cX8_block 151 = .ok (.aload_n 0, 1) := by decide +kernel
theorem dX8_block_152 : decode cX8_block 152 = .ok (.getfield 192, 3) := by decide +kernel
theorem dX8_block_155 : decode cX8_block 155 = .ok (.iload_n 2, 1) := by decide +kernel
theorem dX8_block_156 : decode cX8_block 156 = .ok (.bipush 7, 2) := by decide +kernel
theorem dX8_block_158 : decode cX8_block 158 = .ok (.isub, 1) := by decide +kernel
theorem dX8_block_159 : decode cX8_block 159 = .ok (.laload, 1) := by decide +kernel
theorem dX8_block_160 : decode cX8_block 160 = .ok (.ladd, 1) := by decide +kernel
theorem dX8_block_161 : decode cX8_block 161 = .ok (.lload 9, 2) := by decide +kernel
theorem dX8_block_163 : decode cX8_block 163 = .ok (.ladd, 1) := by decide +kernel
theorem dX8_block_164 : decode cX8_block 164 = .ok (.ldc2_w 206, 3) := by decide +kernel
theorem dX8_block_167 : decode cX8_block 167 = .ok (.land, 1) := by decide +kernel
theorem dX8_block_168 : decode cX8_block 168 = .ok (.lastore, 1) := by decide +kernel
theorem dX8_block_169 : decode cX8_block 169 = .ok (.iinc 2 1, 3) := by decide +kernel
theorem dX8_block_172 : decode cX8_block 172 = .ok (.goto (-106), 3) := by decide +kernel
theorem dX8_block_175 : decode cX8_block 175 = .ok (.aload_n 0, 1) := by decide +kernel
theorem dX8_block_176 : decode cX8_block 176 = .ok (.getfield 189, 3) := by decide +kernel
theorem dX8_block_179 : decode cX8_block 179 = .ok (.iconst 0, 1) := by decide +kernel
theorem dX8_block_180 : decode cX8_block 180 = .ok (.laload, 1) := by decide +kernel
theorem dX8_block_181 : decode cX8_block 181 = .ok (.lstore_n 2, 1) := by decide +kernel
theorem dX8_block_182 : decode cX8_block 182 = .ok (.aload_n 0, 1) := by decide +kernel
theorem dX8_block_183 : decode cX8_block 183 = .ok (.getfield 189, 3) := by decide +kernel
theorem dX8_block_186 : decode cX8_block 186 = .ok (.iconst 1, 1) := by decide +kernel
theorem dX8_block_187 : decode cX8_block 187 = .ok (.laload, 1) := by decide +kernel
theorem dX8_block_188 : decode cX8_block 188 = .ok (.lstore 4, 2) := by decide +kernel
theorem dX8_block_190 : decode cX8_block 190 = .ok (.aload_n 0, 1) := by decide +kernel
theorem dX8_block_191 : decode cX8_block 191 = .ok (.getfield 189, 3) := by decide +kernel
theorem dX8_block_194 : decode cX8_block 194 = .ok (.iconst 2, 1) := by decide +kernel
theorem dX8_block_195 : decode cX8_block 195 = .ok (.laload, 1) := by decide +kernel
theorem dX8_block_196 : decode cX8_block 196 = .ok (.lstore 6, 2) := by decide +kernel
theorem dX8_block_198 : decode cX8_block 198 = .ok (.aload_n 0, 1) := by decide +kernel
theorem dX8_block_199 : decode cX8_block 199 = .ok (.getfield 189, 3) := by decide +kernel
theorem dX8_block_202 : decode cX8_block 202 = .ok (.iconst 3, 1) := by decide +kernel
theorem dX8_block_203 : decode cX8_block 203 = .ok (.laload, 1) := by decide +kernel
theorem dX8_block_204 : decode cX8_block 204 = .ok (.lstore 8, 2) := by decide +kernel
theorem dX8_block_206 : decode cX8_block 206 = .ok (.aload_n 0, 1) := by decide +kernel
theorem dX8_block_207 : decode cX8_block 207 = .ok (.getfield 189, 3) := by decide +kernel
theorem dX8_block_210 : decode cX8_block 210 = .ok (.iconst 4, 1) := by decide +kernel
theorem dX8_block_211 : decode cX8_block 211 = .ok (.laload, 1) := by decide +kernel
theorem dX8_block_212 : decode cX8_block 212 = .ok (.lstore 10, 2) := by decide +kernel
theorem dX8_block_214 : decode cX8_block 214 = .ok (.aload_n 0, 1) := by decide +kernel
theorem dX8_block_215 : decode cX8_block 215 = .ok (.getfield 189, 3) := by decide +kernel
theorem dX8_block_218 : decode cX8_block 218 = .ok (.iconst 5, 1) := by decide +kernel
theorem dX8_block_219 : decode cX8_block 219 = .ok (.laload, 1) := by decide +kernel
theorem dX8_block_220 : decode cX8_block 220 = .ok (.lstore 12, 2) := by decide +kernel
theorem dX8_block_222 : decode cX8_block 222 = .ok (.aload_n 0, 1) := by decide +kernel
theorem dX8_block_223 : decode cX8_block 223 = .ok (.getfield 189, 3) := by decide +kernel
theorem dX8_block_226 : decode cX8_block 226 = .ok (.bipush 6, 2) := by decide +kernel
theorem dX8_block_228 : decode cX8_block 228 = .ok (.laload, 1) := by decide +kernel
theorem dX8_block_229 : decode cX8_block 229 = .ok (.lstore 14, 2) := by decide +kernel
theorem dX8_block_231 : decode cX8_block 231 = .ok (.aload_n 0, 1) := by decide +kernel
theorem dX8_block_232 : decode cX8_block 232 = .ok (.getfield 189, 3) := by decide +kernel
theorem dX8_block_235 : decode cX8_block 235 = .ok (.bipush 7, 2) := by decide +kernel
theorem dX8_block_237 : decode cX8_block 237 = .ok (.laload, 1) := by decide +kernel
theorem dX8_block_238 : decode cX8_block 238 = .ok (.lstore 16, 2) := by decide +kernel
theorem dX8_block_240 : decode cX8_block 240 = .ok (.iconst 0, 1) := by decide +kernel
theorem dX8_block_241 : decode cX8_block 241 = .ok (.istore 18, 2) := by decide +kernel
theorem dX8_block_243 : decode cX8_block 243 = .ok (.iload 18, 2) := by decide +kernel
theorem dX8_block_245 : decode cX8_block 245 = .ok (.bipush 64, 2) := by decide +kernel
theorem dX8_block_247 : decode cX8_block 247 = .ok (.if_icmp .ge 150, 3) := by decide +kernel
theorem dX8_block_250 : decode cX8_block 250 = .ok (.lload 16, 2) := by decide +kernel
theorem dX8_block_252 : decode cX8_block 252 = .ok (.lload 10, 2) := by decide +kernel
theorem dX8_block_254 : decode cX8_block 254 = .ok (.bipush 6, 2) := by decide +kernel
theorem dX8_block_256 : decode cX8_block 256 = .ok (.invokestatic 231, 3) := by decide +kernel
theorem dX8_block_259 : decode cX8_block 259 = .ok (.lload 10, 2) := by decide +kernel
theorem dX8_block_261 : decode cX8_block 261 = .ok (.bipush 11, 2) := by decide +kernel
theorem dX8_block_263 : decode cX8_block 263 = .ok (.invokestatic 231, 3) := by decide +kernel
theorem dX8_block_266 : decode cX8_block 266 = .ok (.lxor, 1) := by decide +kernel
theorem dX8_block_267 : decode cX8_block 267 = .ok (.lload 10, 2) := by decide +kernel
theorem dX8_block_269 : decode cX8_block 269 = .ok (.bipush 25, 2) := by decide +kernel
theorem dX8_block_271 : decode cX8_block 271 = .ok (.invokestatic 231, 3) := by decide +kernel
theorem dX8_block_274 : decode cX8_block 274 = .ok (.lxor, 1) := by decide +kernel
theorem dX8_block_275 : decode cX8_block 275 = .ok (.ladd, 1) := by decide +kernel
theorem dX8_block_276 : decode cX8_block 276 = .ok (.lload 10, 2) := by decide +kernel
theorem dX8_block_278 : decode cX8_block 278 = .ok (.lload 12, 2) := by decide +kernel
theorem dX8_block_280 : decode cX8_block 280 = .ok (.land, 1) := by decide +kernel
theorem dX8_block_281 : decode cX8_block 281 = .ok (.ldc2_w 206, 3) := by decide +kernel
theorem dX8_block_284 : decode cX8_block 284 = .ok (.lload 10, 2) := by decide +kernel
theorem dX8_block_286 : decode cX8_block 286 = .ok (.lsub, 1) := by decide +kernel
theorem dX8_block_287 : decode cX8_block 287 = .ok (.lload 14, 2) := by decide +kernel
theorem dX8_block_289 : decode cX8_block 289 = .ok (.land, 1) := by decide +kernel
theorem dX8_block_290 : decode cX8_block 290 = .ok (.lxor, 1) := by decide +kernel
theorem dX8_block_291 : decode cX8_block 291 = .ok (.ladd, 1) := by decide +kernel
theorem dX8_block_292 : decode cX8_block 292 = .ok (.aload_n 0, 1) := by decide +kernel
theorem dX8_block_293 : decode cX8_block 293 = .ok (.getfield 141, 3) := by decide +kernel
theorem dX8_block_296 : decode cX8_block 296 = .ok (.iload 18, 2) := by decide +kernel
theorem dX8_block_298 : decode cX8_block 298 = .ok (.laload, 1) := by decide +kernel
theorem dX8_block_299 : decode cX8_block 299 = .ok (.ladd, 1) := by decide +kernel
theorem dX8_block_300 : decode cX8_block 300 = .ok (.aload_n 0, 1) := by decide +kernel
theorem dX8_block_301 : decode cX8_block 301 = .ok (.getfield 192, 3) := by decide +kernel
theorem dX8_block_304 : decode cX8_block 304 = .ok (.iload 18, 2) := by decide +kernel
theorem dX8_block_306 : decode cX8_block 306 = .ok (.laload, 1) := by decide +kernel
theorem dX8_block_307 : decode cX8_block 307 = .ok (.ladd, 1) := by decide +kernel
theorem dX8_block_308 : decode cX8_block 308 = .ok (.lstore 19, 2) := by decide +kernel
theorem dX8_block_310 : decode cX8_block 310 = .ok (.lload_n 2, 1) := by decide +kernel
theorem dX8_block_311 : decode cX8_block 311 = .ok (.iconst 2, 1) := by decide +kernel
theorem dX8_block_312 : decode cX8_block 312 = .ok (.invokestatic 231, 3) := by decide +kernel
theorem dX8_block_315 : decode cX8_block 315 = .ok (.lload_n 2, 1) := by decide +kernel
theorem dX8_block_316 : decode cX8_block 316 = .ok (.bipush 13, 2) := by decide +kernel
theorem dX8_block_318 : decode cX8_block 318 = .ok (.invokestatic 231, 3) := by decide +kernel
theorem dX8_block_321 : decode cX8_block 321 = .ok (.lxor, 1) := by decide +kernel
theorem dX8_block_322 : decode cX8_block 322 = .ok (.lload_n 2, 1) := by decide +kernel
theorem dX8_block_323 : decode cX8_block 323 = .ok (.bipush 22, 2) := by decide +kernel
theorem dX8_block_325 : decode cX8_block 325 = .ok (.invokestatic 231, 3) := by decide +kernel
theorem dX8_block_328 : decode cX8_block 328 = .ok (.lxor, 1) := by decide +kernel
theorem dX8_block_329 : decode cX8_block 329 = .ok (.lload_n 2, 1) := by decide +kernel
theorem dX8_block_330 : decode cX8_block 330 = .ok (.lload 4, 2) := by decide +kernel
theorem dX8_block_332 : decode cX8_block 332 = .ok (.land, 1) := by decide +kernel
theorem dX8_block_333 : decode cX8_block 333 = .ok (.lload_n 2, 1) := by decide +kernel
theorem dX8_block_334 : decode cX8_block 334 = .ok (.lload 6, 2) := by decide +kernel
theorem dX8_block_336 : decode cX8_block 336 = .ok (.land, 1) := by decide +kernel
theorem dX8_block_337 : decode cX8_block 337 = .ok (.lxor, 1) := by decide +kernel
theorem dX8_block_338 : decode cX8_block 338 = .ok (.lload 4, 2) := by decide +kernel
theorem dX8_block_340 : decode cX8_block 340 = .ok (.lload 6, 2) := by decide +kernel
theorem dX8_block_342 : decode cX8_block 342 = .ok (.land, 1) := by decide +kernel
theorem dX8_block_343 : decode cX8_block 343 = .ok (.lxor, 1) := by decide +kernel
theorem dX8_block_344 : decode cX8_block 344 = .ok (.ladd, 1) := by decide +kernel
theorem dX8_block_345 : decode cX8_block 345 = .ok (.lstore 21, 2) := by decide +kernel
theorem dX8_block_347 : decode cX8_block 347 = .ok (.lload 14, 2) := by decide +kernel
theorem dX8_block_349 : decode cX8_block 349 = .ok (.lstore 16, 2) := by decide +kernel
theorem dX8_block_351 : decode cX8_block 351 = .ok (.lload 12, 2) := by decide +kernel
theorem dX8_block_353 : decode cX8_block 353 = .ok (.lstore 14, 2) := by decide +kernel
theorem dX8_block_355 : decode cX8_block 355 = .ok (.lload 10, 2) := by decide +kernel
theorem dX8_block_357 : decode cX8_block 357 = .ok (.lstore 12, 2) := by decide +kernel
theorem dX8_block_359 : decode cX8_block 359 = .ok (.lload 8, 2) := by decide +kernel
theorem dX8_block_361 : decode cX8_block 361 = .ok (.lload 19, 2) := by decide +kernel
theorem dX8_block_363 : decode cX8_block 363 = .ok (.ladd, 1) := by decide +kernel
theorem dX8_block_364 : decode cX8_block 364 = .ok (.ldc2_w 206, 3) := by decide +kernel
theorem dX8_block_367 : decode cX8_block 367 = .ok (.land, 1) := by decide +kernel
theorem dX8_block_368 : decode cX8_block 368 = .ok (.lstore 10, 2) := by decide +kernel
theorem dX8_block_370 : decode cX8_block 370 = .ok (.lload 6, 2) := by decide +kernel
theorem dX8_block_372 : decode cX8_block 372 = .ok (.lstore 8, 2) := by decide +kernel
theorem dX8_block_374 : decode cX8_block 374 = .ok (.lload 4, 2) := by decide +kernel
theorem dX8_block_376 : decode cX8_block 376 = .ok (.lstore 6, 2) := by decide +kernel
theorem dX8_block_378 : decode cX8_block 378 = .ok (.lload_n 2, 1) := by decide +kernel
theorem dX8_block_379 : decode cX8_block 379 = .ok (.lstore 4, 2) := by decide +kernel
theorem dX8_block_381 : decode cX8_block 381 = .ok (.lload 19, 2) := by decide +kernel
theorem dX8_block_383 : decode cX8_block 383 = .ok (.lload 21, 2) := by decide +kernel
theorem dX8_block_385 : decode cX8_block 385 = .ok (.ladd, 1) := by decide +kernel
theorem dX8_block_386 : decode cX8_block 386 = .ok (.ldc2_w 206, 3) := by decide +kernel
theorem dX8_block_389 : decode cX8_block 389 = .ok (.land, 1) := by decide +kernel
theorem dX8_block_390 : decode cX8_block 390 = .ok (.lstore_n 2, 1) := by decide +kernel
theorem dX8_block_391 : decode cX8_block 391 = .ok (.iinc 18 1, 3) := by decide +kernel
theorem dX8_block_394 : decode cX8_block 394 = .ok (.goto (-151), 3) := by decide +kernel
theorem dX8_block_397 : decode cX8_block 397 = .ok (.aload_n 0, 1) := by decide +kernel
theorem dX8_block_398 : decode cX8_block 398 = .ok (.getfield 189, 3) := by decide +kernel
theorem dX8_block_401 : decode cX8_block 401 = .ok (.iconst 0, 1) := by decide +kernel
theorem dX8_block_402 : decode cX8_block 402 = .ok (.aload_n 0, 1) := by decide +kernel
theorem dX8_block_403 : decode cX8_block 403 = .ok (.getfield 189, 3) := by decide +kernel
theorem dX8_block_406 : decode cX8_block 406 = .ok (.iconst 0, 1) := by decide +kernel
theorem dX8_block_407 : decode cX8_block 407 = .ok (.laload, 1) := by decide +kernel
theorem dX8_block_408 : decode cX8_block 408 = .ok (.lload_n 2, 1) := by decide +kernel
theorem dX8_block_409 : decode cX8_block 409 = .ok (.ladd, 1) := by decide +kernel
theorem dX8_block_410 : decode cX8_block 410 = .ok (.ldc2_w 206, 3) := by decide +kernel
theorem dX8_block_413 : decode cX8_block 413 = .ok (.land, 1) := by decide +kernel
theorem dX8_block_414 : decode cX8_block 414 = .ok (.lastore, 1) := by decide +kernel
theorem dX8_block_415 : decode cX8_block 415 = .ok (.aload_n 0, 1) := by decide +kernel
theorem dX8_block_416 : decode cX8_block 416 = .ok (.getfield 189, 3) := by decide +kernel
theorem dX8_block_419 : decode cX8_block 419 = .ok (.iconst 1, 1) := by decide +kernel
theorem dX8_block_420 : decode cX8_block 420 = .ok (.aload_n 0, 1) := by decide +kernel
theorem dX8_block_421 : decode cX8_block 421 = .ok (.getfield 189, 3) := by decide +kernel
theorem dX8_block_424 : decode cX8_block 424 = .ok (.iconst 1, 1) := by decide +kernel
theorem dX8_block_425 : decode cX8_block 425 = .ok (.laload, 1) := by decide +kernel
theorem dX8_block_426 : decode cX8_block 426 = .ok (.lload 4, 2) := by decide +kernel
theorem dX8_block_428 : decode cX8_block 428 = .ok (.ladd, 1) := by decide +kernel
theorem dX8_block_429 : decode cX8_block 429 = .ok (.ldc2_w 206, 3) := by decide +kernel
theorem dX8_block_432 : decode cX8_block 432 = .ok (.land, 1) := by decide +kernel
theorem dX8_block_433 : decode cX8_block 433 = .ok (.lastore, 1) := by decide +kernel
theorem dX8_block_434 : decode cX8_block 434 = .ok (.aload_n 0, 1) := by decide +kernel
theorem dX8_block_435 : decode cX8_block 435 = .ok (.getfield 189, 3) := by decide +kernel
theorem dX8_block_438 : decode cX8_block 438 = .ok (.iconst 2, 1) := by decide +kernel
theorem dX8_block_439 : decode cX8_block 439 = .ok (.aload_n 0, 1) := by decide +kernel
theorem dX8_block_440 : decode cX8_block 440 = .ok (.getfield 189, 3) := by decide +kernel
theorem dX8_block_443 : decode cX8_block 443 = .ok (.iconst 2, 1) := by decide +kernel
theorem dX8_block_444 : decode cX8_block 444 = .ok (.laload, 1) := by decide +kernel
theorem dX8_block_445 : decode cX8_block 445 = .ok (.lload 6, 2) := by decide +kernel
theorem dX8_block_447 : decode cX8_block 447 = .ok (.ladd, 1) := by decide +kernel
theorem dX8_block_448 : decode cX8_block 448 = .ok (.ldc2_w 206, 3) := by decide +kernel
theorem dX8_block_451 : decode cX8_block 451 = .ok (.land, 1) := by decide +kernel
theorem dX8_block_452 : decode cX8_block 452 = .ok (.lastore, 1) := by decide +kernel
theorem dX8_block_453 : decode cX8_block 453 = .ok (.aload_n 0, 1) := by decide +kernel
theorem dX8_block_454 : decode cX8_block 454 = .ok (.getfield 189, 3) := by decide +kernel
theorem dX8_block_457 : decode cX8_block 457 = .ok (.iconst 3, 1) := by decide +kernel
theorem dX8_block_458 : decode cX8_block 458 = .ok (.aload_n 0, 1) := by decide +kernel
theorem dX8_block_459 : decode cX8_block 459 = .ok (.getfield 189, 3) := by decide +kernel
theorem dX8_block_462 : decode cX8_block 462 = .ok (.iconst 3, 1) := by decide +kernel
theorem dX8_block_463 : decode cX8_block 463 = .ok (.laload, 1) := by decide +kernel
theorem dX8_block_464 : decode cX8_block 464 = .ok (.lload 8, 2) := by decide +kernel
theorem dX8_block_466 : decode cX8_block 466 = .ok (.ladd, 1) := by decide +kernel
theorem dX8_block_467 : decode cX8_block 467 = .ok (.ldc2_w 206, 3) := by decide +kernel
theorem dX8_block_470 : decode cX8_block 470 = .ok (.land, 1) := by decide +kernel
theorem dX8_block_471 : decode cX8_block 471 = .ok (.lastore, 1) := by decide +kernel
theorem dX8_block_472 : decode cX8_block 472 = .ok (.aload_n 0, 1) := by decide +kernel
theorem dX8_block_473 : decode cX8_block 473 = .ok (.getfield 189, 3) := by decide +kernel
theorem dX8_block_476 : decode cX8_block 476 = .ok (.iconst 4, 1) := by decide +kernel
theorem dX8_block_477 : decode cX8_block 477 = .ok (.aload_n 0, 1) := by decide +kernel
theorem dX8_block_478 : decode cX8_block 478 = .ok (.getfield 189, 3) := by decide +kernel
theorem dX8_block_481 : decode cX8_block 481 = .ok (.iconst 4, 1) := by decide +kernel
theorem dX8_block_482 : decode cX8_block 482 = .ok (.laload, 1) := by decide +kernel
theorem dX8_block_483 : decode cX8_block 483 = .ok (.lload 10, 2) := by decide +kernel
theorem dX8_block_485 : decode cX8_block 485 = .ok (.ladd, 1) := by decide +kernel
theorem dX8_block_486 : decode cX8_block 486 = .ok (.ldc2_w 206, 3) := by decide +kernel
theorem dX8_block_489 : decode cX8_block 489 = .ok (.land, 1) := by decide +kernel
theorem dX8_block_490 : decode cX8_block 490 = .ok (.lastore, 1) := by decide +kernel
theorem dX8_block_491 : decode cX8_block 491 = .ok (.aload_n 0, 1) := by decide +kernel
theorem dX8_block_492 : decode cX8_block 492 = .ok (.getfield 189, 3) := by decide +kernel
theorem dX8_block_495 : decode cX8_block 495 = .ok (.iconst 5, 1) := by decide +kernel
theorem dX8_block_496 : decode cX8_block 496 = .ok (.aload_n 0, 1) := by decide +kernel
theorem dX8_block_497 : decode cX8_block 497 = .ok (.getfield 189, 3) := by decide +kernel
theorem dX8_block_500 : decode cX8_block 500 = .ok (.iconst 5, 1) := by decide +kernel
theorem dX8_block_501 : decode cX8_block 501 = .ok (.laload, 1) := by decide +kernel
theorem dX8_block_502 : decode cX8_block 502 = .ok (.lload 12, 2) := by decide +kernel
theorem dX8_block_504 : decode cX8_block 504 = .ok (.ladd, 1) := by decide +kernel
theorem dX8_block_505 : decode cX8_block 505 = .ok (.ldc2_w 206, 3) := by decide +kernel
theorem dX8_block_508 : decode cX8_block 508 = .ok (.land, 1) := by decide +kernel
theorem dX8_block_509 : decode cX8_block 509 = .ok (.lastore, 1) := by decide +kernel
theorem dX8_block_510 : decode cX8_block 510 = .ok (.aload_n 0, 1) := by decide +kernel
theorem dX8_block_511 : decode cX8_block 511 = .ok (.getfield 189, 3) := by decide +kernel
theorem dX8_block_514 : decode cX8_block 514 = .ok (.bipush 6, 2) := by decide +kernel
theorem dX8_block_516 : decode cX8_block 516 = .ok (.aload_n 0, 1) := by decide +kernel
theorem dX8_block_517 : decode cX8_block 517 = .ok (.getfield 189, 3) := by decide +kernel
theorem dX8_block_520 : decode cX8_block 520 = .ok (.bipush 6, 2) := by decide +kernel
theorem dX8_block_522 : decode cX8_block 522 = .ok (.laload, 1) := by decide +kernel
theorem dX8_block_523 : decode cX8_block 523 = .ok (.lload 14, 2) := by decide +kernel
theorem dX8_block_525 : decode cX8_block 525 = .ok (.ladd, 1) := by decide +kernel
theorem dX8_block_526 : decode cX8_block 526 = .ok (.ldc2_w 206, 3) := by decide +kernel
theorem dX8_block_529 : decode cX8_block 529 = .ok (.land, 1) := by decide +kernel
theorem dX8_block_530 : decode cX8_block 530 = .ok (.lastore, 1) := by decide +kernel
theorem dX8_block_531 : decode cX8_block 531 = .ok (.aload_n 0, 1) := by decide +kernel
theorem dX8_block_532 : decode cX8_block 532 = .ok (.getfield 189, 3) := by decide +kernel
theorem dX8_block_535 : decode cX8_block 535 = .ok (.bipush 7, 2) := by decide +kernel
theorem dX8_block_537 : decode cX8_block 537 = .ok (.aload_n 0, 1) := by decide +kernel
theorem dX8_block_538 : decode cX8_block 538 = .ok (.getfield 189, 3) := by decide +kernel
theorem dX8_block_541 : decode cX8_block 541 = .ok (.bipush 7, 2) := by decide +kernel
theorem dX8_block_543 : decode cX8_block 543 = .ok (.laload, 1) := by decide +kernel
theorem dX8_block_544 : decode cX8_block 544 = .ok (.lload 16, 2) := by decide +kernel
theorem dX8_block_546 : decode cX8_block 546 = .ok (.ladd, 1) := by decide +kernel
theorem dX8_block_547 : decode cX8_block 547 = .ok (.ldc2_w 206, 3) := by decide +kernel
theorem dX8_block_550 : decode cX8_block 550 = .ok (.land, 1) := by decide +kernel
theorem dX8_block_551 : decode cX8_block 551 = .ok (.lastore, 1) := by decide +kernel
theorem dX8_block_552 : decode cX8_block 552 = .ok (.return_, 1) := by decide +kernel
theorem dX8_octetsOf_0 : decode cX8_octetsOf 0 = .ok (.iconst 0, 1) := by decide +kernel
theorem dX8_octetsOf_1 : decode cX8_octetsOf 1 = .ok (.istore_n 1, 1) := by decide +kernel
theorem dX8_octetsOf_2 : decode cX8_octetsOf 2 = .ok (.iload_n 1, 1) := by decide +kernel
theorem dX8_octetsOf_3 : decode cX8_octetsOf 3 = .ok (.bipush 32, 2) := by decide +kernel
theorem dX8_octetsOf_5 : decode cX8_octetsOf 5 = .ok (.if_icmp .ge 35, 3) := by decide +kernel
theorem dX8_octetsOf_8 : decode cX8_octetsOf 8 = .ok (.aload_n 0, 1) := by decide +kernel
theorem dX8_octetsOf_9 : decode cX8_octetsOf 9 = .ok (.getfield 179, 3) := by decide +kernel
theorem dX8_octetsOf_12 : decode cX8_octetsOf 12 = .ok (.iload_n 1, 1) := by decide +kernel
theorem dX8_octetsOf_13 : decode cX8_octetsOf 13 = .ok (.aload_n 0, 1) := by decide +kernel
theorem dX8_octetsOf_14 : decode cX8_octetsOf 14 = .ok (.getfield 189, 3) := by decide +kernel
theorem dX8_octetsOf_17 : decode cX8_octetsOf 17 = .ok (.iload_n 1, 1) := by decide +kernel
theorem dX8_octetsOf_18 : decode cX8_octetsOf 18 = .ok (.iconst 4, 1) := by decide +kernel
theorem dX8_octetsOf_19 : decode cX8_octetsOf 19 = .ok (.idiv, 1) := by decide +kernel
theorem dX8_octetsOf_20 : decode cX8_octetsOf 20 = .ok (.laload, 1) := by decide +kernel
theorem dX8_octetsOf_21 : decode cX8_octetsOf 21 = .ok (.bipush 24, 2) := by decide +kernel
theorem dX8_octetsOf_23 : decode cX8_octetsOf 23 = .ok (.bipush 8, 2) := by decide +kernel
theorem dX8_octetsOf_25 : decode cX8_octetsOf 25 = .ok (.iload_n 1, 1) := by decide +kernel
theorem dX8_octetsOf_26 : decode cX8_octetsOf 26 = .ok (.iconst 4, 1) := by decide +kernel
theorem dX8_octetsOf_27 : decode cX8_octetsOf 27 = .ok (.irem, 1) := by decide +kernel
theorem dX8_octetsOf_28 : decode cX8_octetsOf 28 = .ok (.imul, 1) := by decide +kernel
theorem dX8_octetsOf_29 : decode cX8_octetsOf 29 = .ok (.isub, 1) := by decide +kernel
theorem dX8_octetsOf_30 : decode cX8_octetsOf 30 = .ok (.lshr, 1) := by decide +kernel
theorem dX8_octetsOf_31 : decode cX8_octetsOf 31 = .ok (.l2i, 1) := by decide +kernel
theorem dX8_octetsOf_32 : decode cX8_octetsOf 32 = .ok (.i2b, 1) := by decide +kernel
theorem dX8_octetsOf_33 : decode cX8_octetsOf 33 = .ok (.bastore, 1) := by decide +kernel
theorem dX8_octetsOf_34 : decode cX8_octetsOf 34 = .ok (.iinc 1 1, 3) := by decide +kernel
theorem dX8_octetsOf_37 : decode cX8_octetsOf 37 = .ok (.goto (-35), 3) := by decide +kernel
theorem dX8_octetsOf_40 : decode cX8_octetsOf 40 = .ok (.return_, 1) := by decide +kernel
theorem dX8_say_0 : decode cX8_say 0 = .ok (.aload_n 0, 1) := by decide +kernel
theorem dX8_say_1 : decode cX8_say 1 = .ok (.getfield 186, 3) := by decide +kernel
theorem dX8_say_4 : decode cX8_say 4 = .ok (.aload_n 0, 1) := by decide +kernel
theorem dX8_say_5 : decode cX8_say 5 = .ok (.getfield 235, 3) := by decide +kernel
theorem dX8_say_8 : decode cX8_say 8 = .ok (.iload_n 1, 1) := by decide +kernel
theorem dX8_say_9 : decode cX8_say 9 = .ok (.i2b, 1) := by decide +kernel
theorem dX8_say_10 : decode cX8_say 10 = .ok (.bastore, 1) := by decide +kernel
theorem dX8_say_11 : decode cX8_say 11 = .ok (.aload_n 0, 1) := by decide +kernel
theorem dX8_say_12 : decode cX8_say 12 = .ok (.dup, 1) := by decide +kernel
theorem dX8_say_13 : decode cX8_say 13 = .ok (.getfield 235, 3) := by decide +kernel
theorem dX8_say_16 : decode cX8_say 16 = .ok (.iconst 1, 1) := by decide +kernel
theorem dX8_say_17 : decode cX8_say 17 = .ok (.iadd, 1) := by decide +kernel
theorem dX8_say_18 : decode cX8_say 18 = .ok (.putfield 235, 3) := by decide +kernel
theorem dX8_say_21 : decode cX8_say 21 = .ok (.return_, 1) := by decide +kernel
theorem dX8_sayNumber_0 : decode cX8_sayNumber 0 = .ok (.iconst 3, 1) := by decide +kernel
theorem dX8_sayNumber_1 : decode cX8_sayNumber 1 = .ok (.istore_n 3, 1) := by decide +kernel
theorem dX8_sayNumber_2 : decode cX8_sayNumber 2 = .ok (.iload_n 3, 1) := by decide +kernel
theorem dX8_sayNumber_3 : decode cX8_sayNumber 3 = .ok (.ifCond .lt 20, 3) := by decide +kernel
theorem dX8_sayNumber_6 : decode cX8_sayNumber 6 = .ok (.aload_n 0, 1) := by decide +kernel
theorem dX8_sayNumber_7 : decode cX8_sayNumber 7 = .ok (.lload_n 1, 1) := by decide +kernel
theorem dX8_sayNumber_8 : decode cX8_sayNumber 8 = .ok (.bipush 8, 2) := by decide +kernel
theorem dX8_sayNumber_10 : decode cX8_sayNumber 10 = .ok (.iload_n 3, 1) := by decide +kernel
theorem dX8_sayNumber_11 : decode cX8_sayNumber 11 = .ok (.imul, 1) := by decide +kernel
theorem dX8_sayNumber_12 : decode cX8_sayNumber 12 = .ok (.lshr, 1) := by decide +kernel
theorem dX8_sayNumber_13 : decode cX8_sayNumber 13 = .ok (.l2i, 1) := by decide +kernel
theorem dX8_sayNumber_14 : decode cX8_sayNumber 14 = .ok (.invokevirtual 238, 3) := by decide +kernel
theorem dX8_sayNumber_17 : decode cX8_sayNumber 17 = .ok (.iinc 3 (-1), 3) := by decide +kernel
theorem dX8_sayNumber_20 : decode cX8_sayNumber 20 = .ok (.goto (-18), 3) := by decide +kernel
theorem dX8_sayNumber_23 : decode cX8_sayNumber 23 = .ok (.return_, 1) := by decide +kernel
theorem dX8_at_0 : decode cX8_at 0 = .ok (.bipush 120, 2) := by decide +kernel
theorem dX8_at_2 : decode cX8_at 2 = .ok (.iload_n 0, 1) := by decide +kernel
theorem dX8_at_3 : decode cX8_at 3 = .ok (.imul, 1) := by decide +kernel
theorem dX8_at_4 : decode cX8_at 4 = .ok (.iconst 3, 1) := by decide +kernel
theorem dX8_at_5 : decode cX8_at 5 = .ok (.iload_n 1, 1) := by decide +kernel
theorem dX8_at_6 : decode cX8_at 6 = .ok (.imul, 1) := by decide +kernel
theorem dX8_at_7 : decode cX8_at 7 = .ok (.iadd, 1) := by decide +kernel
theorem dX8_at_8 : decode cX8_at 8 = .ok (.ireturn, 1) := by decide +kernel
theorem dX8_blank_0 : decode cX8_blank 0 = .ok (.aload_n 0, 1) := by decide +kernel
theorem dX8_blank_1 : decode cX8_blank 1 = .ok (.iconst 0, 1) := by decide +kernel
theorem dX8_blank_2 : decode cX8_blank 2 = .ok (.putfield 1, 3) := by decide +kernel
theorem dX8_blank_5 : decode cX8_blank 5 = .ok (.aload_n 0, 1) := by decide +kernel
theorem dX8_blank_6 : decode cX8_blank 6 = .ok (.getfield 145, 3) := by decide +kernel
theorem dX8_blank_9 : decode cX8_blank 9 = .ok (.bipush 8, 2) := by decide +kernel
theorem dX8_blank_11 : decode cX8_blank 11 = .ok (.iaload, 1) := by decide +kernel
theorem dX8_blank_12 : decode cX8_blank 12 = .ok (.bipush 8, 2) := by decide +kernel
theorem dX8_blank_14 : decode cX8_blank 14 = .ok (.if_icmp .ne 6, 3) := by decide +kernel
theorem dX8_blank_17 : decode cX8_blank 17 = .ok (.bipush (-2), 2) := by decide +kernel
theorem dX8_blank_19 : decode cX8_blank 19 = .ok (.ireturn, 1) := by decide +kernel
theorem dX8_blank_20 : decode cX8_blank 20 = .ok (.aload_n 0, 1) := by decide +kernel
theorem dX8_blank_21 : decode cX8_blank 21 = .ok (.getfield 145, 3) := by decide +kernel
theorem dX8_blank_24 : decode cX8_blank 24 = .ok (.bipush 8, 2) := by decide +kernel
theorem dX8_blank_26 : decode cX8_blank 26 = .ok (.dup2, 1) := by decide +kernel
theorem dX8_blank_27 : decode cX8_blank 27 = .ok (.iaload, 1) := by decide +kernel
theorem dX8_blank_28 : decode cX8_blank 28 = .ok (.iconst 1, 1) := by decide +kernel
theorem dX8_blank_29 : decode cX8_blank 29 = .ok (.iadd, 1) := by decide +kernel
theorem dX8_blank_30 : decode cX8_blank 30 = .ok (.iastore, 1) := by decide +kernel
theorem dX8_blank_31 : decode cX8_blank 31 = .ok (.aload_n 0, 1) := by decide +kernel
theorem dX8_blank_32 : decode cX8_blank 32 = .ok (.iconst 0, 1) := by decide +kernel
theorem dX8_blank_33 : decode cX8_blank 33 = .ok (.putfield 241, 3) := by decide +kernel
theorem dX8_blank_36 : decode cX8_blank 36 = .ok (.aload_n 0, 1) := by decide +kernel
theorem dX8_blank_37 : decode cX8_blank 37 = .ok (.getfield 145, 3) := by decide +kernel
end
section
theorem dX8_blank_40 : decode cX8_blank 40 = .ok (.bipush 8, 2) := by decide +kernel
theorem dX8_blank_42 : decode cX8_blank 42 = .ok (.iaload, 1) := by decide +kernel
theorem dX8_blank_43 : decode cX8_blank 43 = .ok (.ireturn, 1) := by decide +kernel
theorem dX8_isPoint_0 : decode cX8_isPoint 0 = .ok (.iload_n 1, 1) := by decide +kernel
theorem dX8_isPoint_1 : decode cX8_isPoint 1 = .ok (.ifCond .le 18, 3) := by decide +kernel
theorem dX8_isPoint_4 : decode cX8_isPoint 4 = .ok (.iload_n 1, 1) := by decide +kernel
theorem dX8_isPoint_5 : decode cX8_isPoint 5 = .ok (.sipush 1000, 3) := by decide +kernel
theorem dX8_isPoint_8 : decode cX8_isPoint 8 = .ok (.if_icmp .gt 7, 3) := by decide +kernel
theorem dX8_isPoint_11 : decode cX8_isPoint 11 = .ok (.iconst 1, 1) := by decide +kernel
theorem dX8_isPoint_12 : decode cX8_isPoint 12 = .ok (.goto 28, 3) := by decide +kernel
theorem dX8_isPoint_15 : decode cX8_isPoint 15 = .ok (.iconst 0, 1) := by decide +kernel
theorem dX8_isPoint_16 : decode cX8_isPoint 16 = .ok (.goto 24, 3) := by decide +kernel
theorem dX8_isPoint_19 : decode cX8_isPoint 19 = .ok (.iload_n 1, 1) := by decide +kernel
theorem dX8_isPoint_20 : decode cX8_isPoint 20 = .ok (.ifCond .ge 19, 3) := by decide +kernel
theorem dX8_isPoint_23 : decode cX8_isPoint 23 = .ok (.iload_n 1, 1) := by decide +kernel
theorem dX8_isPoint_24 : decode cX8_isPoint 24 = .ok (.aload_n 0, 1) := by decide +kernel
theorem dX8_isPoint_25 : decode cX8_isPoint 25 = .ok (.getfield 145, 3) := by decide +kernel
theorem dX8_isPoint_28 : decode cX8_isPoint 28 = .ok (.bipush 8, 2) := by decide +kernel
theorem dX8_isPoint_30 : decode cX8_isPoint 30 = .ok (.iaload, 1) := by decide +kernel
theorem dX8_isPoint_31 : decode cX8_isPoint 31 = .ok (.ineg, 1) := by decide +kernel
theorem dX8_isPoint_32 : decode cX8_isPoint 32 = .ok (.if_icmp .lt 7, 3) := by decide +kernel
theorem dX8_isPoint_35 : decode cX8_isPoint 35 = .ok (.iconst 1, 1) := by decide +kernel
theorem dX8_isPoint_36 : decode cX8_isPoint 36 = .ok (.goto 4, 3) := by decide +kernel
theorem dX8_isPoint_39 : decode cX8_isPoint 39 = .ok (.iconst 0, 1) := by decide +kernel
theorem dX8_isPoint_40 : decode cX8_isPoint 40 = .ok (.ireturn, 1) := by decide +kernel
theorem dX8_find_0 : decode cX8_find 0 = .ok (.iconst 0, 1) := by decide +kernel
theorem dX8_find_1 : decode cX8_find 1 = .ok (.istore 5, 2) := by decide +kernel
theorem dX8_find_3 : decode cX8_find 3 = .ok (.iload 5, 2) := by decide +kernel
theorem dX8_find_5 : decode cX8_find 5 = .ok (.aload_n 0, 1) := by decide +kernel
theorem dX8_find_6 : decode cX8_find 6 = .ok (.getfield 149, 3) := by decide +kernel
theorem dX8_find_9 : decode cX8_find 9 = .ok (.iload_n 1, 1) := by decide +kernel
theorem dX8_find_10 : decode cX8_find 10 = .ok (.iaload, 1) := by decide +kernel
theorem dX8_find_11 : decode cX8_find 11 = .ok (.if_icmp .ge 58, 3) := by decide +kernel
theorem dX8_find_14 : decode cX8_find 14 = .ok (.iload_n 1, 1) := by decide +kernel
theorem dX8_find_15 : decode cX8_find 15 = .ok (.iload 5, 2) := by decide +kernel
theorem dX8_find_17 : decode cX8_find 17 = .ok (.invokestatic 245, 3) := by decide +kernel
theorem dX8_find_20 : decode cX8_find 20 = .ok (.istore 6, 2) := by decide +kernel
theorem dX8_find_22 : decode cX8_find 22 = .ok (.aload_n 0, 1) := by decide +kernel
theorem dX8_find_23 : decode cX8_find 23 = .ok (.getfield 152, 3) := by decide +kernel
theorem dX8_find_26 : decode cX8_find 26 = .ok (.iload 6, 2) := by decide +kernel
theorem dX8_find_28 : decode cX8_find 28 = .ok (.iaload, 1) := by decide +kernel
theorem dX8_find_29 : decode cX8_find 29 = .ok (.iload_n 2, 1) := by decide +kernel
theorem dX8_find_30 : decode cX8_find 30 = .ok (.if_icmp .ne 33, 3) := by decide +kernel
theorem dX8_find_33 : decode cX8_find 33 = .ok (.aload_n 0, 1) := by decide +kernel
theorem dX8_find_34 : decode cX8_find 34 = .ok (.getfield 152, 3) := by decide +kernel
theorem dX8_find_37 : decode cX8_find 37 = .ok (.iload 6, 2) := by decide +kernel
theorem dX8_find_39 : decode cX8_find 39 = .ok (.iconst 1, 1) := by decide +kernel
theorem dX8_find_40 : decode cX8_find 40 = .ok (.iadd, 1) := by decide +kernel
theorem dX8_find_41 : decode cX8_find 41 = .ok (.iaload, 1) := by decide +kernel
theorem dX8_find_42 : decode cX8_find 42 = .ok (.iload_n 3, 1) := by decide +kernel
theorem dX8_find_43 : decode cX8_find 43 = .ok (.if_icmp .ne 20, 3) := by decide +kernel
theorem dX8_find_46 : decode cX8_find 46 = .ok (.aload_n 0, 1) := by decide +kernel
theorem dX8_find_47 : decode cX8_find 47 = .ok (.getfield 152, 3) := by decide +kernel
theorem dX8_find_50 : decode cX8_find 50 = .ok (.iload 6, 2) := by decide +kernel
theorem dX8_find_52 : decode cX8_find 52 = .ok (.iconst 2, 1) := by decide +kernel
theorem dX8_find_53 : decode cX8_find 53 = .ok (.iadd, 1) := by decide +kernel
theorem dX8_find_54 : decode cX8_find 54 = .ok (.iaload, 1) := by decide +kernel
theorem dX8_find_55 : decode cX8_find 55 = .ok (.iload 4, 2) := by decide +kernel
theorem dX8_find_57 : decode cX8_find 57 = .ok (.if_icmp .ne 6, 3) := by decide +kernel
theorem dX8_find_60 : decode cX8_find 60 = .ok (.iload 5, 2) := by decide +kernel
theorem dX8_find_62 : decode cX8_find 62 = .ok (.ireturn, 1) := by decide +kernel
theorem dX8_find_63 : decode cX8_find 63 = .ok (.iinc 5 1, 3) := by decide +kernel
theorem dX8_find_66 : decode cX8_find 66 = .ok (.goto (-63), 3) := by decide +kernel
theorem dX8_find_69 : decode cX8_find 69 = .ok (.iconst (-1), 1) := by decide +kernel
theorem dX8_find_70 : decode cX8_find 70 = .ok (.ireturn, 1) := by decide +kernel
theorem dX8_triple_0 : decode cX8_triple 0 = .ok (.aload_n 0, 1) := by decide +kernel
theorem dX8_triple_1 : decode cX8_triple 1 = .ok (.iconst 0, 1) := by decide +kernel
theorem dX8_triple_2 : decode cX8_triple 2 = .ok (.putfield 1, 3) := by decide +kernel
theorem dX8_triple_5 : decode cX8_triple 5 = .ok (.aload_n 0, 1) := by decide +kernel
theorem dX8_triple_6 : decode cX8_triple 6 = .ok (.iload_n 1, 1) := by decide +kernel
theorem dX8_triple_7 : decode cX8_triple 7 = .ok (.invokevirtual 249, 3) := by decide +kernel
theorem dX8_triple_10 : decode cX8_triple 10 = .ok (.ifCond .eq 19, 3) := by decide +kernel
theorem dX8_triple_13 : decode cX8_triple 13 = .ok (.aload_n 0, 1) := by decide +kernel
theorem dX8_triple_14 : decode cX8_triple 14 = .ok (.iload_n 2, 1) := by decide +kernel
theorem dX8_triple_15 : decode cX8_triple 15 = .ok (.invokevirtual 249, 3) := by decide +kernel
theorem dX8_triple_18 : decode cX8_triple 18 = .ok (.ifCond .eq 11, 3) := by decide +kernel
theorem dX8_triple_21 : decode cX8_triple 21 = .ok (.aload_n 0, 1) := by decide +kernel
theorem dX8_triple_22 : decode cX8_triple 22 = .ok (.iload_n 3, 1) := by decide +kernel
theorem dX8_triple_23 : decode cX8_triple 23 = .ok (.invokevirtual 249, 3) := by decide +kernel
theorem dX8_triple_26 : decode cX8_triple 26 = .ok (.ifCond .ne 5, 3) := by decide +kernel
theorem dX8_triple_29 : decode cX8_triple 29 = .ok (.iconst (-1), 1) := by decide +kernel
theorem dX8_triple_30 : decode cX8_triple 30 = .ok (.ireturn, 1) := by decide +kernel
theorem dX8_triple_31 : decode cX8_triple 31 = .ok (.aload_n 0, 1) := by decide +kernel
theorem dX8_triple_32 : decode cX8_triple 32 = .ok (.bipush 8, 2) := by decide +kernel
theorem dX8_triple_34 : decode cX8_triple 34 = .ok (.iload_n 1, 1) := by decide +kernel
theorem dX8_triple_35 : decode cX8_triple 35 = .ok (.iload_n 2, 1) := by decide +kernel
theorem dX8_triple_36 : decode cX8_triple 36 = .ok (.iload_n 3, 1) := by decide +kernel
theorem dX8_triple_37 : decode cX8_triple 37 = .ok (.invokevirtual 253, 3) := by decide +kernel
theorem dX8_triple_40 : decode cX8_triple 40 = .ok (.ifCond .lt 5, 3) := by decide +kernel
theorem dX8_triple_43 : decode cX8_triple 43 = .ok (.iconst 0, 1) := by decide +kernel
theorem dX8_triple_44 : decode cX8_triple 44 = .ok (.ireturn, 1) := by decide +kernel
theorem dX8_triple_45 : decode cX8_triple 45 = .ok (.aload_n 0, 1) := by decide +kernel
theorem dX8_triple_46 : decode cX8_triple 46 = .ok (.getfield 149, 3) := by decide +kernel
theorem dX8_triple_49 : decode cX8_triple 49 = .ok (.bipush 8, 2) := by decide +kernel
theorem dX8_triple_51 : decode cX8_triple 51 = .ok (.iaload, 1) := by decide +kernel
theorem dX8_triple_52 : decode cX8_triple 52 = .ok (.bipush 40, 2) := by decide +kernel
theorem dX8_triple_54 : decode cX8_triple 54 = .ok (.if_icmp .ne 6, 3) := by decide +kernel
theorem dX8_triple_57 : decode cX8_triple 57 = .ok (.bipush (-2), 2) := by decide +kernel
theorem dX8_triple_59 : decode cX8_triple 59 = .ok (.ireturn, 1) := by decide +kernel
theorem dX8_triple_60 : decode cX8_triple 60 = .ok (.bipush 8, 2) := by decide +kernel
theorem dX8_triple_62 : decode cX8_triple 62 = .ok (.aload_n 0, 1) := by decide +kernel
theorem dX8_triple_63 : decode cX8_triple 63 = .ok (.getfield 149, 3) := by decide +kernel
theorem dX8_triple_66 : decode cX8_triple 66 = .ok (.bipush 8, 2) := by decide +kernel
theorem dX8_triple_68 : decode cX8_triple 68 = .ok (.iaload, 1) := by decide +kernel
theorem dX8_triple_69 : decode cX8_triple 69 = .ok (.invokestatic 245, 3) := by decide +kernel
theorem dX8_triple_72 : decode cX8_triple 72 = .ok (.istore 4, 2) := by decide +kernel
theorem dX8_triple_74 : decode cX8_triple 74 = .ok (.aload_n 0, 1) := by decide +kernel
theorem dX8_triple_75 : decode cX8_triple 75 = .ok (.getfield 152, 3) := by decide +kernel
theorem dX8_triple_78 : decode cX8_triple 78 = .ok (.iload 4, 2) := by decide +kernel
theorem dX8_triple_80 : decode cX8_triple 80 = .ok (.iload_n 1, 1) := by decide +kernel
theorem dX8_triple_81 : decode cX8_triple 81 = .ok (.iastore, 1) := by decide +kernel
theorem dX8_triple_82 : decode cX8_triple 82 = .ok (.aload_n 0, 1) := by decide +kernel
theorem dX8_triple_83 : decode cX8_triple 83 = .ok (.getfield 152, 3) := by decide +kernel
theorem dX8_triple_86 : decode cX8_triple 86 = .ok (.iload 4, 2) := by decide +kernel
theorem dX8_triple_88 : decode cX8_triple 88 = .ok (.iconst 1, 1) := by decide +kernel
theorem dX8_triple_89 : decode cX8_triple 89 = .ok (.iadd, 1) := by decide +kernel
theorem dX8_triple_90 : decode cX8_triple 90 = .ok (.iload_n 2, 1) := by decide +kernel
theorem dX8_triple_91 : decode cX8_triple 91 = .ok (.iastore, 1) := by decide +kernel
theorem dX8_triple_92 : decode cX8_triple 92 = .ok (.aload_n 0, 1) := by decide +kernel
theorem dX8_triple_93 : decode cX8_triple 93 = .ok (.getfield 152, 3) := by decide +kernel
theorem dX8_triple_96 : decode cX8_triple 96 = .ok (.iload 4, 2) := by decide +kernel
theorem dX8_triple_98 : decode cX8_triple 98 = .ok (.iconst 2, 1) := by decide +kernel
theorem dX8_triple_99 : decode cX8_triple 99 = .ok (.iadd, 1) := by decide +kernel
theorem dX8_triple_100 : decode cX8_triple 100 = .ok (.iload_n 3, 1) := by decide +kernel
theorem dX8_triple_101 : decode cX8_triple 101 = .ok (.iastore, 1) := by decide +kernel
theorem dX8_triple_102 : decode cX8_triple 102 = .ok (.aload_n 0, 1) := by decide +kernel
theorem dX8_triple_103 : decode cX8_triple 103 = .ok (.getfield 149, 3) := by decide +kernel
theorem dX8_triple_106 : decode cX8_triple 106 = .ok (.bipush 8, 2) := by decide +kernel
theorem dX8_triple_108 : decode cX8_triple 108 = .ok (.dup2, 1) := by decide +kernel
theorem dX8_triple_109 : decode cX8_triple 109 = .ok (.iaload, 1) := by decide +kernel
theorem dX8_triple_110 : decode cX8_triple 110 = .ok (.iconst 1, 1) := by decide +kernel
theorem dX8_triple_111 : decode cX8_triple 111 = .ok (.iadd, 1) := by decide +kernel
theorem dX8_triple_112 : decode cX8_triple 112 = .ok (.iastore, 1) := by decide +kernel
theorem dX8_triple_113 : decode cX8_triple 113 = .ok (.aload_n 0, 1) := by decide +kernel
theorem dX8_triple_114 : decode cX8_triple 114 = .ok (.iconst 0, 1) := by decide +kernel
theorem dX8_triple_115 : decode cX8_triple 115 = .ok (.putfield 241, 3) := by decide +kernel
theorem dX8_triple_118 : decode cX8_triple 118 = .ok (.iconst 1, 1) := by decide +kernel
theorem dX8_triple_119 : decode cX8_triple 119 = .ok (.ireturn, 1) := by decide +kernel
theorem dX8_drop_0 : decode cX8_drop 0 = .ok (.aload_n 0, 1) := by decide +kernel
theorem dX8_drop_1 : decode cX8_drop 1 = .ok (.iconst 0, 1) := by decide +kernel
theorem dX8_drop_2 : decode cX8_drop 2 = .ok (.putfield 1, 3) := by decide +kernel
theorem dX8_drop_5 : decode cX8_drop 5 = .ok (.aload_n 0, 1) := by decide +kernel
theorem dX8_drop_6 : decode cX8_drop 6 = .ok (.bipush 8, 2) := by decide +kernel
theorem dX8_drop_8 : decode cX8_drop 8 = .ok (.iload_n 1, 1) := by decide +kernel
theorem dX8_drop_9 : decode cX8_drop 9 = .ok (.iload_n 2, 1) := by decide +kernel
theorem dX8_drop_10 : decode cX8_drop 10 = .ok (.iload_n 3, 1) := by decide +kernel
theorem dX8_drop_11 : decode cX8_drop 11 = .ok (.invokevirtual 253, 3) := by decide +kernel
theorem dX8_drop_14 : decode cX8_drop 14 = .ok (.istore 4, 2) := by decide +kernel
theorem dX8_drop_16 : decode cX8_drop 16 = .ok (.iload 4, 2) := by decide +kernel
theorem dX8_drop_18 : decode cX8_drop 18 = .ok (.ifCond .ge 5, 3) := by decide +kernel
theorem dX8_drop_21 : decode cX8_drop 21 = .ok (.iconst 0, 1) := by decide +kernel
theorem dX8_drop_22 : decode cX8_drop 22 = .ok (.ireturn, 1) := by decide +kernel
theorem dX8_drop_23 : decode cX8_drop 23 = .ok (.aload_n 0, 1) := by decide +kernel
theorem dX8_drop_24 : decode cX8_drop 24 = .ok (.getfield 149, 3) := by decide +kernel
theorem dX8_drop_27 : decode cX8_drop 27 = .ok (.bipush 8, 2) := by decide +kernel
theorem dX8_drop_29 : decode cX8_drop 29 = .ok (.dup2, 1) := by decide +kernel
theorem dX8_drop_30 : decode cX8_drop 30 = .ok (.iaload, 1) := by decide +kernel
theorem dX8_drop_31 : decode cX8_drop 31 = .ok (.iconst 1, 1) := by decide +kernel
theorem dX8_drop_32 : decode cX8_drop 32 = .ok (.isub, 1) := by decide +kernel
theorem dX8_drop_33 : decode cX8_drop 33 = .ok (.iastore, 1) := by decide +kernel
theorem dX8_drop_34 : decode cX8_drop 34 = .ok (.bipush 8, 2) := by decide +kernel
theorem dX8_drop_36 : decode cX8_drop 36 = .ok (.iload 4, 2) := by decide +kernel
theorem dX8_drop_38 : decode cX8_drop 38 = .ok (.invokestatic 245, 3) := by decide +kernel
theorem dX8_drop_41 : decode cX8_drop 41 = .ok (.istore 5, 2) := by decide +kernel
theorem dX8_drop_43 : decode cX8_drop 43 = .ok (.iload 5, 2) := by decide +kernel
theorem dX8_drop_45 : decode cX8_drop 45 = .ok (.bipush 8, 2) := by decide +kernel
theorem dX8_drop_47 : decode cX8_drop 47 = .ok (.aload_n 0, 1) := by decide +kernel
theorem dX8_drop_48 : decode cX8_drop 48 = .ok (.getfield 149, 3) := by decide +kernel
theorem dX8_drop_51 : decode cX8_drop 51 = .ok (.bipush 8, 2) := by decide +kernel
theorem dX8_drop_53 : decode cX8_drop 53 = .ok (.iaload, 1) := by decide +kernel
theorem dX8_drop_54 : decode cX8_drop 54 = .ok (.invokestatic 245, 3) := by decide +kernel
theorem dX8_drop_57 : decode cX8_drop 57 = .ok (.if_icmp .ge 25, 3) := by decide +kernel
theorem dX8_drop_60 : decode cX8_drop 60 = .ok (.aload_n 0, 1) := by decide +kernel
theorem dX8_drop_61 : decode cX8_drop 61 = .ok (.getfield 152, 3) := by decide +kernel
theorem dX8_drop_64 : decode cX8_drop 64 = .ok (.iload 5, 2) := by decide +kernel
theorem dX8_drop_66 : decode cX8_drop 66 = .ok (.aload_n 0, 1) := by decide +kernel
theorem dX8_drop_67 : decode cX8_drop 67 = .ok (.getfield 152, 3) := by decide +kernel
theorem dX8_drop_70 : decode cX8_drop 70 = .ok (.iload 5, 2) := by decide +kernel
theorem dX8_drop_72 : decode cX8_drop 72 = .ok (.iconst 3, 1) := by decide +kernel
theorem dX8_drop_73 : decode cX8_drop 73 = .ok (.iadd, 1) := by decide +kernel
theorem dX8_drop_74 : decode cX8_drop 74 = .ok (.iaload, 1) := by decide +kernel
theorem dX8_drop_75 : decode cX8_drop 75 = .ok (.iastore, 1) := by decide +kernel
theorem dX8_drop_76 : decode cX8_drop 76 = .ok (.iinc 5 1, 3) := by decide +kernel
theorem dX8_drop_79 : decode cX8_drop 79 = .ok (.goto (-36), 3) := by decide +kernel
theorem dX8_drop_82 : decode cX8_drop 82 = .ok (.aload_n 0, 1) := by decide +kernel
theorem dX8_drop_83 : decode cX8_drop 83 = .ok (.iconst 0, 1) := by decide +kernel
theorem dX8_drop_84 : decode cX8_drop 84 = .ok (.putfield 241, 3) := by decide +kernel
theorem dX8_drop_87 : decode cX8_drop 87 = .ok (.iconst 1, 1) := by decide +kernel
theorem dX8_drop_88 : decode cX8_drop 88 = .ok (.ireturn, 1) := by decide +kernel
theorem dX8_describe_0 : decode cX8_describe 0 = .ok (.sipush 128, 3) := by decide +kernel
theorem dX8_describe_3 : decode cX8_describe 3 = .ok (.aload_n 0, 1) := by decide +kernel
theorem dX8_describe_4 : decode cX8_describe 4 = .ok (.getfield 257, 3) := by decide +kernel
theorem dX8_describe_7 : decode cX8_describe 7 = .ok (.imul, 1) := by decide +kernel
theorem dX8_describe_8 : decode cX8_describe 8 = .ok (.istore_n 3, 1) := by decide +kernel
theorem dX8_describe_9 : decode cX8_describe 9 = .ok (.iconst 1, 1) := by decide +kernel
theorem dX8_describe_10 : decode cX8_describe 10 = .ok (.istore 4, 2) := by decide +kernel
theorem dX8_describe_12 : decode cX8_describe 12 = .ok (.iconst 0, 1) := by decide +kernel
theorem dX8_describe_13 : decode cX8_describe 13 = .ok (.istore 5, 2) := by decide +kernel
theorem dX8_describe_15 : decode cX8_describe 15 = .ok (.iload 5, 2) := by decide +kernel
theorem dX8_describe_17 : decode cX8_describe 17 = .ok (.iconst 3, 1) := by decide +kernel
theorem dX8_describe_18 : decode cX8_describe 18 = .ok (.if_icmp .ge 177, 3) := by decide +kernel
theorem dX8_describe_21 : decode cX8_describe 21 = .ok (.aload_n 0, 1) := by decide +kernel
theorem dX8_describe_22 : decode cX8_describe 22 = .ok (.getfield 152, 3) := by decide +kernel
theorem dX8_describe_25 : decode cX8_describe 25 = .ok (.bipush 8, 2) := by decide +kernel
theorem dX8_describe_27 : decode cX8_describe 27 = .ok (.iload_n 2, 1) := by decide +kernel
theorem dX8_describe_28 : decode cX8_describe 28 = .ok (.invokestatic 245, 3) := by decide +kernel
theorem dX8_describe_31 : decode cX8_describe 31 = .ok (.iload 5, 2) := by decide +kernel
theorem dX8_describe_33 : decode cX8_describe 33 = .ok (.iadd, 1) := by decide +kernel
theorem dX8_describe_34 : decode cX8_describe 34 = .ok (.iaload, 1) := by decide +kernel
theorem dX8_describe_35 : decode cX8_describe 35 = .ok (.istore 6, 2) := by decide +kernel
theorem dX8_describe_37 : decode cX8_describe 37 = .ok (.aload_n 0, 1) := by decide +kernel
theorem dX8_describe_38 : decode cX8_describe 38 = .ok (.getfield 183, 3) := by decide +kernel
theorem dX8_describe_41 : decode cX8_describe 41 = .ok (.iload_n 3, 1) := by decide +kernel
theorem dX8_describe_42 : decode cX8_describe 42 = .ok (.iload 4, 2) := by decide +kernel
theorem dX8_describe_44 : decode cX8_describe 44 = .ok (.iadd, 1) := by decide +kernel
theorem dX8_describe_45 : decode cX8_describe 45 = .ok (.iload 6, 2) := by decide +kernel
theorem dX8_describe_47 : decode cX8_describe 47 = .ok (.ifCond .le 7, 3) := by decide +kernel
theorem dX8_describe_50 : decode cX8_describe 50 = .ok (.iconst 0, 1) := by decide +kernel
theorem dX8_describe_51 : decode cX8_describe 51 = .ok (.goto 15, 3) := by decide +kernel
theorem dX8_describe_54 : decode cX8_describe 54 = .ok (.iload 6, 2) := by decide +kernel
theorem dX8_describe_56 : decode cX8_describe 56 = .ok (.ineg, 1) := by decide +kernel
theorem dX8_describe_57 : decode cX8_describe 57 = .ok (.iload_n 1, 1) := by decide +kernel
theorem dX8_describe_58 : decode cX8_describe 58 = .ok (.if_icmp .ne 7, 3) := by decide +kernel
theorem dX8_describe_61 : decode cX8_describe 61 = .ok (.iconst 1, 1) := by decide +kernel
theorem dX8_describe_62 : decode cX8_describe 62 = .ok (.goto 4, 3) := by decide +kernel
theorem dX8_describe_65 : decode cX8_describe 65 = .ok (.iconst 2, 1) := by decide +kernel
theorem dX8_describe_66 : decode cX8_describe 66 = .ok (.iastore, 1) := by decide +kernel
theorem dX8_describe_67 : decode cX8_describe 67 = .ok (.iinc 4 1, 3) := by decide +kernel
theorem dX8_describe_70 : decode cX8_describe 70 = .ok (.iconst 0, 1) := by decide +kernel
theorem dX8_describe_71 : decode cX8_describe 71 = .ok (.istore 7, 2) := by decide +kernel
theorem dX8_describe_73 : decode cX8_describe 73 = .ok (.iload 7, 2) := by decide +kernel
theorem dX8_describe_75 : decode cX8_describe 75 = .ok (.iconst 4, 1) := by decide +kernel
theorem dX8_describe_76 : decode cX8_describe 76 = .ok (.if_icmp .ge 41, 3) := by decide +kernel
theorem dX8_describe_79 : decode cX8_describe 79 = .ok (.iload 6, 2) := by decide +kernel
theorem dX8_describe_81 : decode cX8_describe 81 = .ok (.ifCond .le 36, 3) := by decide +kernel
theorem dX8_describe_84 : decode cX8_describe 84 = .ok (.aload_n 0, 1) := by decide +kernel
theorem dX8_describe_85 : decode cX8_describe 85 = .ok (.getfield 183, 3) := by decide +kernel
theorem dX8_describe_88 : decode cX8_describe 88 = .ok (.iload_n 3, 1) := by decide +kernel
theorem dX8_describe_89 : decode cX8_describe 89 = .ok (.iload 4, 2) := by decide +kernel
theorem dX8_describe_91 : decode cX8_describe 91 = .ok (.iadd, 1) := by decide +kernel
theorem dX8_describe_92 : decode cX8_describe 92 = .ok (.iload 6, 2) := by decide +kernel
theorem dX8_describe_94 : decode cX8_describe 94 = .ok (.bipush 24, 2) := by decide +kernel
theorem dX8_describe_96 : decode cX8_describe 96 = .ok (.bipush 8, 2) := by decide +kernel
theorem dX8_describe_98 : decode cX8_describe 98 = .ok (.iload 7, 2) := by decide +kernel
theorem dX8_describe_100 : decode cX8_describe 100 = .ok (.imul, 1) := by decide +kernel
theorem dX8_describe_101 : decode cX8_describe 101 = .ok (.isub, 1) := by decide +kernel
theorem dX8_describe_102 : decode cX8_describe 102 = .ok (.ishr, 1) := by decide +kernel
theorem dX8_describe_103 : decode cX8_describe 103 = .ok (.sipush 255, 3) := by decide +kernel
theorem dX8_describe_106 : decode cX8_describe 106 = .ok (.iand, 1) := by decide +kernel
theorem dX8_describe_107 : decode cX8_describe 107 = .ok (.iastore, 1) := by decide +kernel
theorem dX8_describe_108 : decode cX8_describe 108 = .ok (.iinc 4 1, 3) := by decide +kernel
theorem dX8_describe_111 : decode cX8_describe 111 = .ok (.iinc 7 1, 3) := by decide +kernel
theorem dX8_describe_114 : decode cX8_describe 114 = .ok (.goto (-41), 3) := by decide +kernel
theorem dX8_describe_117 : decode cX8_describe 117 = .ok (.iconst 0, 1) := by decide +kernel
theorem dX8_describe_118 : decode cX8_describe 118 = .ok (.istore 7, 2) := by decide +kernel
theorem dX8_describe_120 : decode cX8_describe 120 = .ok (.iload 7, 2) := by decide +kernel
theorem dX8_describe_122 : decode cX8_describe 122 = .ok (.bipush 32, 2) := by decide +kernel
theorem dX8_describe_124 : decode cX8_describe 124 = .ok (.if_icmp .ge 65, 3) := by decide +kernel
theorem dX8_describe_127 : decode cX8_describe 127 = .ok (.iload 6, 2) := by decide +kernel
theorem dX8_describe_129 : decode cX8_describe 129 = .ok (.ifCond .ge 60, 3) := by decide +kernel
theorem dX8_describe_132 : decode cX8_describe 132 = .ok (.iload 6, 2) := by decide +kernel
theorem dX8_describe_134 : decode cX8_describe 134 = .ok (.ineg, 1) := by decide +kernel
theorem dX8_describe_135 : decode cX8_describe 135 = .ok (.iload_n 1, 1) := by decide +kernel
theorem dX8_describe_136 : decode cX8_describe 136 = .ok (.if_icmp .eq 53, 3) := by decide +kernel
theorem dX8_describe_139 : decode cX8_describe 139 = .ok (.aload_n 0, 1) := by decide +kernel
theorem dX8_describe_140 : decode cX8_describe 140 = .ok (.getfield 183, 3) := by decide +kernel
theorem dX8_describe_143 : decode cX8_describe 143 = .ok (.iload_n 3, 1) := by decide +kernel
theorem dX8_describe_144 : decode cX8_describe 144 = .ok (.iload 4, 2) := by decide +kernel
theorem dX8_describe_146 : decode cX8_describe 146 = .ok (.iadd, 1) := by decide +kernel
theorem dX8_describe_147 : decode cX8_describe 147 = .ok (.aload_n 0, 1) := by decide +kernel
theorem dX8_describe_148 : decode cX8_describe 148 = .ok (.getfield 155, 3) := by decide +kernel
theorem dX8_describe_151 : decode cX8_describe 151 = .ok (.bipush 8, 2) := by decide +kernel
theorem dX8_describe_153 : decode cX8_describe 153 = .ok (.iload 6, 2) := by decide +kernel
theorem dX8_describe_155 : decode cX8_describe 155 = .ok (.ineg, 1) := by decide +kernel
theorem dX8_describe_156 : decode cX8_describe 156 = .ok (.imul, 1) := by decide +kernel
theorem dX8_describe_157 : decode cX8_describe 157 = .ok (.iload 7, 2) := by decide +kernel
theorem dX8_describe_159 : decode cX8_describe 159 = .ok (.iconst 4, 1) := by decide +kernel
theorem dX8_describe_160 : decode cX8_describe 160 = .ok (.idiv, 1) := by decide +kernel
theorem dX8_describe_161 : decode cX8_describe 161 = .ok (.iadd, 1) := by decide +kernel
theorem dX8_describe_162 : decode cX8_describe 162 = .ok (.laload, 1) := by decide +kernel
theorem dX8_describe_163 : decode cX8_describe 163 = .ok (.bipush 24, 2) := by decide +kernel
theorem dX8_describe_165 : decode cX8_describe 165 = .ok (.bipush 8, 2) := by decide +kernel
theorem dX8_describe_167 : decode cX8_describe 167 = .ok (.iload 7, 2) := by decide +kernel
theorem dX8_describe_169 : decode cX8_describe 169 = .ok (.iconst 4, 1) := by decide +kernel
theorem dX8_describe_170 : decode cX8_describe 170 = .ok (.irem, 1) := by decide +kernel
theorem dX8_describe_171 : decode cX8_describe 171 = .ok (.imul, 1) := by decide +kernel
theorem dX8_describe_172 : decode cX8_describe 172 = .ok (.isub, 1) := by decide +kernel
theorem dX8_describe_173 : decode cX8_describe 173 = .ok (.lshr, 1) := by decide +kernel
theorem dX8_describe_174 : decode cX8_describe 174 = .ok (.ldc2_w 260, 3) := by decide +kernel
theorem dX8_describe_177 : decode cX8_describe 177 = .ok (.land, 1) := by decide +kernel
theorem dX8_describe_178 : decode cX8_describe 178 = .ok (.l2i, 1) := by decide +kernel
theorem dX8_describe_179 : decode cX8_describe 179 = .ok (.iastore, 1) := by decide +kernel
theorem dX8_describe_180 : decode cX8_describe 180 = .ok (.iinc 4 1, 3) := by decide +kernel
theorem dX8_describe_183 : decode cX8_describe 183 = .ok (.iinc 7 1, 3) := by decide +kernel
theorem dX8_describe_186 : decode cX8_describe 186 = .ok (.goto (-66), 3) := by decide +kernel
theorem dX8_describe_189 : decode cX8_describe 189 = .ok (.iinc 5 1, 3) := by decide +kernel
theorem dX8_describe_192 : decode cX8_describe 192 = .ok (.goto (-177), 3) := by decide +kernel
theorem dX8_describe_195 : decode cX8_describe 195 = .ok (.aload_n 0, 1) := by decide +kernel
theorem dX8_describe_196 : decode cX8_describe 196 = .ok (.getfield 183, 3) := by decide +kernel
theorem dX8_describe_199 : decode cX8_describe 199 = .ok (.iload_n 3, 1) := by decide +kernel
theorem dX8_describe_200 : decode cX8_describe 200 = .ok (.iload 4, 2) := by decide +kernel
theorem dX8_describe_202 : decode cX8_describe 202 = .ok (.iconst 1, 1) := by decide +kernel
theorem dX8_describe_203 : decode cX8_describe 203 = .ok (.isub, 1) := by decide +kernel
theorem dX8_describe_204 : decode cX8_describe 204 = .ok (.iastore, 1) := by decide +kernel
theorem dX8_describe_205 : decode cX8_describe 205 = .ok (.aload_n 0, 1) := by decide +kernel
theorem dX8_describe_206 : decode cX8_describe 206 = .ok (.dup, 1) := by decide +kernel
theorem dX8_describe_207 : decode cX8_describe 207 = .ok (.getfield 257, 3) := by decide +kernel
theorem dX8_describe_210 : decode cX8_describe 210 = .ok (.iconst 1, 1) := by decide +kernel
theorem dX8_describe_211 : decode cX8_describe 211 = .ok (.iadd, 1) := by decide +kernel
theorem dX8_describe_212 : decode cX8_describe 212 = .ok (.putfield 257, 3) := by decide +kernel
theorem dX8_describe_215 : decode cX8_describe 215 = .ok (.return_, 1) := by decide +kernel
theorem dX8_isBefore_0 : decode cX8_isBefore 0 = .ok (.aload_n 0, 1) := by decide +kernel
theorem dX8_isBefore_1 : decode cX8_isBefore 1 = .ok (.getfield 183, 3) := by decide +kernel
theorem dX8_isBefore_4 : decode cX8_isBefore 4 = .ok (.sipush 128, 3) := by decide +kernel
theorem dX8_isBefore_7 : decode cX8_isBefore 7 = .ok (.iload_n 1, 1) := by decide +kernel
theorem dX8_isBefore_8 : decode cX8_isBefore 8 = .ok (.imul, 1) := by decide +kernel
theorem dX8_isBefore_9 : decode cX8_isBefore 9 = .ok (.iaload, 1) := by decide +kernel
theorem dX8_isBefore_10 : decode cX8_isBefore 10 = .ok (.istore_n 3, 1) := by decide +kernel
theorem dX8_isBefore_11 : decode cX8_isBefore 11 = .ok (.aload_n 0, 1) := by decide +kernel
theorem dX8_isBefore_12 : decode cX8_isBefore 12 = .ok (.getfield 183, 3) := by decide +kernel
theorem dX8_isBefore_15 : decode cX8_isBefore 15 = .ok (.sipush 128, 3) := by decide +kernel
theorem dX8_isBefore_18 : decode cX8_isBefore 18 = .ok (.iload_n 2, 1) := by decide +kernel
theorem dX8_isBefore_19 : decode cX8_isBefore 19 = .ok (.imul, 1) := by decide +kernel
theorem dX8_isBefore_20 : decode cX8_isBefore 20 = .ok (.iaload, 1) := by decide +kernel
theorem dX8_isBefore_21 : decode cX8_isBefore 21 = .ok (.istore 4, 2) := by decide +kernel
theorem dX8_isBefore_23 : decode cX8_isBefore 23 = .ok (.iconst 1, 1) := by decide +kernel
theorem dX8_isBefore_24 : decode cX8_isBefore 24 = .ok (.istore 5, 2) := by decide +kernel
theorem dX8_isBefore_26 : decode cX8_isBefore 26 = .ok (.iload 5, 2) := by decide +kernel
theorem dX8_isBefore_28 : decode cX8_isBefore 28 = .ok (.iload_n 3, 1) := by decide +kernel
theorem dX8_isBefore_29 : decode cX8_isBefore 29 = .ok (.if_icmp .gt 66, 3) := by decide +kernel
theorem dX8_isBefore_32 : decode cX8_isBefore 32 = .ok (.iload 5, 2) := by decide +kernel
theorem dX8_isBefore_34 : decode cX8_isBefore 34 = .ok (.iload 4, 2) := by decide +kernel
theorem dX8_isBefore_36 : decode cX8_isBefore 36 = .ok (.if_icmp .gt 59, 3) := by decide +kernel
theorem dX8_isBefore_39 : decode cX8_isBefore 39 = .ok (.aload_n 0, 1) := by decide +kernel
theorem dX8_isBefore_40 : decode cX8_isBefore 40 = .ok (.getfield 183, 3) := by decide +kernel
theorem dX8_isBefore_43 : decode cX8_isBefore 43 = .ok (.sipush 128, 3) := by decide +kernel
theorem dX8_isBefore_46 : decode cX8_isBefore 46 = .ok (.iload_n 1, 1) := by decide +kernel
theorem dX8_isBefore_47 : decode cX8_isBefore 47 = .ok (.imul, 1) := by decide +kernel
theorem dX8_isBefore_48 : decode cX8_isBefore 48 = .ok (.iload 5, 2) := by decide +kernel
theorem dX8_isBefore_50 : decode cX8_isBefore 50 = .ok (.iadd, 1) := by decide +kernel
theorem dX8_isBefore_51 : decode cX8_isBefore 51 = .ok (.iaload, 1) := by decide +kernel
theorem dX8_isBefore_52 : decode cX8_isBefore 52 = .ok (.istore 6, 2) := by decide +kernel
theorem dX8_isBefore_54 : decode cX8_isBefore 54 = .ok (.aload_n 0, 1) := by decide +kernel
theorem dX8_isBefore_55 : decode cX8_isBefore 55 = .ok (.getfield 183, 3) := by decide +kernel
theorem dX8_isBefore_58 : decode cX8_isBefore 58 = .ok (.sipush 128, 3) := by decide +kernel
theorem dX8_isBefore_61 : decode cX8_isBefore 61 = .ok (.iload_n 2, 1) := by decide +kernel
theorem dX8_isBefore_62 : decode cX8_isBefore 62 = .ok (.imul, 1) := by decide +kernel
theorem dX8_isBefore_63 : decode cX8_isBefore 63 = .ok (.iload 5, 2) := by decide +kernel
theorem dX8_isBefore_65 : decode cX8_isBefore 65 = .ok (.iadd, 1) := by decide +kernel
theorem dX8_isBefore_66 : decode cX8_isBefore 66 = .ok (.iaload, 1) := by decide +kernel
theorem dX8_isBefore_67 : decode cX8_isBefore 67 = .ok (.istore 7, 2) := by decide +kernel
theorem dX8_isBefore_69 : decode cX8_isBefore 69 = .ok (.iload 6, 2) := by decide +kernel
theorem dX8_isBefore_71 : decode cX8_isBefore 71 = .ok (.iload 7, 2) := by decide +kernel
theorem dX8_isBefore_73 : decode cX8_isBefore 73 = .ok (.if_icmp .eq 16, 3) := by decide +kernel
theorem dX8_isBefore_76 : decode cX8_isBefore 76 = .ok (.iload 6, 2) := by decide +kernel
theorem dX8_isBefore_78 : decode cX8_isBefore 78 = .ok (.iload 7, 2) := by decide +kernel
theorem dX8_isBefore_80 : decode cX8_isBefore 80 = .ok (.if_icmp .ge 7, 3) := by decide +kernel
theorem dX8_isBefore_83 : decode cX8_isBefore 83 = .ok (.iconst 1, 1) := by decide +kernel
theorem dX8_isBefore_84 : decode cX8_isBefore 84 = .ok (.goto 4, 3) := by decide +kernel
theorem dX8_isBefore_87 : decode cX8_isBefore 87 = .ok (.iconst 0, 1) := by decide +kernel
theorem dX8_isBefore_88 : decode cX8_isBefore 88 = .ok (.ireturn, 1) := by decide +kernel
theorem dX8_isBefore_89 : decode cX8_isBefore 89 = .ok (.iinc 5 1, 3) := by decide +kernel
theorem dX8_isBefore_92 : decode cX8_isBefore 92 = .ok (.goto (-66), 3) := by decide +kernel
theorem dX8_isBefore_95 : decode cX8_isBefore 95 = .ok (.iload_n 3, 1) := by decide +kernel
theorem dX8_isBefore_96 : decode cX8_isBefore 96 = .ok (.iload 4, 2) := by decide +kernel
theorem dX8_isBefore_98 : decode cX8_isBefore 98 = .ok (.if_icmp .ge 7, 3) := by decide +kernel
theorem dX8_isBefore_101 : decode cX8_isBefore 101 = .ok (.iconst 1, 1) := by decide +kernel
theorem dX8_isBefore_102 : decode cX8_isBefore 102 = .ok (.goto 4, 3) := by decide +kernel
theorem dX8_isBefore_105 : decode cX8_isBefore 105 = .ok (.iconst 0, 1) := by decide +kernel
theorem dX8_isBefore_106 : decode cX8_isBefore 106 = .ok (.ireturn, 1) := by decide +kernel
theorem dX8_next_0 : decode cX8_next 0 = .ok (.aload_n 0, 1) := by decide +kernel
theorem dX8_next_1 : decode cX8_next 1 = .ok (.iconst 0, 1) := by decide +kernel
theorem dX8_next_2 : decode cX8_next 2 = .ok (.putfield 257, 3) := by decide +kernel
theorem dX8_next_5 : decode cX8_next 5 = .ok (.iconst 0, 1) := by decide +kernel
theorem dX8_next_6 : decode cX8_next 6 = .ok (.istore_n 2, 1) := by decide +kernel
theorem dX8_next_7 : decode cX8_next 7 = .ok (.iload_n 2, 1) := by decide +kernel
theorem dX8_next_8 : decode cX8_next 8 = .ok (.aload_n 0, 1) := by decide +kernel
theorem dX8_next_9 : decode cX8_next 9 = .ok (.getfield 149, 3) := by decide +kernel
theorem dX8_next_12 : decode cX8_next 12 = .ok (.bipush 8, 2) := by decide +kernel
theorem dX8_next_14 : decode cX8_next 14 = .ok (.iaload, 1) := by decide +kernel
theorem dX8_next_15 : decode cX8_next 15 = .ok (.if_icmp .ge 59, 3) := by decide +kernel
theorem dX8_next_18 : decode cX8_next 18 = .ok (.bipush 8, 2) := by decide +kernel
theorem dX8_next_20 : decode cX8_next 20 = .ok (.iload_n 2, 1) := by decide +kernel
theorem dX8_next_21 : decode cX8_next 21 = .ok (.invokestatic 245, 3) := by decide +kernel
theorem dX8_next_24 : decode cX8_next 24 = .ok (.istore_n 3, 1) := by decide +kernel
theorem dX8_next_25 : decode cX8_next 25 = .ok (.aload_n 0, 1) := by decide +kernel
theorem dX8_next_26 : decode cX8_next 26 = .ok (.getfield 152, 3) := by decide +kernel
theorem dX8_next_29 : decode cX8_next 29 = .ok (.iload_n 3, 1) := by decide +kernel
theorem dX8_next_30 : decode cX8_next 30 = .ok (.iaload, 1) := by decide +kernel
theorem dX8_next_31 : decode cX8_next 31 = .ok (.iload_n 1, 1) := by decide +kernel
theorem dX8_next_32 : decode cX8_next 32 = .ok (.ineg, 1) := by decide +kernel
theorem dX8_next_33 : decode cX8_next 33 = .ok (.if_icmp .eq 29, 3) := by decide +kernel
theorem dX8_next_36 : decode cX8_next 36 = .ok (.aload_n 0, 1) := by decide +kernel
theorem dX8_next_37 : decode cX8_next 37 = .ok (.getfield 152, 3) := by decide +kernel
theorem dX8_next_40 : decode cX8_next 40 = .ok (.iload_n 3, 1) := by decide +kernel
theorem dX8_next_41 : decode cX8_next 41 = .ok (.iconst 1, 1) := by decide +kernel
theorem dX8_next_42 : decode cX8_next 42 = .ok (.iadd, 1) := by decide +kernel
theorem dX8_next_43 : decode cX8_next 43 = .ok (.iaload, 1) := by decide +kernel
theorem dX8_next_44 : decode cX8_next 44 = .ok (.iload_n 1, 1) := by decide +kernel
theorem dX8_next_45 : decode cX8_next 45 = .ok (.ineg, 1) := by decide +kernel
theorem dX8_next_46 : decode cX8_next 46 = .ok (.if_icmp .eq 16, 3) := by decide +kernel
theorem dX8_next_49 : decode cX8_next 49 = .ok (.aload_n 0, 1) := by decide +kernel
theorem dX8_next_50 : decode cX8_next 50 = .ok (.getfield 152, 3) := by decide +kernel
theorem dX8_next_53 : decode cX8_next 53 = .ok (.iload_n 3, 1) := by decide +kernel
theorem dX8_next_54 : decode cX8_next 54 = .ok (.iconst 2, 1) := by decide +kernel
theorem dX8_next_55 : decode cX8_next 55 = .ok (.iadd, 1) := by decide +kernel
theorem dX8_next_56 : decode cX8_next 56 = .ok (.iaload, 1) := by decide +kernel
theorem dX8_next_57 : decode cX8_next 57 = .ok (.iload_n 1, 1) := by decide +kernel
theorem dX8_next_58 : decode cX8_next 58 = .ok (.ineg, 1) := by decide +kernel
theorem dX8_next_59 : decode cX8_next 59 = .ok (.if_icmp .ne 9, 3) := by decide +kernel
theorem dX8_next_62 : decode cX8_next 62 = .ok (.aload_n 0, 1) := by decide +kernel
theorem dX8_next_63 : decode cX8_next 63 = .ok (.iload_n 1, 1) := by decide +kernel
theorem dX8_next_64 : decode cX8_next 64 = .ok (.iload_n 2, 1) := by decide +kernel
theorem dX8_next_65 : decode cX8_next 65 = .ok (.invokevirtual 262, 3) := by decide +kernel
theorem dX8_next_68 : decode cX8_next 68 = .ok (.iinc 2 1, 3) := by decide +kernel
theorem dX8_next_71 : decode cX8_next 71 = .ok (.goto (-64), 3) := by decide +kernel
theorem dX8_next_74 : decode cX8_next 74 = .ok (.aload_n 0, 1) := by decide +kernel
theorem dX8_next_75 : decode cX8_next 75 = .ok (.iconst 0, 1) := by decide +kernel
theorem dX8_next_76 : decode cX8_next 76 = .ok (.putfield 235, 3) := by decide +kernel
theorem dX8_next_79 : decode cX8_next 79 = .ok (.iconst 0, 1) := by decide +kernel
theorem dX8_next_80 : decode cX8_next 80 = .ok (.istore_n 2, 1) := by decide +kernel
theorem dX8_next_81 : decode cX8_next 81 = .ok (.iload_n 2, 1) := by decide +kernel
theorem dX8_next_82 : decode cX8_next 82 = .ok (.bipush 8, 2) := by decide +kernel
theorem dX8_next_84 : decode cX8_next 84 = .ok (.if_icmp .ge 24, 3) := by decide +kernel
theorem dX8_next_87 : decode cX8_next 87 = .ok (.aload_n 0, 1) := by decide +kernel
theorem dX8_next_88 : decode cX8_next 88 = .ok (.aload_n 0, 1) := by decide +kernel
theorem dX8_next_89 : decode cX8_next 89 = .ok (.getfield 155, 3) := by decide +kernel
theorem dX8_next_92 : decode cX8_next 92 = .ok (.bipush 8, 2) := by decide +kernel
theorem dX8_next_94 : decode cX8_next 94 = .ok (.iload_n 1, 1) := by decide +kernel
theorem dX8_next_95 : decode cX8_next 95 = .ok (.imul, 1) := by decide +kernel
theorem dX8_next_96 : decode cX8_next 96 = .ok (.iload_n 2, 1) := by decide +kernel
theorem dX8_next_97 : decode cX8_next 97 = .ok (.iadd, 1) := by decide +kernel
theorem dX8_next_98 : decode cX8_next 98 = .ok (.laload, 1) := by decide +kernel
theorem dX8_next_99 : decode cX8_next 99 = .ok (.invokevirtual 266, 3) := by decide +kernel
theorem dX8_next_102 : decode cX8_next 102 = .ok (.iinc 2 1, 3) := by decide +kernel
theorem dX8_next_105 : decode cX8_next 105 = .ok (.goto (-24), 3) := by decide +kernel
theorem dX8_next_108 : decode cX8_next 108 = .ok (.iconst 0, 1) := by decide +kernel
theorem dX8_next_109 : decode cX8_next 109 = .ok (.istore_n 2, 1) := by decide +kernel
theorem dX8_next_110 : decode cX8_next 110 = .ok (.iload_n 2, 1) := by decide +kernel
theorem dX8_next_111 : decode cX8_next 111 = .ok (.aload_n 0, 1) := by decide +kernel
theorem dX8_next_112 : decode cX8_next 112 = .ok (.getfield 257, 3) := by decide +kernel
theorem dX8_next_115 : decode cX8_next 115 = .ok (.if_icmp .ge 16, 3) := by decide +kernel
theorem dX8_next_118 : decode cX8_next 118 = .ok (.aload_n 0, 1) := by decide +kernel
theorem dX8_next_119 : decode cX8_next 119 = .ok (.getfield 195, 3) := by decide +kernel
theorem dX8_next_122 : decode cX8_next 122 = .ok (.iload_n 2, 1) := by decide +kernel
theorem dX8_next_123 : decode cX8_next 123 = .ok (.iconst 0, 1) := by decide +kernel
theorem dX8_next_124 : decode cX8_next 124 = .ok (.bastore, 1) := by decide +kernel
theorem dX8_next_125 : decode cX8_next 125 = .ok (.iinc 2 1, 3) := by decide +kernel
theorem dX8_next_128 : decode cX8_next 128 = .ok (.goto (-18), 3) := by decide +kernel
theorem dX8_next_131 : decode cX8_next 131 = .ok (.iconst 0, 1) := by decide +kernel
theorem dX8_next_132 : decode cX8_next 132 = .ok (.istore_n 2, 1) := by decide +kernel
theorem dX8_next_133 : decode cX8_next 133 = .ok (.iload_n 2, 1) := by decide +kernel
theorem dX8_next_134 : decode cX8_next 134 = .ok (.aload_n 0, 1) := by decide +kernel
theorem dX8_next_135 : decode cX8_next 135 = .ok (.getfield 257, 3) := by decide +kernel
theorem dX8_next_138 : decode cX8_next 138 = .ok (.if_icmp .ge 104, 3) := by decide +kernel
theorem dX8_next_141 : decode cX8_next 141 = .ok (.iconst (-1), 1) := by decide +kernel
theorem dX8_next_142 : decode cX8_next 142 = .ok (.istore_n 3, 1) := by decide +kernel
theorem dX8_next_143 : decode cX8_next 143 = .ok (.iconst 0, 1) := by decide +kernel
theorem dX8_next_144 : decode cX8_next 144 = .ok (.istore 4, 2) := by decide +kernel
theorem dX8_next_146 : decode cX8_next 146 = .ok (.iload 4, 2) := by decide +kernel
theorem dX8_next_148 : decode cX8_next 148 = .ok (.aload_n 0, 1) := by decide +kernel
theorem dX8_next_149 : decode cX8_next 149 = .ok (.getfield 257, 3) := by decide +kernel
theorem dX8_next_152 : decode cX8_next 152 = .ok (.if_icmp .ge 36, 3) := by decide +kernel
theorem dX8_next_155 : decode cX8_next 155 = .ok (.aload_n 0, 1) := by decide +kernel
theorem dX8_next_156 : decode cX8_next 156 = .ok (.getfield 195, 3) := by decide +kernel
theorem dX8_next_159 : decode cX8_next 159 = .ok (.iload 4, 2) := by decide +kernel
theorem dX8_next_161 : decode cX8_next 161 = .ok (.baload, 1) := by decide +kernel
theorem dX8_next_162 : decode cX8_next 162 = .ok (.ifCond .ne 20, 3) := by decide +kernel
theorem dX8_next_165 : decode cX8_next 165 = .ok (.iload_n 3, 1) := by decide +kernel
theorem dX8_next_166 : decode cX8_next 166 = .ok (.ifCond .lt 13, 3) := by decide +kernel
theorem dX8_next_169 : decode cX8_next 169 = .ok (.aload_n 0, 1) := by decide +kernel
theorem dX8_next_170 : decode cX8_next 170 = .ok (.iload 4, 2) := by decide +kernel
theorem dX8_next_172 : decode cX8_next 172 = .ok (.iload_n 3, 1) := by decide +kernel
theorem dX8_next_173 : decode cX8_next 173 = .ok (.invokevirtual 270, 3) := by decide +kernel
theorem dX8_next_176 : decode cX8_next 176 = .ok (.ifCond .eq 6, 3) := by decide +kernel
theorem dX8_next_179 : decode cX8_next 179 = .ok (.iload 4, 2) := by decide +kernel
theorem dX8_next_181 : decode cX8_next 181 = .ok (.istore_n 3, 1) := by decide +kernel
theorem dX8_next_182 : decode cX8_next 182 = .ok (.iinc 4 1, 3) := by decide +kernel
theorem dX8_next_185 : decode cX8_next 185 = .ok (.goto (-39), 3) := by decide +kernel
theorem dX8_next_188 : decode cX8_next 188 = .ok (.aload_n 0, 1) := by decide +kernel
theorem dX8_next_189 : decode cX8_next 189 = .ok (.getfield 195, 3) := by decide +kernel
theorem dX8_next_192 : decode cX8_next 192 = .ok (.iload_n 3, 1) := by decide +kernel
theorem dX8_next_193 : decode cX8_next 193 = .ok (.iconst 1, 1) := by decide +kernel
theorem dX8_next_194 : decode cX8_next 194 = .ok (.bastore, 1) := by decide +kernel
theorem dX8_next_195 : decode cX8_next 195 = .ok (.iconst 1, 1) := by decide +kernel
theorem dX8_next_196 : decode cX8_next 196 = .ok (.istore 4, 2) := by decide +kernel
theorem dX8_next_198 : decode cX8_next 198 = .ok (.iload 4, 2) := by decide +kernel
theorem dX8_next_200 : decode cX8_next 200 = .ok (.aload_n 0, 1) := by decide +kernel
theorem dX8_next_201 : decode cX8_next 201 = .ok (.getfield 183, 3) := by decide +kernel
theorem dX8_next_204 : decode cX8_next 204 = .ok (.sipush 128, 3) := by decide +kernel
theorem dX8_next_207 : decode cX8_next 207 = .ok (.iload_n 3, 1) := by decide +kernel
theorem dX8_next_208 : decode cX8_next 208 = .ok (.imul, 1) := by decide +kernel
theorem dX8_next_209 : decode cX8_next 209 = .ok (.iaload, 1) := by decide +kernel
theorem dX8_next_210 : decode cX8_next 210 = .ok (.if_icmp .gt 26, 3) := by decide +kernel
theorem dX8_next_213 : decode cX8_next 213 = .ok (.aload_n 0, 1) := by decide +kernel
theorem dX8_next_214 : decode cX8_next 214 = .ok (.aload_n 0, 1) := by decide +kernel
theorem dX8_next_215 : decode cX8_next 215 = .ok (.getfield 183, 3) := by decide +kernel
theorem dX8_next_218 : decode cX8_next 218 = .ok (.sipush 128, 3) := by decide +kernel
theorem dX8_next_221 : decode cX8_next 221 = .ok (.iload_n 3, 1) := by decide +kernel
theorem dX8_next_222 : decode cX8_next 222 = .ok (.imul, 1) := by decide +kernel
theorem dX8_next_223 : decode cX8_next 223 = .ok (.iload 4, 2) := by decide +kernel
theorem dX8_next_225 : decode cX8_next 225 = .ok (.iadd, 1) := by decide +kernel
theorem dX8_next_226 : decode cX8_next 226 = .ok (.iaload, 1) := by decide +kernel
theorem dX8_next_227 : decode cX8_next 227 = .ok (.invokevirtual 238, 3) := by decide +kernel
theorem dX8_next_230 : decode cX8_next 230 = .ok (.iinc 4 1, 3) := by decide +kernel
theorem dX8_next_233 : decode cX8_next 233 = .ok (.goto (-35), 3) := by decide +kernel
theorem dX8_next_236 : decode cX8_next 236 = .ok (.iinc 2 1, 3) := by decide +kernel
theorem dX8_next_239 : decode cX8_next 239 = .ok (.goto (-106), 3) := by decide +kernel
theorem dX8_next_242 : decode cX8_next 242 = .ok (.aload_n 0, 1) := by decide +kernel
theorem dX8_next_243 : decode cX8_next 243 = .ok (.aload_n 0, 1) := by decide +kernel
theorem dX8_next_244 : decode cX8_next 244 = .ok (.getfield 235, 3) := by decide +kernel
theorem dX8_next_247 : decode cX8_next 247 = .ok (.invokevirtual 199, 3) := by decide +kernel
theorem dX8_next_250 : decode cX8_next 250 = .ok (.iconst 0, 1) := by decide +kernel
theorem dX8_next_251 : decode cX8_next 251 = .ok (.istore_n 2, 1) := by decide +kernel
theorem dX8_next_252 : decode cX8_next 252 = .ok (.iload_n 2, 1) := by decide +kernel
theorem dX8_next_253 : decode cX8_next 253 = .ok (.bipush 8, 2) := by decide +kernel
theorem dX8_next_255 : decode cX8_next 255 = .ok (.if_icmp .ge 26, 3) := by decide +kernel
theorem dX8_next_258 : decode cX8_next 258 = .ok (.aload_n 0, 1) := by decide +kernel
theorem dX8_next_259 : decode cX8_next 259 = .ok (.getfield 158, 3) := by decide +kernel
theorem dX8_next_262 : decode cX8_next 262 = .ok (.bipush 8, 2) := by decide +kernel
theorem dX8_next_264 : decode cX8_next 264 = .ok (.iload_n 1, 1) := by decide +kernel
theorem dX8_next_265 : decode cX8_next 265 = .ok (.imul, 1) := by decide +kernel
theorem dX8_next_266 : decode cX8_next 266 = .ok (.iload_n 2, 1) := by decide +kernel
theorem dX8_next_267 : decode cX8_next 267 = .ok (.iadd, 1) := by decide +kernel
theorem dX8_next_268 : decode cX8_next 268 = .ok (.aload_n 0, 1) := by decide +kernel
theorem dX8_next_269 : decode cX8_next 269 = .ok (.getfield 189, 3) := by decide +kernel
theorem dX8_next_272 : decode cX8_next 272 = .ok (.iload_n 2, 1) := by decide +kernel
theorem dX8_next_273 : decode cX8_next 273 = .ok (.laload, 1) := by decide +kernel
theorem dX8_next_274 : decode cX8_next 274 = .ok (.lastore, 1) := by decide +kernel
theorem dX8_next_275 : decode cX8_next 275 = .ok (.iinc 2 1, 3) := by decide +kernel
theorem dX8_next_278 : decode cX8_next 278 = .ok (.goto (-26), 3) := by decide +kernel
theorem dX8_next_281 : decode cX8_next 281 = .ok (.return_, 1) := by decide +kernel
theorem dX8_compare_0 : decode cX8_compare 0 = .ok (.iconst 0, 1) := by decide +kernel
theorem dX8_compare_1 : decode cX8_compare 1 = .ok (.istore_n 3, 1) := by decide +kernel
theorem dX8_compare_2 : decode cX8_compare 2 = .ok (.iload_n 3, 1) := by decide +kernel
theorem dX8_compare_3 : decode cX8_compare 3 = .ok (.bipush 8, 2) := by decide +kernel
theorem dX8_compare_5 : decode cX8_compare 5 = .ok (.if_icmp .ge 55, 3) := by decide +kernel
theorem dX8_compare_8 : decode cX8_compare 8 = .ok (.aload_n 0, 1) := by decide +kernel
theorem dX8_compare_9 : decode cX8_compare 9 = .ok (.bipush 8, 2) := by decide +kernel
theorem dX8_compare_11 : decode cX8_compare 11 = .ok (.iload_n 1, 1) := by decide +kernel
theorem dX8_compare_12 : decode cX8_compare 12 = .ok (.imul, 1) := by decide +kernel
theorem dX8_compare_13 : decode cX8_compare 13 = .ok (.iload_n 3, 1) := by decide +kernel
theorem dX8_compare_14 : decode cX8_compare 14 = .ok (.iadd, 1) := by decide +kernel
theorem dX8_compare_15 : decode cX8_compare 15 = .ok (.laload, 1) := by decide +kernel
theorem dX8_compare_16 : decode cX8_compare 16 = .ok (.aload_n 0, 1) := by decide +kernel
theorem dX8_compare_17 : decode cX8_compare 17 = .ok (.bipush 8, 2) := by decide +kernel
theorem dX8_compare_19 : decode cX8_compare 19 = .ok (.iload_n 2, 1) := by decide +kernel
theorem dX8_compare_20 : decode cX8_compare 20 = .ok (.imul, 1) := by decide +kernel
theorem dX8_compare_21 : decode cX8_compare 21 = .ok (.iload_n 3, 1) := by decide +kernel
theorem dX8_compare_22 : decode cX8_compare 22 = .ok (.iadd, 1) := by decide +kernel
theorem dX8_compare_23 : decode cX8_compare 23 = .ok (.laload, 1) := by decide +kernel
theorem dX8_compare_24 : decode cX8_compare 24 = .ok (.lcmp, 1) := by decide +kernel
theorem dX8_compare_25 : decode cX8_compare 25 = .ok (.ifCond .eq 29, 3) := by decide +kernel
theorem dX8_compare_28 : decode cX8_compare 28 = .ok (.aload_n 0, 1) := by decide +kernel
theorem dX8_compare_29 : decode cX8_compare 29 = .ok (.bipush 8, 2) := by decide +kernel
theorem dX8_compare_31 : decode cX8_compare 31 = .ok (.iload_n 1, 1) := by decide +kernel
theorem dX8_compare_32 : decode cX8_compare 32 = .ok (.imul, 1) := by decide +kernel
theorem dX8_compare_33 : decode cX8_compare 33 = .ok (.iload_n 3, 1) := by decide +kernel
theorem dX8_compare_34 : decode cX8_compare 34 = .ok (.iadd, 1) := by decide +kernel
theorem dX8_compare_35 : decode cX8_compare 35 = .ok (.laload, 1) := by decide +kernel
theorem dX8_compare_36 : decode cX8_compare 36 = .ok (.aload_n 0, 1) := by decide +kernel
theorem dX8_compare_37 : decode cX8_compare 37 = .ok (.bipush 8, 2) := by decide +kernel
theorem dX8_compare_39 : decode cX8_compare 39 = .ok (.iload_n 2, 1) := by decide +kernel
theorem dX8_compare_40 : decode cX8_compare 40 = .ok (.imul, 1) := by decide +kernel
theorem dX8_compare_41 : decode cX8_compare 41 = .ok (.iload_n 3, 1) := by decide +kernel
theorem dX8_compare_42 : decode cX8_compare 42 = .ok (.iadd, 1) := by decide +kernel
theorem dX8_compare_43 : decode cX8_compare 43 = .ok (.laload, 1) := by decide +kernel
theorem dX8_compare_44 : decode cX8_compare 44 = .ok (.lcmp, 1) := by decide +kernel
theorem dX8_compare_45 : decode cX8_compare 45 = .ok (.ifCond .ge 7, 3) := by decide +kernel
theorem dX8_compare_48 : decode cX8_compare 48 = .ok (.iconst (-1), 1) := by decide +kernel
theorem dX8_compare_49 : decode cX8_compare 49 = .ok (.goto 4, 3) := by decide +kernel
theorem dX8_compare_52 : decode cX8_compare 52 = .ok (.iconst 1, 1) := by decide +kernel
theorem dX8_compare_53 : decode cX8_compare 53 = .ok (.ireturn, 1) := by decide +kernel
theorem dX8_compare_54 : decode cX8_compare 54 = .ok (.iinc 3 1, 3) := by decide +kernel
theorem dX8_compare_57 : decode cX8_compare 57 = .ok (.goto (-55), 3) := by decide +kernel
theorem dX8_compare_60 : decode cX8_compare 60 = .ok (.iconst 0, 1) := by decide +kernel
theorem dX8_compare_61 : decode cX8_compare 61 = .ok (.ireturn, 1) := by decide +kernel
theorem dX8_different_0 : decode cX8_different 0 = .ok (.iconst 0, 1) := by decide +kernel
theorem dX8_different_1 : decode cX8_different 1 = .ok (.istore_n 2, 1) := by decide +kernel
theorem dX8_different_2 : decode cX8_different 2 = .ok (.iconst 1, 1) := by decide +kernel
theorem dX8_different_3 : decode cX8_different 3 = .ok (.istore_n 3, 1) := by decide +kernel
theorem dX8_different_4 : decode cX8_different 4 = .ok (.iload_n 3, 1) := by decide +kernel
theorem dX8_different_5 : decode cX8_different 5 = .ok (.aload_n 0, 1) := by decide +kernel
theorem dX8_different_6 : decode cX8_different 6 = .ok (.getfield 145, 3) := by decide +kernel
theorem dX8_different_9 : decode cX8_different 9 = .ok (.bipush 8, 2) := by decide +kernel
theorem dX8_different_11 : decode cX8_different 11 = .ok (.iaload, 1) := by decide +kernel
theorem dX8_different_12 : decode cX8_different 12 = .ok (.if_icmp .gt 62, 3) := by decide +kernel
theorem dX8_different_15 : decode cX8_different 15 = .ok (.iconst 1, 1) := by decide +kernel
theorem dX8_different_16 : decode cX8_different 16 = .ok (.istore 4, 2) := by decide +kernel
theorem dX8_different_18 : decode cX8_different 18 = .ok (.iconst 1, 1) := by decide +kernel
theorem dX8_different_19 : decode cX8_different 19 = .ok (.istore 5, 2) := by decide +kernel
theorem dX8_different_21 : decode cX8_different 21 = .ok (.iload 5, 2) := by decide +kernel
theorem dX8_different_23 : decode cX8_different 23 = .ok (.iload_n 3, 1) := by decide +kernel
theorem dX8_different_24 : decode cX8_different 24 = .ok (.if_icmp .ge 31, 3) := by decide +kernel
theorem dX8_different_27 : decode cX8_different 27 = .ok (.iload 4, 2) := by decide +kernel
theorem dX8_different_29 : decode cX8_different 29 = .ok (.ifCond .eq 17, 3) := by decide +kernel
theorem dX8_different_32 : decode cX8_different 32 = .ok (.aload_n 1, 1) := by decide +kernel
theorem dX8_different_33 : decode cX8_different 33 = .ok (.iload_n 3, 1) := by decide +kernel
theorem dX8_different_34 : decode cX8_different 34 = .ok (.iload 5, 2) := by decide +kernel
theorem dX8_different_36 : decode cX8_different 36 = .ok (.invokestatic 274, 3) := by decide +kernel
theorem dX8_different_39 : decode cX8_different 39 = .ok (.ifCond .eq 7, 3) := by decide +kernel
theorem dX8_different_42 : decode cX8_different 42 = .ok (.iconst 1, 1) := by decide +kernel
theorem dX8_different_43 : decode cX8_different 43 = .ok (.goto 4, 3) := by decide +kernel
theorem dX8_different_46 : decode cX8_different 46 = .ok (.iconst 0, 1) := by decide +kernel
theorem dX8_different_47 : decode cX8_different 47 = .ok (.istore 4, 2) := by decide +kernel
theorem dX8_different_49 : decode cX8_different 49 = .ok (.iinc 5 1, 3) := by decide +kernel
theorem dX8_different_52 : decode cX8_different 52 = .ok (.goto (-31), 3) := by decide +kernel
theorem dX8_different_55 : decode cX8_different 55 = .ok (.iload_n 2, 1) := by decide +kernel
theorem dX8_different_56 : decode cX8_different 56 = .ok (.iload 4, 2) := by decide +kernel
theorem dX8_different_58 : decode cX8_different 58 = .ok (.ifCond .eq 7, 3) := by decide +kernel
theorem dX8_different_61 : decode cX8_different 61 = .ok (.iconst 1, 1) := by decide +kernel
theorem dX8_different_62 : decode cX8_different 62 = .ok (.goto 4, 3) := by decide +kernel
theorem dX8_different_65 : decode cX8_different 65 = .ok (.iconst 0, 1) := by decide +kernel
theorem dX8_different_66 : decode cX8_different 66 = .ok (.iadd, 1) := by decide +kernel
theorem dX8_different_67 : decode cX8_different 67 = .ok (.istore_n 2, 1) := by decide +kernel
theorem dX8_different_68 : decode cX8_different 68 = .ok (.iinc 3 1, 3) := by decide +kernel
theorem dX8_different_71 : decode cX8_different 71 = .ok (.goto (-67), 3) := by decide +kernel
theorem dX8_different_74 : decode cX8_different 74 = .ok (.iload_n 2, 1) := by decide +kernel
theorem dX8_different_75 : decode cX8_different 75 = .ok (.ireturn, 1) := by decide +kernel
theorem dX8_makeHashes_0 : decode cX8_makeHashes 0 = .ok (.aload_n 0, 1) := by decide +kernel
theorem dX8_makeHashes_1 : decode cX8_makeHashes 1 = .ok (.getfield 241, 3) := by decide +kernel
theorem dX8_makeHashes_4 : decode cX8_makeHashes 4 = .ok (.ifCond .eq 4, 3) := by decide +kernel
theorem dX8_makeHashes_7 : decode cX8_makeHashes 7 = .ok (.return_, 1) := by decide +kernel
theorem dX8_makeHashes_8 : decode cX8_makeHashes 8 = .ok (.aload_n 0, 1) := by decide +kernel
theorem dX8_makeHashes_9 : decode cX8_makeHashes 9 = .ok (.getfield 145, 3) := by decide +kernel
theorem dX8_makeHashes_12 : decode cX8_makeHashes 12 = .ok (.bipush 8, 2) := by decide +kernel
theorem dX8_makeHashes_14 : decode cX8_makeHashes 14 = .ok (.iaload, 1) := by decide +kernel
theorem dX8_makeHashes_15 : decode cX8_makeHashes 15 = .ok (.istore_n 1, 1) := by decide +kernel
theorem dX8_makeHashes_16 : decode cX8_makeHashes 16 = .ok (.aload_n 0, 1) := by decide +kernel
theorem dX8_makeHashes_17 : decode cX8_makeHashes 17 = .ok (.iconst 0, 1) := by decide +kernel
theorem dX8_makeHashes_18 : decode cX8_makeHashes 18 = .ok (.invokevirtual 199, 3) := by decide +kernel
theorem dX8_makeHashes_21 : decode cX8_makeHashes 21 = .ok (.iconst 1, 1) := by decide +kernel
theorem dX8_makeHashes_22 : decode cX8_makeHashes 22 = .ok (.istore_n 2, 1) := by decide +kernel
theorem dX8_makeHashes_23 : decode cX8_makeHashes 23 = .ok (.iload_n 2, 1) := by decide +kernel
theorem dX8_makeHashes_24 : decode cX8_makeHashes 24 = .ok (.iload_n 1, 1) := by decide +kernel
theorem dX8_makeHashes_25 : decode cX8_makeHashes 25 = .ok (.if_icmp .gt 40, 3) := by decide +kernel
theorem dX8_makeHashes_28 : decode cX8_makeHashes 28 = .ok (.iconst 0, 1) := by decide +kernel
theorem dX8_makeHashes_29 : decode cX8_makeHashes 29 = .ok (.istore_n 3, 1) := by decide +kernel
theorem dX8_makeHashes_30 : decode cX8_makeHashes 30 = .ok (.iload_n 3, 1) := by decide +kernel
theorem dX8_makeHashes_31 : decode cX8_makeHashes 31 = .ok (.bipush 8, 2) := by decide +kernel
theorem dX8_makeHashes_33 : decode cX8_makeHashes 33 = .ok (.if_icmp .ge 26, 3) := by decide +kernel
theorem dX8_makeHashes_36 : decode cX8_makeHashes 36 = .ok (.aload_n 0, 1) := by decide +kernel
theorem dX8_makeHashes_37 : decode cX8_makeHashes 37 = .ok (.getfield 155, 3) := by decide +kernel
theorem dX8_makeHashes_40 : decode cX8_makeHashes 40 = .ok (.bipush 8, 2) := by decide +kernel
theorem dX8_makeHashes_42 : decode cX8_makeHashes 42 = .ok (.iload_n 2, 1) := by decide +kernel
theorem dX8_makeHashes_43 : decode cX8_makeHashes 43 = .ok (.imul, 1) := by decide +kernel
theorem dX8_makeHashes_44 : decode cX8_makeHashes 44 = .ok (.iload_n 3, 1) := by decide +kernel
theorem dX8_makeHashes_45 : decode cX8_makeHashes 45 = .ok (.iadd, 1) := by decide +kernel
theorem dX8_makeHashes_46 : decode cX8_makeHashes 46 = .ok (.aload_n 0, 1) := by decide +kernel
theorem dX8_makeHashes_47 : decode cX8_makeHashes 47 = .ok (.getfield 189, 3) := by decide +kernel
theorem dX8_makeHashes_50 : decode cX8_makeHashes 50 = .ok (.iload_n 3, 1) := by decide +kernel
theorem dX8_makeHashes_51 : decode cX8_makeHashes 51 = .ok (.laload, 1) := by decide +kernel
theorem dX8_makeHashes_52 : decode cX8_makeHashes 52 = .ok (.lastore, 1) := by decide +kernel
theorem dX8_makeHashes_53 : decode cX8_makeHashes 53 = .ok (.iinc 3 1, 3) := by decide +kernel
theorem dX8_makeHashes_56 : decode cX8_makeHashes 56 = .ok (.goto (-26), 3) := by decide +kernel
theorem dX8_makeHashes_59 : decode cX8_makeHashes 59 = .ok (.iinc 2 1, 3) := by decide +kernel
theorem dX8_makeHashes_62 : decode cX8_makeHashes 62 = .ok (.goto (-39), 3) := by decide +kernel
theorem dX8_makeHashes_65 : decode cX8_makeHashes 65 = .ok (.aload_n 0, 1) := by decide +kernel
theorem dX8_makeHashes_66 : decode cX8_makeHashes 66 = .ok (.iconst 0, 1) := by decide +kernel
theorem dX8_makeHashes_67 : decode cX8_makeHashes 67 = .ok (.putfield 278, 3) := by decide +kernel
theorem dX8_makeHashes_70 : decode cX8_makeHashes 70 = .ok (.iconst 1, 1) := by decide +kernel
theorem dX8_makeHashes_71 : decode cX8_makeHashes 71 = .ok (.istore_n 2, 1) := by decide +kernel
theorem dX8_makeHashes_72 : decode cX8_makeHashes 72 = .ok (.iload_n 2, 1) := by decide +kernel
theorem dX8_makeHashes_73 : decode cX8_makeHashes 73 = .ok (.ifCond .eq 113, 3) := by decide +kernel
theorem dX8_makeHashes_76 : decode cX8_makeHashes 76 = .ok (.iconst 1, 1) := by decide +kernel
theorem dX8_makeHashes_77 : decode cX8_makeHashes 77 = .ok (.istore_n 3, 1) := by decide +kernel
theorem dX8_makeHashes_78 : decode cX8_makeHashes 78 = .ok (.iload_n 3, 1) := by decide +kernel
theorem dX8_makeHashes_79 : decode cX8_makeHashes 79 = .ok (.iload_n 1, 1) := by decide +kernel
theorem dX8_makeHashes_80 : decode cX8_makeHashes 80 = .ok (.if_icmp .gt 14, 3) := by decide +kernel
theorem dX8_makeHashes_83 : decode cX8_makeHashes 83 = .ok (.aload_n 0, 1) := by decide +kernel
theorem dX8_makeHashes_84 : decode cX8_makeHashes 84 = .ok (.iload_n 3, 1) := by decide +kernel
theorem dX8_makeHashes_85 : decode cX8_makeHashes 85 = .ok (.invokevirtual 281, 3) := by decide +kernel
theorem dX8_makeHashes_88 : decode cX8_makeHashes 88 = .ok (.iinc 3 1, 3) := by decide +kernel
theorem dX8_makeHashes_91 : decode cX8_makeHashes 91 = .ok (.goto (-13), 3) := by decide +kernel
theorem dX8_makeHashes_94 : decode cX8_makeHashes 94 = .ok (.aload_n 0, 1) := by decide +kernel
theorem dX8_makeHashes_95 : decode cX8_makeHashes 95 = .ok (.dup, 1) := by decide +kernel
theorem dX8_makeHashes_96 : decode cX8_makeHashes 96 = .ok (.getfield 278, 3) := by decide +kernel
theorem dX8_makeHashes_99 : decode cX8_makeHashes 99 = .ok (.iconst 1, 1) := by decide +kernel
theorem dX8_makeHashes_100 : decode cX8_makeHashes 100 = .ok (.iadd, 1) := by decide +kernel
theorem dX8_makeHashes_101 : decode cX8_makeHashes 101 = .ok (.putfield 278, 3) := by decide +kernel
theorem dX8_makeHashes_104 : decode cX8_makeHashes 104 = .ok (.iload_n 1, 1) := by decide +kernel
theorem dX8_makeHashes_105 : decode cX8_makeHashes 105 = .ok (.iconst 2, 1) := by decide +kernel
theorem dX8_makeHashes_106 : decode cX8_makeHashes 106 = .ok (.if_icmp .lt 22, 3) := by decide +kernel
theorem dX8_makeHashes_109 : decode cX8_makeHashes 109 = .ok (.aload_n 0, 1) := by decide +kernel
theorem dX8_makeHashes_110 : decode cX8_makeHashes 110 = .ok (.aload_n 0, 1) := by decide +kernel
theorem dX8_makeHashes_111 : decode cX8_makeHashes 111 = .ok (.getfield 158, 3) := by decide +kernel
theorem dX8_makeHashes_114 : decode cX8_makeHashes 114 = .ok (.invokevirtual 284, 3) := by decide +kernel
theorem dX8_makeHashes_117 : decode cX8_makeHashes 117 = .ok (.aload_n 0, 1) := by decide +kernel
theorem dX8_makeHashes_118 : decode cX8_makeHashes 118 = .ok (.aload_n 0, 1) := by decide +kernel
theorem dX8_makeHashes_119 : decode cX8_makeHashes 119 = .ok (.getfield 155, 3) := by decide +kernel
theorem dX8_makeHashes_122 : decode cX8_makeHashes 122 = .ok (.invokevirtual 284, 3) := by decide +kernel
theorem dX8_makeHashes_125 : decode cX8_makeHashes 125 = .ok (.if_icmp .le 7, 3) := by decide +kernel
theorem dX8_makeHashes_128 : decode cX8_makeHashes 128 = .ok (.iconst 1, 1) := by decide +kernel
theorem dX8_makeHashes_129 : decode cX8_makeHashes 129 = .ok (.goto 4, 3) := by decide +kernel
theorem dX8_makeHashes_132 : decode cX8_makeHashes 132 = .ok (.iconst 0, 1) := by decide +kernel
theorem dX8_makeHashes_133 : decode cX8_makeHashes 133 = .ok (.istore_n 3, 1) := by decide +kernel
theorem dX8_makeHashes_134 : decode cX8_makeHashes 134 = .ok (.iconst 0, 1) := by decide +kernel
theorem dX8_makeHashes_135 : decode cX8_makeHashes 135 = .ok (.istore 4, 2) := by decide +kernel
theorem dX8_makeHashes_137 : decode cX8_makeHashes 137 = .ok (.iload 4, 2) := by decide +kernel
theorem dX8_makeHashes_139 : decode cX8_makeHashes 139 = .ok (.bipush 72, 2) := by decide +kernel
theorem dX8_makeHashes_141 : decode cX8_makeHashes 141 = .ok (.if_icmp .ge 27, 3) := by decide +kernel
theorem dX8_makeHashes_144 : decode cX8_makeHashes 144 = .ok (.iload_n 3, 1) := by decide +kernel
theorem dX8_makeHashes_145 : decode cX8_makeHashes 145 = .ok (.ifCond .eq 23, 3) := by decide +kernel
theorem dX8_makeHashes_148 : decode cX8_makeHashes 148 = .ok (.aload_n 0, 1) := by decide +kernel
theorem dX8_makeHashes_149 : decode cX8_makeHashes 149 = .ok (.getfield 155, 3) := by decide +kernel
theorem dX8_makeHashes_152 : decode cX8_makeHashes 152 = .ok (.iload 4, 2) := by decide +kernel
theorem dX8_makeHashes_154 : decode cX8_makeHashes 154 = .ok (.aload_n 0, 1) := by decide +kernel
theorem dX8_makeHashes_155 : decode cX8_makeHashes 155 = .ok (.getfield 158, 3) := by decide +kernel
theorem dX8_makeHashes_158 : decode cX8_makeHashes 158 = .ok (.iload 4, 2) := by decide +kernel
theorem dX8_makeHashes_160 : decode cX8_makeHashes 160 = .ok (.laload, 1) := by decide +kernel
theorem dX8_makeHashes_161 : decode cX8_makeHashes 161 = .ok (.lastore, 1) := by decide +kernel
theorem dX8_makeHashes_162 : decode cX8_makeHashes 162 = .ok (.iinc 4 1, 3) := by decide +kernel
theorem dX8_makeHashes_165 : decode cX8_makeHashes 165 = .ok (.goto (-28), 3) := by decide +kernel
theorem dX8_makeHashes_168 : decode cX8_makeHashes 168 = .ok (.iload_n 3, 1) := by decide +kernel
theorem dX8_makeHashes_169 : decode cX8_makeHashes 169 = .ok (.ifCond .eq 12, 3) := by decide +kernel
theorem dX8_makeHashes_172 : decode cX8_makeHashes 172 = .ok (.iload_n 1, 1) := by decide +kernel
theorem dX8_makeHashes_173 : decode cX8_makeHashes 173 = .ok (.iconst 1, 1) := by decide +kernel
theorem dX8_makeHashes_174 : decode cX8_makeHashes 174 = .ok (.if_icmp .le 7, 3) := by decide +kernel
theorem dX8_makeHashes_177 : decode cX8_makeHashes 177 = .ok (.iconst 1, 1) := by decide +kernel
theorem dX8_makeHashes_178 : decode cX8_makeHashes 178 = .ok (.goto 4, 3) := by decide +kernel
theorem dX8_makeHashes_181 : decode cX8_makeHashes 181 = .ok (.iconst 0, 1) := by decide +kernel
theorem dX8_makeHashes_182 : decode cX8_makeHashes 182 = .ok (.istore_n 2, 1) := by decide +kernel
theorem dX8_makeHashes_183 : decode cX8_makeHashes 183 = .ok (.goto (-111), 3) := by decide +kernel
theorem dX8_makeHashes_186 : decode cX8_makeHashes 186 = .ok (.aload_n 0, 1) := by decide +kernel
theorem dX8_makeHashes_187 : decode cX8_makeHashes 187 = .ok (.iload_n 1, 1) := by decide +kernel
theorem dX8_makeHashes_188 : decode cX8_makeHashes 188 = .ok (.invokevirtual 288, 3) := by decide +kernel
theorem dX8_makeHashes_191 : decode cX8_makeHashes 191 = .ok (.aload_n 0, 1) := by decide +kernel
theorem dX8_makeHashes_192 : decode cX8_makeHashes 192 = .ok (.iconst 1, 1) := by decide +kernel
theorem dX8_makeHashes_193 : decode cX8_makeHashes 193 = .ok (.putfield 241, 3) := by decide +kernel
theorem dX8_makeHashes_196 : decode cX8_makeHashes 196 = .ok (.return_, 1) := by decide +kernel
theorem dX8_makeGroups_0 : decode cX8_makeGroups 0 = .ok (.aload_n 0, 1) := by decide +kernel
theorem dX8_makeGroups_1 : decode cX8_makeGroups 1 = .ok (.iconst 0, 1) := by decide +kernel
theorem dX8_makeGroups_2 : decode cX8_makeGroups 2 = .ok (.putfield 291, 3) := by decide +kernel
theorem dX8_makeGroups_5 : decode cX8_makeGroups 5 = .ok (.iconst 1, 1) := by decide +kernel
theorem dX8_makeGroups_6 : decode cX8_makeGroups 6 = .ok (.istore_n 2, 1) := by decide +kernel
theorem dX8_makeGroups_7 : decode cX8_makeGroups 7 = .ok (.iload_n 2, 1) := by decide +kernel
theorem dX8_makeGroups_8 : decode cX8_makeGroups 8 = .ok (.iload_n 1, 1) := by decide +kernel
theorem dX8_makeGroups_9 : decode cX8_makeGroups 9 = .ok (.if_icmp .gt 16, 3) := by decide +kernel
theorem dX8_makeGroups_12 : decode cX8_makeGroups 12 = .ok (.aload_n 0, 1) := by decide +kernel
theorem dX8_makeGroups_13 : decode cX8_makeGroups 13 = .ok (.getfield 161, 3) := by decide +kernel
theorem dX8_makeGroups_16 : decode cX8_makeGroups 16 = .ok (.iload_n 2, 1) := by decide +kernel
theorem dX8_makeGroups_17 : decode cX8_makeGroups 17 = .ok (.iconst (-1), 1) := by decide +kernel
theorem dX8_makeGroups_18 : decode cX8_makeGroups 18 = .ok (.iastore, 1) := by decide +kernel
theorem dX8_makeGroups_19 : decode cX8_makeGroups 19 = .ok (.iinc 2 1, 3) := by decide +kernel
theorem dX8_makeGroups_22 : decode cX8_makeGroups 22 = .ok (.goto (-15), 3) := by decide +kernel
theorem dX8_makeGroups_25 : decode cX8_makeGroups 25 = .ok (.iconst 1, 1) := by decide +kernel
theorem dX8_makeGroups_26 : decode cX8_makeGroups 26 = .ok (.istore_n 2, 1) := by decide +kernel
theorem dX8_makeGroups_27 : decode cX8_makeGroups 27 = .ok (.iconst 0, 1) := by decide +kernel
theorem dX8_makeGroups_28 : decode cX8_makeGroups 28 = .ok (.istore_n 3, 1) := by decide +kernel
theorem dX8_makeGroups_29 : decode cX8_makeGroups 29 = .ok (.iload_n 3, 1) := by decide +kernel
theorem dX8_makeGroups_30 : decode cX8_makeGroups 30 = .ok (.iload_n 1, 1) := by decide +kernel
theorem dX8_makeGroups_31 : decode cX8_makeGroups 31 = .ok (.if_icmp .ge 136, 3) := by decide +kernel
theorem dX8_makeGroups_34 : decode cX8_makeGroups 34 = .ok (.iconst 0, 1) := by decide +kernel
theorem dX8_makeGroups_35 : decode cX8_makeGroups 35 = .ok (.istore 4, 2) := by decide +kernel
theorem dX8_makeGroups_37 : decode cX8_makeGroups 37 = .ok (.iconst 1, 1) := by decide +kernel
theorem dX8_makeGroups_38 : decode cX8_makeGroups 38 = .ok (.istore 5, 2) := by decide +kernel
theorem dX8_makeGroups_40 : decode cX8_makeGroups 40 = .ok (.iload 5, 2) := by decide +kernel
theorem dX8_makeGroups_42 : decode cX8_makeGroups 42 = .ok (.iload_n 1, 1) := by decide +kernel
theorem dX8_makeGroups_43 : decode cX8_makeGroups 43 = .ok (.if_icmp .gt 42, 3) := by decide +kernel
theorem dX8_makeGroups_46 : decode cX8_makeGroups 46 = .ok (.aload_n 0, 1) := by decide +kernel
theorem dX8_makeGroups_47 : decode cX8_makeGroups 47 = .ok (.getfield 161, 3) := by decide +kernel
theorem dX8_makeGroups_50 : decode cX8_makeGroups 50 = .ok (.iload 5, 2) := by decide +kernel
theorem dX8_makeGroups_52 : decode cX8_makeGroups 52 = .ok (.iaload, 1) := by decide +kernel
theorem dX8_makeGroups_53 : decode cX8_makeGroups 53 = .ok (.ifCond .ge 26, 3) := by decide +kernel
theorem dX8_makeGroups_56 : decode cX8_makeGroups 56 = .ok (.iload 4, 2) := by decide +kernel
theorem dX8_makeGroups_58 : decode cX8_makeGroups 58 = .ok (.ifCond .eq 17, 3) := by decide +kernel
theorem dX8_makeGroups_61 : decode cX8_makeGroups 61 = .ok (.aload_n 0, 1) := by decide +kernel
theorem dX8_makeGroups_62 : decode cX8_makeGroups 62 = .ok (.getfield 155, 3) := by decide +kernel
theorem dX8_makeGroups_65 : decode cX8_makeGroups 65 = .ok (.iload 5, 2) := by decide +kernel
theorem dX8_makeGroups_67 : decode cX8_makeGroups 67 = .ok (.iload 4, 2) := by decide +kernel
theorem dX8_makeGroups_69 : decode cX8_makeGroups 69 = .ok (.invokestatic 274, 3) := by decide +kernel
theorem dX8_makeGroups_72 : decode cX8_makeGroups 72 = .ok (.ifCond .ge 7, 3) := by decide +kernel
theorem dX8_makeGroups_75 : decode cX8_makeGroups 75 = .ok (.iload 5, 2) := by decide +kernel
theorem dX8_makeGroups_77 : decode cX8_makeGroups 77 = .ok (.istore 4, 2) := by decide +kernel
theorem dX8_makeGroups_79 : decode cX8_makeGroups 79 = .ok (.iinc 5 1, 3) := by decide +kernel
theorem dX8_makeGroups_82 : decode cX8_makeGroups 82 = .ok (.goto (-42), 3) := by decide +kernel
theorem dX8_makeGroups_85 : decode cX8_makeGroups 85 = .ok (.iconst 1, 1) := by decide +kernel
theorem dX8_makeGroups_86 : decode cX8_makeGroups 86 = .ok (.istore 5, 2) := by decide +kernel
theorem dX8_makeGroups_88 : decode cX8_makeGroups 88 = .ok (.iload 5, 2) := by decide +kernel
theorem dX8_makeGroups_90 : decode cX8_makeGroups 90 = .ok (.iload_n 1, 1) := by decide +kernel
theorem dX8_makeGroups_91 : decode cX8_makeGroups 91 = .ok (.if_icmp .gt 63, 3) := by decide +kernel
theorem dX8_makeGroups_94 : decode cX8_makeGroups 94 = .ok (.aload_n 0, 1) := by decide +kernel
theorem dX8_makeGroups_95 : decode cX8_makeGroups 95 = .ok (.getfield 161, 3) := by decide +kernel
theorem dX8_makeGroups_98 : decode cX8_makeGroups 98 = .ok (.iload 5, 2) := by decide +kernel
theorem dX8_makeGroups_100 : decode cX8_makeGroups 100 = .ok (.iaload, 1) := by decide +kernel
theorem dX8_makeGroups_101 : decode cX8_makeGroups 101 = .ok (.ifCond .ge 47, 3) := by decide +kernel
theorem dX8_makeGroups_104 : decode cX8_makeGroups 104 = .ok (.aload_n 0, 1) := by decide +kernel
theorem dX8_makeGroups_105 : decode cX8_makeGroups 105 = .ok (.getfield 155, 3) := by decide +kernel
theorem dX8_makeGroups_108 : decode cX8_makeGroups 108 = .ok (.iload 5, 2) := by decide +kernel
theorem dX8_makeGroups_110 : decode cX8_makeGroups 110 = .ok (.iload 4, 2) := by decide +kernel
theorem dX8_makeGroups_112 : decode cX8_makeGroups 112 = .ok (.invokestatic 274, 3) := by decide +kernel
theorem dX8_makeGroups_115 : decode cX8_makeGroups 115 = .ok (.ifCond .eq 6, 3) := by decide +kernel
theorem dX8_makeGroups_118 : decode cX8_makeGroups 118 = .ok (.goto 30, 3) := by decide +kernel
theorem dX8_makeGroups_121 : decode cX8_makeGroups 121 = .ok (.aload_n 0, 1) := by decide +kernel
theorem dX8_makeGroups_122 : decode cX8_makeGroups 122 = .ok (.getfield 161, 3) := by decide +kernel
theorem dX8_makeGroups_125 : decode cX8_makeGroups 125 = .ok (.iload 5, 2) := by decide +kernel
theorem dX8_makeGroups_127 : decode cX8_makeGroups 127 = .ok (.aload_n 0, 1) := by decide +kernel
theorem dX8_makeGroups_128 : decode cX8_makeGroups 128 = .ok (.getfield 291, 3) := by decide +kernel
theorem dX8_makeGroups_131 : decode cX8_makeGroups 131 = .ok (.iastore, 1) := by decide +kernel
theorem dX8_makeGroups_132 : decode cX8_makeGroups 132 = .ok (.aload_n 0, 1) := by decide +kernel
theorem dX8_makeGroups_133 : decode cX8_makeGroups 133 = .ok (.getfield 164, 3) := by decide +kernel
theorem dX8_makeGroups_136 : decode cX8_makeGroups 136 = .ok (.iload_n 2, 1) := by decide +kernel
theorem dX8_makeGroups_137 : decode cX8_makeGroups 137 = .ok (.aload_n 0, 1) := by decide +kernel
theorem dX8_makeGroups_138 : decode cX8_makeGroups 138 = .ok (.getfield 291, 3) := by decide +kernel
theorem dX8_makeGroups_141 : decode cX8_makeGroups 141 = .ok (.iastore, 1) := by decide +kernel
theorem dX8_makeGroups_142 : decode cX8_makeGroups 142 = .ok (.iinc 2 1, 3) := by decide +kernel
theorem dX8_makeGroups_145 : decode cX8_makeGroups 145 = .ok (.iinc 3 1, 3) := by decide +kernel
theorem dX8_makeGroups_148 : decode cX8_makeGroups 148 = .ok (.iinc 5 1, 3) := by decide +kernel
theorem dX8_makeGroups_151 : decode cX8_makeGroups 151 = .ok (.goto (-63), 3) := by decide +kernel
theorem dX8_makeGroups_154 : decode cX8_makeGroups 154 = .ok (.aload_n 0, 1) := by decide +kernel
theorem dX8_makeGroups_155 : decode cX8_makeGroups 155 = .ok (.dup, 1) := by decide +kernel
theorem dX8_makeGroups_156 : decode cX8_makeGroups 156 = .ok (.getfield 291, 3) := by decide +kernel
theorem dX8_makeGroups_159 : decode cX8_makeGroups 159 = .ok (.iconst 1, 1) := by decide +kernel
theorem dX8_makeGroups_160 : decode cX8_makeGroups 160 = .ok (.iadd, 1) := by decide +kernel
theorem dX8_makeGroups_161 : decode cX8_makeGroups 161 = .ok (.putfield 291, 3) := by decide +kernel
theorem dX8_makeGroups_164 : decode cX8_makeGroups 164 = .ok (.goto (-135), 3) := by decide +kernel
theorem dX8_makeGroups_167 : decode cX8_makeGroups 167 = .ok (.return_, 1) := by decide +kernel
theorem dX8_hash_0 : decode cX8_hash 0 = .ok (.aload_n 0, 1) := by decide +kernel
theorem dX8_hash_1 : decode cX8_hash 1 = .ok (.iconst 0, 1) := by decide +kernel
theorem dX8_hash_2 : decode cX8_hash 2 = .ok (.putfield 1, 3) := by decide +kernel
theorem dX8_hash_5 : decode cX8_hash 5 = .ok (.aload_n 0, 1) := by decide +kernel
theorem dX8_hash_6 : decode cX8_hash 6 = .ok (.invokevirtual 294, 3) := by decide +kernel
theorem dX8_hash_9 : decode cX8_hash 9 = .ok (.iload_n 1, 1) := by decide +kernel
theorem dX8_hash_10 : decode cX8_hash 10 = .ok (.iconst 1, 1) := by decide +kernel
theorem dX8_hash_11 : decode cX8_hash 11 = .ok (.if_icmp .lt 24, 3) := by decide +kernel
theorem dX8_hash_14 : decode cX8_hash 14 = .ok (.iload_n 1, 1) := by decide +kernel
theorem dX8_hash_15 : decode cX8_hash 15 = .ok (.aload_n 0, 1) := by decide +kernel
theorem dX8_hash_16 : decode cX8_hash 16 = .ok (.getfield 145, 3) := by decide +kernel
theorem dX8_hash_19 : decode cX8_hash 19 = .ok (.bipush 8, 2) := by decide +kernel
theorem dX8_hash_21 : decode cX8_hash 21 = .ok (.iaload, 1) := by decide +kernel
theorem dX8_hash_22 : decode cX8_hash 22 = .ok (.if_icmp .gt 13, 3) := by decide +kernel
theorem dX8_hash_25 : decode cX8_hash 25 = .ok (.iload_n 2, 1) := by decide +kernel
theorem dX8_hash_26 : decode cX8_hash 26 = .ok (.ifCond .lt 9, 3) := by decide +kernel
theorem dX8_hash_29 : decode cX8_hash 29 = .ok (.iload_n 2, 1) := by decide +kernel
theorem dX8_hash_30 : decode cX8_hash 30 = .ok (.bipush 7, 2) := by decide +kernel
theorem dX8_hash_32 : decode cX8_hash 32 = .ok (.if_icmp .le 7, 3) := by decide +kernel
theorem dX8_hash_35 : decode cX8_hash 35 = .ok (.iconst 0, 1) := by decide +kernel
theorem dX8_hash_36 : decode cX8_hash 36 = .ok (.goto 15, 3) := by decide +kernel
theorem dX8_hash_39 : decode cX8_hash 39 = .ok (.aload_n 0, 1) := by decide +kernel
theorem dX8_hash_40 : decode cX8_hash 40 = .ok (.getfield 155, 3) := by decide +kernel
theorem dX8_hash_43 : decode cX8_hash 43 = .ok (.bipush 8, 2) := by decide +kernel
theorem dX8_hash_45 : decode cX8_hash 45 = .ok (.iload_n 1, 1) := by decide +kernel
theorem dX8_hash_46 : decode cX8_hash 46 = .ok (.imul, 1) := by decide +kernel
theorem dX8_hash_47 : decode cX8_hash 47 = .ok (.iload_n 2, 1) := by decide +kernel
theorem dX8_hash_48 : decode cX8_hash 48 = .ok (.iadd, 1) := by decide +kernel
theorem dX8_hash_49 : decode cX8_hash 49 = .ok (.laload, 1) := by decide +kernel
theorem dX8_hash_50 : decode cX8_hash 50 = .ok (.l2i, 1) := by decide +kernel
theorem dX8_hash_51 : decode cX8_hash 51 = .ok (.ireturn, 1) := by decide +kernel
theorem dX8_rounds_0 : decode cX8_rounds 0 = .ok (.aload_n 0, 1) := by decide +kernel
theorem dX8_rounds_1 : decode cX8_rounds 1 = .ok (.iconst 0, 1) := by decide +kernel
theorem dX8_rounds_2 : decode cX8_rounds 2 = .ok (.putfield 1, 3) := by decide +kernel
theorem dX8_rounds_5 : decode cX8_rounds 5 = .ok (.aload_n 0, 1) := by decide +kernel
theorem dX8_rounds_6 : decode cX8_rounds 6 = .ok (.invokevirtual 294, 3) := by decide +kernel
theorem dX8_rounds_9 : decode cX8_rounds 9 = .ok (.aload_n 0, 1) := by decide +kernel
theorem dX8_rounds_10 : decode cX8_rounds 10 = .ok (.getfield 278, 3) := by decide +kernel
theorem dX8_rounds_13 : decode cX8_rounds 13 = .ok (.ireturn, 1) := by decide +kernel
theorem dX8_first_0 : decode cX8_first 0 = .ok (.aload_n 0, 1) := by decide +kernel
theorem dX8_first_1 : decode cX8_first 1 = .ok (.iconst 0, 1) := by decide +kernel
theorem dX8_first_2 : decode cX8_first 2 = .ok (.putfield 1, 3) := by decide +kernel
theorem dX8_first_5 : decode cX8_first 5 = .ok (.aload_n 0, 1) := by decide +kernel
theorem dX8_first_6 : decode cX8_first 6 = .ok (.invokevirtual 294, 3) := by decide +kernel
theorem dX8_first_9 : decode cX8_first 9 = .ok (.iload_n 1, 1) := by decide +kernel
theorem dX8_first_10 : decode cX8_first 10 = .ok (.ifCond .lt 15, 3) := by decide +kernel
theorem dX8_first_13 : decode cX8_first 13 = .ok (.iload_n 1, 1) := by decide +kernel
theorem dX8_first_14 : decode cX8_first 14 = .ok (.aload_n 0, 1) := by decide +kernel
end
section
theorem dX8_first_15 : decode cX8_first 15 = .ok (.getfield 291, 3) := by decide +kernel
theorem dX8_first_18 : decode cX8_first 18 = .ok (.if_icmp .ge 7, 3) := by decide +kernel
theorem dX8_first_21 : decode cX8_first 21 = .ok (.iload_n 2, 1) := by decide +kernel
theorem dX8_first_22 : decode cX8_first 22 = .ok (.ifCond .ge 5, 3) := by decide +kernel
theorem dX8_first_25 : decode cX8_first 25 = .ok (.iconst (-1), 1) := by decide +kernel
theorem dX8_first_26 : decode cX8_first 26 = .ok (.ireturn, 1) := by decide +kernel
theorem dX8_first_27 : decode cX8_first 27 = .ok (.iload_n 2, 1) := by decide +kernel
theorem dX8_first_28 : decode cX8_first 28 = .ok (.istore_n 3, 1) := by decide +kernel
theorem dX8_first_29 : decode cX8_first 29 = .ok (.iconst 1, 1) := by decide +kernel
theorem dX8_first_30 : decode cX8_first 30 = .ok (.istore 4, 2) := by decide +kernel
theorem dX8_first_32 : decode cX8_first 32 = .ok (.iload 4, 2) := by decide +kernel
theorem dX8_first_34 : decode cX8_first 34 = .ok (.aload_n 0, 1) := by decide +kernel
theorem dX8_first_35 : decode cX8_first 35 = .ok (.getfield 145, 3) := by decide +kernel
theorem dX8_first_38 : decode cX8_first 38 = .ok (.bipush 8, 2) := by decide +kernel
theorem dX8_first_40 : decode cX8_first 40 = .ok (.iaload, 1) := by decide +kernel
theorem dX8_first_41 : decode cX8_first 41 = .ok (.if_icmp .gt 33, 3) := by decide +kernel
theorem dX8_first_44 : decode cX8_first 44 = .ok (.aload_n 0, 1) := by decide +kernel
theorem dX8_first_45 : decode cX8_first 45 = .ok (.getfield 161, 3) := by decide +kernel
theorem dX8_first_48 : decode cX8_first 48 = .ok (.iload 4, 2) := by decide +kernel
theorem dX8_first_50 : decode cX8_first 50 = .ok (.iaload, 1) := by decide +kernel
theorem dX8_first_51 : decode cX8_first 51 = .ok (.iload_n 1, 1) := by decide +kernel
theorem dX8_first_52 : decode cX8_first 52 = .ok (.if_icmp .eq 6, 3) := by decide +kernel
theorem dX8_first_55 : decode cX8_first 55 = .ok (.goto 13, 3) := by decide +kernel
theorem dX8_first_58 : decode cX8_first 58 = .ok (.iload_n 3, 1) := by decide +kernel
theorem dX8_first_59 : decode cX8_first 59 = .ok (.ifCond .ne 6, 3) := by decide +kernel
theorem dX8_first_62 : decode cX8_first 62 = .ok (.iload 4, 2) := by decide +kernel
theorem dX8_first_64 : decode cX8_first 64 = .ok (.ireturn, 1) := by decide +kernel
theorem dX8_first_65 : decode cX8_first 65 = .ok (.iinc 3 (-1), 3) := by decide +kernel
theorem dX8_first_68 : decode cX8_first 68 = .ok (.iinc 4 1, 3) := by decide +kernel
theorem dX8_first_71 : decode cX8_first 71 = .ok (.goto (-39), 3) := by decide +kernel
theorem dX8_first_74 : decode cX8_first 74 = .ok (.iconst (-1), 1) := by decide +kernel
theorem dX8_first_75 : decode cX8_first 75 = .ok (.ireturn, 1) := by decide +kernel
theorem dX8_turn_0 : decode cX8_turn 0 = .ok (.iload_n 1, 1) := by decide +kernel
theorem dX8_turn_1 : decode cX8_turn 1 = .ok (.iconst 1, 1) := by decide +kernel
theorem dX8_turn_2 : decode cX8_turn 2 = .ok (.isub, 1) := by decide +kernel
theorem dX8_turn_3 : decode cX8_turn 3 = .ok (.istore_n 2, 1) := by decide +kernel
theorem dX8_turn_4 : decode cX8_turn 4 = .ok (.iload_n 2, 1) := by decide +kernel
theorem dX8_turn_5 : decode cX8_turn 5 = .ok (.iconst 1, 1) := by decide +kernel
theorem dX8_turn_6 : decode cX8_turn 6 = .ok (.if_icmp .lt 26, 3) := by decide +kernel
theorem dX8_turn_9 : decode cX8_turn 9 = .ok (.aload_n 0, 1) := by decide +kernel
theorem dX8_turn_10 : decode cX8_turn 10 = .ok (.getfield 167, 3) := by decide +kernel
theorem dX8_turn_13 : decode cX8_turn 13 = .ok (.iload_n 2, 1) := by decide +kernel
theorem dX8_turn_14 : decode cX8_turn 14 = .ok (.iaload, 1) := by decide +kernel
theorem dX8_turn_15 : decode cX8_turn 15 = .ok (.aload_n 0, 1) := by decide +kernel
theorem dX8_turn_16 : decode cX8_turn 16 = .ok (.getfield 167, 3) := by decide +kernel
theorem dX8_turn_19 : decode cX8_turn 19 = .ok (.iload_n 2, 1) := by decide +kernel
theorem dX8_turn_20 : decode cX8_turn 20 = .ok (.iconst 1, 1) := by decide +kernel
theorem dX8_turn_21 : decode cX8_turn 21 = .ok (.iadd, 1) := by decide +kernel
theorem dX8_turn_22 : decode cX8_turn 22 = .ok (.iaload, 1) := by decide +kernel
theorem dX8_turn_23 : decode cX8_turn 23 = .ok (.if_icmp .le 9, 3) := by decide +kernel
theorem dX8_turn_26 : decode cX8_turn 26 = .ok (.iinc 2 (-1), 3) := by decide +kernel
theorem dX8_turn_29 : decode cX8_turn 29 = .ok (.goto (-25), 3) := by decide +kernel
theorem dX8_turn_32 : decode cX8_turn 32 = .ok (.iload_n 2, 1) := by decide +kernel
theorem dX8_turn_33 : decode cX8_turn 33 = .ok (.iconst 1, 1) := by decide +kernel
theorem dX8_turn_34 : decode cX8_turn 34 = .ok (.if_icmp .ge 5, 3) := by decide +kernel
theorem dX8_turn_37 : decode cX8_turn 37 = .ok (.iconst 0, 1) := by decide +kernel
theorem dX8_turn_38 : decode cX8_turn 38 = .ok (.ireturn, 1) := by decide +kernel
theorem dX8_turn_39 : decode cX8_turn 39 = .ok (.iload_n 1, 1) := by decide +kernel
theorem dX8_turn_40 : decode cX8_turn 40 = .ok (.istore_n 3, 1) := by decide +kernel
theorem dX8_turn_41 : decode cX8_turn 41 = .ok (.aload_n 0, 1) := by decide +kernel
theorem dX8_turn_42 : decode cX8_turn 42 = .ok (.getfield 167, 3) := by decide +kernel
theorem dX8_turn_45 : decode cX8_turn 45 = .ok (.iload_n 3, 1) := by decide +kernel
theorem dX8_turn_46 : decode cX8_turn 46 = .ok (.iaload, 1) := by decide +kernel
theorem dX8_turn_47 : decode cX8_turn 47 = .ok (.aload_n 0, 1) := by decide +kernel
theorem dX8_turn_48 : decode cX8_turn 48 = .ok (.getfield 167, 3) := by decide +kernel
theorem dX8_turn_51 : decode cX8_turn 51 = .ok (.iload_n 2, 1) := by decide +kernel
theorem dX8_turn_52 : decode cX8_turn 52 = .ok (.iaload, 1) := by decide +kernel
theorem dX8_turn_53 : decode cX8_turn 53 = .ok (.if_icmp .ge 9, 3) := by decide +kernel
theorem dX8_turn_56 : decode cX8_turn 56 = .ok (.iinc 3 (-1), 3) := by decide +kernel
theorem dX8_turn_59 : decode cX8_turn 59 = .ok (.goto (-18), 3) := by decide +kernel
theorem dX8_turn_62 : decode cX8_turn 62 = .ok (.aload_n 0, 1) := by decide +kernel
theorem dX8_turn_63 : decode cX8_turn 63 = .ok (.iload_n 2, 1) := by decide +kernel
theorem dX8_turn_64 : decode cX8_turn 64 = .ok (.iload_n 3, 1) := by decide +kernel
theorem dX8_turn_65 : decode cX8_turn 65 = .ok (.invokevirtual 297, 3) := by decide +kernel
theorem dX8_turn_68 : decode cX8_turn 68 = .ok (.iconst 1, 1) := by decide +kernel
theorem dX8_turn_69 : decode cX8_turn 69 = .ok (.istore 4, 2) := by decide +kernel
theorem dX8_turn_71 : decode cX8_turn 71 = .ok (.iload_n 2, 1) := by decide +kernel
theorem dX8_turn_72 : decode cX8_turn 72 = .ok (.iload 4, 2) := by decide +kernel
theorem dX8_turn_74 : decode cX8_turn 74 = .ok (.iadd, 1) := by decide +kernel
theorem dX8_turn_75 : decode cX8_turn 75 = .ok (.iload_n 1, 1) := by decide +kernel
theorem dX8_turn_76 : decode cX8_turn 76 = .ok (.iconst 1, 1) := by decide +kernel
theorem dX8_turn_77 : decode cX8_turn 77 = .ok (.iadd, 1) := by decide +kernel
theorem dX8_turn_78 : decode cX8_turn 78 = .ok (.iload 4, 2) := by decide +kernel
theorem dX8_turn_80 : decode cX8_turn 80 = .ok (.isub, 1) := by decide +kernel
theorem dX8_turn_81 : decode cX8_turn 81 = .ok (.if_icmp .ge 23, 3) := by decide +kernel
theorem dX8_turn_84 : decode cX8_turn 84 = .ok (.aload_n 0, 1) := by decide +kernel
theorem dX8_turn_85 : decode cX8_turn 85 = .ok (.iload_n 2, 1) := by decide +kernel
theorem dX8_turn_86 : decode cX8_turn 86 = .ok (.iload 4, 2) := by decide +kernel
theorem dX8_turn_88 : decode cX8_turn 88 = .ok (.iadd, 1) := by decide +kernel
theorem dX8_turn_89 : decode cX8_turn 89 = .ok (.iload_n 1, 1) := by decide +kernel
theorem dX8_turn_90 : decode cX8_turn 90 = .ok (.iconst 1, 1) := by decide +kernel
theorem dX8_turn_91 : decode cX8_turn 91 = .ok (.iadd, 1) := by decide +kernel
theorem dX8_turn_92 : decode cX8_turn 92 = .ok (.iload 4, 2) := by decide +kernel
theorem dX8_turn_94 : decode cX8_turn 94 = .ok (.isub, 1) := by decide +kernel
theorem dX8_turn_95 : decode cX8_turn 95 = .ok (.invokevirtual 297, 3) := by decide +kernel
theorem dX8_turn_98 : decode cX8_turn 98 = .ok (.iinc 4 1, 3) := by decide +kernel
theorem dX8_turn_101 : decode cX8_turn 101 = .ok (.goto (-30), 3) := by decide +kernel
theorem dX8_turn_104 : decode cX8_turn 104 = .ok (.iconst 1, 1) := by decide +kernel
theorem dX8_turn_105 : decode cX8_turn 105 = .ok (.ireturn, 1) := by decide +kernel
theorem dX8_change_0 : decode cX8_change 0 = .ok (.aload_n 0, 1) := by decide +kernel
theorem dX8_change_1 : decode cX8_change 1 = .ok (.getfield 167, 3) := by decide +kernel
theorem dX8_change_4 : decode cX8_change 4 = .ok (.iload_n 1, 1) := by decide +kernel
theorem dX8_change_5 : decode cX8_change 5 = .ok (.iaload, 1) := by decide +kernel
theorem dX8_change_6 : decode cX8_change 6 = .ok (.istore_n 3, 1) := by decide +kernel
theorem dX8_change_7 : decode cX8_change 7 = .ok (.aload_n 0, 1) := by decide +kernel
theorem dX8_change_8 : decode cX8_change 8 = .ok (.getfield 167, 3) := by decide +kernel
theorem dX8_change_11 : decode cX8_change 11 = .ok (.iload_n 1, 1) := by decide +kernel
theorem dX8_change_12 : decode cX8_change 12 = .ok (.aload_n 0, 1) := by decide +kernel
theorem dX8_change_13 : decode cX8_change 13 = .ok (.getfield 167, 3) := by decide +kernel
theorem dX8_change_16 : decode cX8_change 16 = .ok (.iload_n 2, 1) := by decide +kernel
theorem dX8_change_17 : decode cX8_change 17 = .ok (.iaload, 1) := by decide +kernel
theorem dX8_change_18 : decode cX8_change 18 = .ok (.iastore, 1) := by decide +kernel
theorem dX8_change_19 : decode cX8_change 19 = .ok (.aload_n 0, 1) := by decide +kernel
theorem dX8_change_20 : decode cX8_change 20 = .ok (.getfield 167, 3) := by decide +kernel
theorem dX8_change_23 : decode cX8_change 23 = .ok (.iload_n 2, 1) := by decide +kernel
theorem dX8_change_24 : decode cX8_change 24 = .ok (.iload_n 3, 1) := by decide +kernel
theorem dX8_change_25 : decode cX8_change 25 = .ok (.iastore, 1) := by decide +kernel
theorem dX8_change_26 : decode cX8_change 26 = .ok (.return_, 1) := by decide +kernel
theorem dX8_begin_0 : decode cX8_begin 0 = .ok (.iconst 1, 1) := by decide +kernel
theorem dX8_begin_1 : decode cX8_begin 1 = .ok (.istore_n 2, 1) := by decide +kernel
theorem dX8_begin_2 : decode cX8_begin 2 = .ok (.iload_n 2, 1) := by decide +kernel
theorem dX8_begin_3 : decode cX8_begin 3 = .ok (.iload_n 1, 1) := by decide +kernel
theorem dX8_begin_4 : decode cX8_begin 4 = .ok (.if_icmp .gt 16, 3) := by decide +kernel
theorem dX8_begin_7 : decode cX8_begin 7 = .ok (.aload_n 0, 1) := by decide +kernel
theorem dX8_begin_8 : decode cX8_begin 8 = .ok (.getfield 167, 3) := by decide +kernel
theorem dX8_begin_11 : decode cX8_begin 11 = .ok (.iload_n 2, 1) := by decide +kernel
theorem dX8_begin_12 : decode cX8_begin 12 = .ok (.iload_n 2, 1) := by decide +kernel
theorem dX8_begin_13 : decode cX8_begin 13 = .ok (.iastore, 1) := by decide +kernel
theorem dX8_begin_14 : decode cX8_begin 14 = .ok (.iinc 2 1, 3) := by decide +kernel
theorem dX8_begin_17 : decode cX8_begin 17 = .ok (.goto (-15), 3) := by decide +kernel
theorem dX8_begin_20 : decode cX8_begin 20 = .ok (.return_, 1) := by decide +kernel
theorem dX8_isNaming_0 : decode cX8_isNaming 0 = .ok (.iconst 1, 1) := by decide +kernel
theorem dX8_isNaming_1 : decode cX8_isNaming 1 = .ok (.istore_n 2, 1) := by decide +kernel
theorem dX8_isNaming_2 : decode cX8_isNaming 2 = .ok (.iconst 1, 1) := by decide +kernel
theorem dX8_isNaming_3 : decode cX8_isNaming 3 = .ok (.istore_n 3, 1) := by decide +kernel
theorem dX8_isNaming_4 : decode cX8_isNaming 4 = .ok (.iload_n 3, 1) := by decide +kernel
theorem dX8_isNaming_5 : decode cX8_isNaming 5 = .ok (.iload_n 1, 1) := by decide +kernel
theorem dX8_isNaming_6 : decode cX8_isNaming 6 = .ok (.if_icmp .gt 39, 3) := by decide +kernel
theorem dX8_isNaming_9 : decode cX8_isNaming 9 = .ok (.iload_n 2, 1) := by decide +kernel
theorem dX8_isNaming_10 : decode cX8_isNaming 10 = .ok (.ifCond .eq 35, 3) := by decide +kernel
theorem dX8_isNaming_13 : decode cX8_isNaming 13 = .ok (.aload_n 0, 1) := by decide +kernel
theorem dX8_isNaming_14 : decode cX8_isNaming 14 = .ok (.getfield 164, 3) := by decide +kernel
theorem dX8_isNaming_17 : decode cX8_isNaming 17 = .ok (.aload_n 0, 1) := by decide +kernel
theorem dX8_isNaming_18 : decode cX8_isNaming 18 = .ok (.getfield 167, 3) := by decide +kernel
theorem dX8_isNaming_21 : decode cX8_isNaming 21 = .ok (.iload_n 3, 1) := by decide +kernel
theorem dX8_isNaming_22 : decode cX8_isNaming 22 = .ok (.iaload, 1) := by decide +kernel
theorem dX8_isNaming_23 : decode cX8_isNaming 23 = .ok (.iaload, 1) := by decide +kernel
theorem dX8_isNaming_24 : decode cX8_isNaming 24 = .ok (.aload_n 0, 1) := by decide +kernel
theorem dX8_isNaming_25 : decode cX8_isNaming 25 = .ok (.getfield 161, 3) := by decide +kernel
theorem dX8_isNaming_28 : decode cX8_isNaming 28 = .ok (.iload_n 3, 1) := by decide +kernel
theorem dX8_isNaming_29 : decode cX8_isNaming 29 = .ok (.iaload, 1) := by decide +kernel
theorem dX8_isNaming_30 : decode cX8_isNaming 30 = .ok (.if_icmp .ne 7, 3) := by decide +kernel
theorem dX8_isNaming_33 : decode cX8_isNaming 33 = .ok (.iconst 1, 1) := by decide +kernel
theorem dX8_isNaming_34 : decode cX8_isNaming 34 = .ok (.goto 4, 3) := by decide +kernel
theorem dX8_isNaming_37 : decode cX8_isNaming 37 = .ok (.iconst 0, 1) := by decide +kernel
theorem dX8_isNaming_38 : decode cX8_isNaming 38 = .ok (.istore_n 2, 1) := by decide +kernel
theorem dX8_isNaming_39 : decode cX8_isNaming 39 = .ok (.iinc 3 1, 3) := by decide +kernel
theorem dX8_isNaming_42 : decode cX8_isNaming 42 = .ok (.goto (-38), 3) := by decide +kernel
theorem dX8_isNaming_45 : decode cX8_isNaming 45 = .ok (.iload_n 2, 1) := by decide +kernel
theorem dX8_isNaming_46 : decode cX8_isNaming 46 = .ok (.ireturn, 1) := by decide +kernel
theorem dX8_compareTriples_0 : decode cX8_compareTriples 0 = .ok (.iconst 0, 1) := by decide +kernel
theorem dX8_compareTriples_1 : decode cX8_compareTriples 1 = .ok (.istore 4, 2) := by decide +kernel
theorem dX8_compareTriples_3 : decode cX8_compareTriples 3 = .ok (.iload 4, 2) := by decide +kernel
theorem dX8_compareTriples_5 : decode cX8_compareTriples 5 = .ok (.iconst 3, 1) := by decide +kernel
theorem dX8_compareTriples_6 : decode cX8_compareTriples 6 = .ok (.if_icmp .ge 53, 3) := by decide +kernel
theorem dX8_compareTriples_9 : decode cX8_compareTriples 9 = .ok (.aload_n 0, 1) := by decide +kernel
theorem dX8_compareTriples_10 : decode cX8_compareTriples 10 = .ok (.iconst 3, 1) := by decide +kernel
theorem dX8_compareTriples_11 : decode cX8_compareTriples 11 = .ok (.iload_n 1, 1) := by decide +kernel
theorem dX8_compareTriples_12 : decode cX8_compareTriples 12 = .ok (.imul, 1) := by decide +kernel
theorem dX8_compareTriples_13 : decode cX8_compareTriples 13 = .ok (.iload 4, 2) := by decide +kernel
theorem dX8_compareTriples_15 : decode cX8_compareTriples 15 = .ok (.iadd, 1) := by decide +kernel
theorem dX8_compareTriples_16 : decode cX8_compareTriples 16 = .ok (.iaload, 1) := by decide +kernel
theorem dX8_compareTriples_17 : decode cX8_compareTriples 17 = .ok (.aload_n 2, 1) := by decide +kernel
theorem dX8_compareTriples_18 : decode cX8_compareTriples 18 = .ok (.iconst 3, 1) := by decide +kernel
theorem dX8_compareTriples_19 : decode cX8_compareTriples 19 = .ok (.iload_n 3, 1) := by decide +kernel
theorem dX8_compareTriples_20 : decode cX8_compareTriples 20 = .ok (.imul, 1) := by decide +kernel
theorem dX8_compareTriples_21 : decode cX8_compareTriples 21 = .ok (.iload 4, 2) := by decide +kernel
theorem dX8_compareTriples_23 : decode cX8_compareTriples 23 = .ok (.iadd, 1) := by decide +kernel
theorem dX8_compareTriples_24 : decode cX8_compareTriples 24 = .ok (.iaload, 1) := by decide +kernel
theorem dX8_compareTriples_25 : decode cX8_compareTriples 25 = .ok (.if_icmp .eq 28, 3) := by decide +kernel
theorem dX8_compareTriples_28 : decode cX8_compareTriples 28 = .ok (.aload_n 0, 1) := by decide +kernel
theorem dX8_compareTriples_29 : decode cX8_compareTriples 29 = .ok (.iconst 3, 1) := by decide +kernel
theorem dX8_compareTriples_30 : decode cX8_compareTriples 30 = .ok (.iload_n 1, 1) := by decide +kernel
theorem dX8_compareTriples_31 : decode cX8_compareTriples 31 = .ok (.imul, 1) := by decide +kernel
theorem dX8_compareTriples_32 : decode cX8_compareTriples 32 = .ok (.iload 4, 2) := by decide +kernel
theorem dX8_compareTriples_34 : decode cX8_compareTriples 34 = .ok (.iadd, 1) := by decide +kernel
theorem dX8_compareTriples_35 : decode cX8_compareTriples 35 = .ok (.iaload, 1) := by decide +kernel
theorem dX8_compareTriples_36 : decode cX8_compareTriples 36 = .ok (.aload_n 2, 1) := by decide +kernel
theorem dX8_compareTriples_37 : decode cX8_compareTriples 37 = .ok (.iconst 3, 1) := by decide +kernel
theorem dX8_compareTriples_38 : decode cX8_compareTriples 38 = .ok (.iload_n 3, 1) := by decide +kernel
theorem dX8_compareTriples_39 : decode cX8_compareTriples 39 = .ok (.imul, 1) := by decide +kernel
theorem dX8_compareTriples_40 : decode cX8_compareTriples 40 = .ok (.iload 4, 2) := by decide +kernel
theorem dX8_compareTriples_42 : decode cX8_compareTriples 42 = .ok (.iadd, 1) := by decide +kernel
theorem dX8_compareTriples_43 : decode cX8_compareTriples 43 = .ok (.iaload, 1) := by decide +kernel
theorem dX8_compareTriples_44 : decode cX8_compareTriples 44 = .ok (.if_icmp .ge 7, 3) := by decide +kernel
theorem dX8_compareTriples_47 : decode cX8_compareTriples 47 = .ok (.iconst (-1), 1) := by decide +kernel
theorem dX8_compareTriples_48 : decode cX8_compareTriples 48 = .ok (.goto 4, 3) := by decide +kernel
theorem dX8_compareTriples_51 : decode cX8_compareTriples 51 = .ok (.iconst 1, 1) := by decide +kernel
theorem dX8_compareTriples_52 : decode cX8_compareTriples 52 = .ok (.ireturn, 1) := by decide +kernel
theorem dX8_compareTriples_53 : decode cX8_compareTriples 53 = .ok (.iinc 4 1, 3) := by decide +kernel
theorem dX8_compareTriples_56 : decode cX8_compareTriples 56 = .ok (.goto (-53), 3) := by decide +kernel
theorem dX8_compareTriples_59 : decode cX8_compareTriples 59 = .ok (.iconst 0, 1) := by decide +kernel
theorem dX8_compareTriples_60 : decode cX8_compareTriples 60 = .ok (.ireturn, 1) := by decide +kernel
theorem dX8_numbered_0 : decode cX8_numbered 0 = .ok (.iload_n 1, 1) := by decide +kernel
theorem dX8_numbered_1 : decode cX8_numbered 1 = .ok (.ifCond .le 7, 3) := by decide +kernel
theorem dX8_numbered_4 : decode cX8_numbered 4 = .ok (.iload_n 1, 1) := by decide +kernel
theorem dX8_numbered_5 : decode cX8_numbered 5 = .ok (.goto 11, 3) := by decide +kernel
theorem dX8_numbered_8 : decode cX8_numbered 8 = .ok (.aload_n 0, 1) := by decide +kernel
theorem dX8_numbered_9 : decode cX8_numbered 9 = .ok (.getfield 167, 3) := by decide +kernel
theorem dX8_numbered_12 : decode cX8_numbered 12 = .ok (.iload_n 1, 1) := by decide +kernel
theorem dX8_numbered_13 : decode cX8_numbered 13 = .ok (.ineg, 1) := by decide +kernel
theorem dX8_numbered_14 : decode cX8_numbered 14 = .ok (.iaload, 1) := by decide +kernel
theorem dX8_numbered_15 : decode cX8_numbered 15 = .ok (.ineg, 1) := by decide +kernel
theorem dX8_numbered_16 : decode cX8_numbered 16 = .ok (.ireturn, 1) := by decide +kernel
theorem dX8_makeRow_0 : decode cX8_makeRow 0 = .ok (.iconst 0, 1) := by decide +kernel
theorem dX8_makeRow_1 : decode cX8_makeRow 1 = .ok (.istore_n 1, 1) := by decide +kernel
theorem dX8_makeRow_2 : decode cX8_makeRow 2 = .ok (.iload_n 1, 1) := by decide +kernel
theorem dX8_makeRow_3 : decode cX8_makeRow 3 = .ok (.aload_n 0, 1) := by decide +kernel
theorem dX8_makeRow_4 : decode cX8_makeRow 4 = .ok (.getfield 149, 3) := by decide +kernel
theorem dX8_makeRow_7 : decode cX8_makeRow 7 = .ok (.bipush 8, 2) := by decide +kernel
theorem dX8_makeRow_9 : decode cX8_makeRow 9 = .ok (.iaload, 1) := by decide +kernel
theorem dX8_makeRow_10 : decode cX8_makeRow 10 = .ok (.if_icmp .ge 187, 3) := by decide +kernel
theorem dX8_makeRow_13 : decode cX8_makeRow 13 = .ok (.bipush 8, 2) := by decide +kernel
theorem dX8_makeRow_15 : decode cX8_makeRow 15 = .ok (.iload_n 1, 1) := by decide +kernel
theorem dX8_makeRow_16 : decode cX8_makeRow 16 = .ok (.invokestatic 245, 3) := by decide +kernel
theorem dX8_makeRow_19 : decode cX8_makeRow 19 = .ok (.istore_n 2, 1) := by decide +kernel
theorem dX8_makeRow_20 : decode cX8_makeRow 20 = .ok (.iload_n 1, 1) := by decide +kernel
theorem dX8_makeRow_21 : decode cX8_makeRow 21 = .ok (.istore_n 3, 1) := by decide +kernel
theorem dX8_makeRow_22 : decode cX8_makeRow 22 = .ok (.aload_n 0, 1) := by decide +kernel
theorem dX8_makeRow_23 : decode cX8_makeRow 23 = .ok (.aload_n 0, 1) := by decide +kernel
theorem dX8_makeRow_24 : decode cX8_makeRow 24 = .ok (.getfield 152, 3) := by decide +kernel
theorem dX8_makeRow_27 : decode cX8_makeRow 27 = .ok (.iload_n 2, 1) := by decide +kernel
theorem dX8_makeRow_28 : decode cX8_makeRow 28 = .ok (.iaload, 1) := by decide +kernel
theorem dX8_makeRow_29 : decode cX8_makeRow 29 = .ok (.invokevirtual 300, 3) := by decide +kernel
theorem dX8_makeRow_32 : decode cX8_makeRow 32 = .ok (.istore 4, 2) := by decide +kernel
theorem dX8_makeRow_34 : decode cX8_makeRow 34 = .ok (.aload_n 0, 1) := by decide +kernel
theorem dX8_makeRow_35 : decode cX8_makeRow 35 = .ok (.aload_n 0, 1) := by decide +kernel
theorem dX8_makeRow_36 : decode cX8_makeRow 36 = .ok (.getfield 152, 3) := by decide +kernel
theorem dX8_makeRow_39 : decode cX8_makeRow 39 = .ok (.iload_n 2, 1) := by decide +kernel
theorem dX8_makeRow_40 : decode cX8_makeRow 40 = .ok (.iconst 1, 1) := by decide +kernel
theorem dX8_makeRow_41 : decode cX8_makeRow 41 = .ok (.iadd, 1) := by decide +kernel
theorem dX8_makeRow_42 : decode cX8_makeRow 42 = .ok (.iaload, 1) := by decide +kernel
theorem dX8_makeRow_43 : decode cX8_makeRow 43 = .ok (.invokevirtual 300, 3) := by decide +kernel
theorem dX8_makeRow_46 : decode cX8_makeRow 46 = .ok (.istore 5, 2) := by decide +kernel
theorem dX8_makeRow_48 : decode cX8_makeRow 48 = .ok (.aload_n 0, 1) := by decide +kernel
theorem dX8_makeRow_49 : decode cX8_makeRow 49 = .ok (.aload_n 0, 1) := by decide +kernel
theorem dX8_makeRow_50 : decode cX8_makeRow 50 = .ok (.getfield 152, 3) := by decide +kernel
theorem dX8_makeRow_53 : decode cX8_makeRow 53 = .ok (.iload_n 2, 1) := by decide +kernel
theorem dX8_makeRow_54 : decode cX8_makeRow 54 = .ok (.iconst 2, 1) := by decide +kernel
theorem dX8_makeRow_55 : decode cX8_makeRow 55 = .ok (.iadd, 1) := by decide +kernel
theorem dX8_makeRow_56 : decode cX8_makeRow 56 = .ok (.iaload, 1) := by decide +kernel
theorem dX8_makeRow_57 : decode cX8_makeRow 57 = .ok (.invokevirtual 300, 3) := by decide +kernel
theorem dX8_makeRow_60 : decode cX8_makeRow 60 = .ok (.istore 6, 2) := by decide +kernel
theorem dX8_makeRow_62 : decode cX8_makeRow 62 = .ok (.aload_n 0, 1) := by decide +kernel
theorem dX8_makeRow_63 : decode cX8_makeRow 63 = .ok (.getfield 170, 3) := by decide +kernel
theorem dX8_makeRow_66 : decode cX8_makeRow 66 = .ok (.iconst 3, 1) := by decide +kernel
theorem dX8_makeRow_67 : decode cX8_makeRow 67 = .ok (.iload_n 3, 1) := by decide +kernel
theorem dX8_makeRow_68 : decode cX8_makeRow 68 = .ok (.imul, 1) := by decide +kernel
theorem dX8_makeRow_69 : decode cX8_makeRow 69 = .ok (.iload 4, 2) := by decide +kernel
theorem dX8_makeRow_71 : decode cX8_makeRow 71 = .ok (.iastore, 1) := by decide +kernel
theorem dX8_makeRow_72 : decode cX8_makeRow 72 = .ok (.aload_n 0, 1) := by decide +kernel
theorem dX8_makeRow_73 : decode cX8_makeRow 73 = .ok (.getfield 170, 3) := by decide +kernel
theorem dX8_makeRow_76 : decode cX8_makeRow 76 = .ok (.iconst 3, 1) := by decide +kernel
theorem dX8_makeRow_77 : decode cX8_makeRow 77 = .ok (.iload_n 3, 1) := by decide +kernel
theorem dX8_makeRow_78 : decode cX8_makeRow 78 = .ok (.imul, 1) := by decide +kernel
theorem dX8_makeRow_79 : decode cX8_makeRow 79 = .ok (.iconst 1, 1) := by decide +kernel
theorem dX8_makeRow_80 : decode cX8_makeRow 80 = .ok (.iadd, 1) := by decide +kernel
theorem dX8_makeRow_81 : decode cX8_makeRow 81 = .ok (.iload 5, 2) := by decide +kernel
theorem dX8_makeRow_83 : decode cX8_makeRow 83 = .ok (.iastore, 1) := by decide +kernel
theorem dX8_makeRow_84 : decode cX8_makeRow 84 = .ok (.aload_n 0, 1) := by decide +kernel
theorem dX8_makeRow_85 : decode cX8_makeRow 85 = .ok (.getfield 170, 3) := by decide +kernel
theorem dX8_makeRow_88 : decode cX8_makeRow 88 = .ok (.iconst 3, 1) := by decide +kernel
theorem dX8_makeRow_89 : decode cX8_makeRow 89 = .ok (.iload_n 3, 1) := by decide +kernel
theorem dX8_makeRow_90 : decode cX8_makeRow 90 = .ok (.imul, 1) := by decide +kernel
theorem dX8_makeRow_91 : decode cX8_makeRow 91 = .ok (.iconst 2, 1) := by decide +kernel
theorem dX8_makeRow_92 : decode cX8_makeRow 92 = .ok (.iadd, 1) := by decide +kernel
theorem dX8_makeRow_93 : decode cX8_makeRow 93 = .ok (.iload 6, 2) := by decide +kernel
theorem dX8_makeRow_95 : decode cX8_makeRow 95 = .ok (.iastore, 1) := by decide +kernel
theorem dX8_makeRow_96 : decode cX8_makeRow 96 = .ok (.iload_n 3, 1) := by decide +kernel
theorem dX8_makeRow_97 : decode cX8_makeRow 97 = .ok (.ifCond .le 94, 3) := by decide +kernel
theorem dX8_makeRow_100 : decode cX8_makeRow 100 = .ok (.aload_n 0, 1) := by decide +kernel
theorem dX8_makeRow_101 : decode cX8_makeRow 101 = .ok (.getfield 170, 3) := by decide +kernel
theorem dX8_makeRow_104 : decode cX8_makeRow 104 = .ok (.iload_n 3, 1) := by decide +kernel
theorem dX8_makeRow_105 : decode cX8_makeRow 105 = .ok (.aload_n 0, 1) := by decide +kernel
theorem dX8_makeRow_106 : decode cX8_makeRow 106 = .ok (.getfield 170, 3) := by decide +kernel
theorem dX8_makeRow_109 : decode cX8_makeRow 109 = .ok (.iload_n 3, 1) := by decide +kernel
theorem dX8_makeRow_110 : decode cX8_makeRow 110 = .ok (.iconst 1, 1) := by decide +kernel
theorem dX8_makeRow_111 : decode cX8_makeRow 111 = .ok (.isub, 1) := by decide +kernel
theorem dX8_makeRow_112 : decode cX8_makeRow 112 = .ok (.invokestatic 304, 3) := by decide +kernel
theorem dX8_makeRow_115 : decode cX8_makeRow 115 = .ok (.ifCond .ge 76, 3) := by decide +kernel
theorem dX8_makeRow_118 : decode cX8_makeRow 118 = .ok (.iconst 0, 1) := by decide +kernel
theorem dX8_makeRow_119 : decode cX8_makeRow 119 = .ok (.istore 7, 2) := by decide +kernel
theorem dX8_makeRow_121 : decode cX8_makeRow 121 = .ok (.iload 7, 2) := by decide +kernel
theorem dX8_makeRow_123 : decode cX8_makeRow 123 = .ok (.iconst 3, 1) := by decide +kernel
theorem dX8_makeRow_124 : decode cX8_makeRow 124 = .ok (.if_icmp .ge 61, 3) := by decide +kernel
theorem dX8_makeRow_127 : decode cX8_makeRow 127 = .ok (.aload_n 0, 1) := by decide +kernel
theorem dX8_makeRow_128 : decode cX8_makeRow 128 = .ok (.getfield 170, 3) := by decide +kernel
theorem dX8_makeRow_131 : decode cX8_makeRow 131 = .ok (.iconst 3, 1) := by decide +kernel
theorem dX8_makeRow_132 : decode cX8_makeRow 132 = .ok (.iload_n 3, 1) := by decide +kernel
theorem dX8_makeRow_133 : decode cX8_makeRow 133 = .ok (.imul, 1) := by decide +kernel
theorem dX8_makeRow_134 : decode cX8_makeRow 134 = .ok (.iload 7, 2) := by decide +kernel
theorem dX8_makeRow_136 : decode cX8_makeRow 136 = .ok (.iadd, 1) := by decide +kernel
theorem dX8_makeRow_137 : decode cX8_makeRow 137 = .ok (.iaload, 1) := by decide +kernel
theorem dX8_makeRow_138 : decode cX8_makeRow 138 = .ok (.istore 8, 2) := by decide +kernel
theorem dX8_makeRow_140 : decode cX8_makeRow 140 = .ok (.aload_n 0, 1) := by decide +kernel
theorem dX8_makeRow_141 : decode cX8_makeRow 141 = .ok (.getfield 170, 3) := by decide +kernel
theorem dX8_makeRow_144 : decode cX8_makeRow 144 = .ok (.iconst 3, 1) := by decide +kernel
theorem dX8_makeRow_145 : decode cX8_makeRow 145 = .ok (.iload_n 3, 1) := by decide +kernel
theorem dX8_makeRow_146 : decode cX8_makeRow 146 = .ok (.imul, 1) := by decide +kernel
theorem dX8_makeRow_147 : decode cX8_makeRow 147 = .ok (.iload 7, 2) := by decide +kernel
theorem dX8_makeRow_149 : decode cX8_makeRow 149 = .ok (.iadd, 1) := by decide +kernel
theorem dX8_makeRow_150 : decode cX8_makeRow 150 = .ok (.aload_n 0, 1) := by decide +kernel
theorem dX8_makeRow_151 : decode cX8_makeRow 151 = .ok (.getfield 170, 3) := by decide +kernel
theorem dX8_makeRow_154 : decode cX8_makeRow 154 = .ok (.iconst 3, 1) := by decide +kernel
theorem dX8_makeRow_155 : decode cX8_makeRow 155 = .ok (.iload_n 3, 1) := by decide +kernel
theorem dX8_makeRow_156 : decode cX8_makeRow 156 = .ok (.imul, 1) := by decide +kernel
theorem dX8_makeRow_157 : decode cX8_makeRow 157 = .ok (.iconst 3, 1) := by decide +kernel
theorem dX8_makeRow_158 : decode cX8_makeRow 158 = .ok (.isub, 1) := by decide +kernel
theorem dX8_makeRow_159 : decode cX8_makeRow 159 = .ok (.iload 7, 2) := by decide +kernel
theorem dX8_makeRow_161 : decode cX8_makeRow 161 = .ok (.iadd, 1) := by decide +kernel
theorem dX8_makeRow_162 : decode cX8_makeRow 162 = .ok (.iaload, 1) := by decide +kernel
theorem dX8_makeRow_163 : decode cX8_makeRow 163 = .ok (.iastore, 1) := by decide +kernel
theorem dX8_makeRow_164 : decode cX8_makeRow 164 = .ok (.aload_n 0, 1) := by decide +kernel
theorem dX8_makeRow_165 : decode cX8_makeRow 165 = .ok (.getfield 170, 3) := by decide +kernel
theorem dX8_makeRow_168 : decode cX8_makeRow 168 = .ok (.iconst 3, 1) := by decide +kernel
theorem dX8_makeRow_169 : decode cX8_makeRow 169 = .ok (.iload_n 3, 1) := by decide +kernel
theorem dX8_makeRow_170 : decode cX8_makeRow 170 = .ok (.imul, 1) := by decide +kernel
theorem dX8_makeRow_171 : decode cX8_makeRow 171 = .ok (.iconst 3, 1) := by decide +kernel
theorem dX8_makeRow_172 : decode cX8_makeRow 172 = .ok (.isub, 1) := by decide +kernel
theorem dX8_makeRow_173 : decode cX8_makeRow 173 = .ok (.iload 7, 2) := by decide +kernel
theorem dX8_makeRow_175 : decode cX8_makeRow 175 = .ok (.iadd, 1) := by decide +kernel
theorem dX8_makeRow_176 : decode cX8_makeRow 176 = .ok (.iload 8, 2) := by decide +kernel
theorem dX8_makeRow_178 : decode cX8_makeRow 178 = .ok (.iastore, 1) := by decide +kernel
theorem dX8_makeRow_179 : decode cX8_makeRow 179 = .ok (.iinc 7 1, 3) := by decide +kernel
theorem dX8_makeRow_182 : decode cX8_makeRow 182 = .ok (.goto (-61), 3) := by decide +kernel
theorem dX8_makeRow_185 : decode cX8_makeRow 185 = .ok (.iinc 3 (-1), 3) := by decide +kernel
theorem dX8_makeRow_188 : decode cX8_makeRow 188 = .ok (.goto (-92), 3) := by decide +kernel
theorem dX8_makeRow_191 : decode cX8_makeRow 191 = .ok (.iinc 1 1, 3) := by decide +kernel
theorem dX8_makeRow_194 : decode cX8_makeRow 194 = .ok (.goto (-192), 3) := by decide +kernel
theorem dX8_makeRow_197 : decode cX8_makeRow 197 = .ok (.return_, 1) := by decide +kernel
theorem dX8_compareForm_0 : decode cX8_compareForm 0 = .ok (.iconst 0, 1) := by decide +kernel
theorem dX8_compareForm_1 : decode cX8_compareForm 1 = .ok (.istore_n 1, 1) := by decide +kernel
theorem dX8_compareForm_2 : decode cX8_compareForm 2 = .ok (.iload_n 1, 1) := by decide +kernel
theorem dX8_compareForm_3 : decode cX8_compareForm 3 = .ok (.aload_n 0, 1) := by decide +kernel
theorem dX8_compareForm_4 : decode cX8_compareForm 4 = .ok (.getfield 149, 3) := by decide +kernel
theorem dX8_compareForm_7 : decode cX8_compareForm 7 = .ok (.bipush 8, 2) := by decide +kernel
theorem dX8_compareForm_9 : decode cX8_compareForm 9 = .ok (.iaload, 1) := by decide +kernel
theorem dX8_compareForm_10 : decode cX8_compareForm 10 = .ok (.if_icmp .ge 29, 3) := by decide +kernel
theorem dX8_compareForm_13 : decode cX8_compareForm 13 = .ok (.aload_n 0, 1) := by decide +kernel
theorem dX8_compareForm_14 : decode cX8_compareForm 14 = .ok (.getfield 170, 3) := by decide +kernel
theorem dX8_compareForm_17 : decode cX8_compareForm 17 = .ok (.iload_n 1, 1) := by decide +kernel
theorem dX8_compareForm_18 : decode cX8_compareForm 18 = .ok (.aload_n 0, 1) := by decide +kernel
theorem dX8_compareForm_19 : decode cX8_compareForm 19 = .ok (.getfield 176, 3) := by decide +kernel
theorem dX8_compareForm_22 : decode cX8_compareForm 22 = .ok (.iload_n 1, 1) := by decide +kernel
theorem dX8_compareForm_23 : decode cX8_compareForm 23 = .ok (.invokestatic 304, 3) := by decide +kernel
theorem dX8_compareForm_26 : decode cX8_compareForm 26 = .ok (.istore_n 2, 1) := by decide +kernel
theorem dX8_compareForm_27 : decode cX8_compareForm 27 = .ok (.iload_n 2, 1) := by decide +kernel
theorem dX8_compareForm_28 : decode cX8_compareForm 28 = .ok (.ifCond .eq 5, 3) := by decide +kernel
theorem dX8_compareForm_31 : decode cX8_compareForm 31 = .ok (.iload_n 2, 1) := by decide +kernel
theorem dX8_compareForm_32 : decode cX8_compareForm 32 = .ok (.ireturn, 1) := by decide +kernel
theorem dX8_compareForm_33 : decode cX8_compareForm 33 = .ok (.iinc 1 1, 3) := by decide +kernel
theorem dX8_compareForm_36 : decode cX8_compareForm 36 = .ok (.goto (-34), 3) := by decide +kernel
theorem dX8_compareForm_39 : decode cX8_compareForm 39 = .ok (.iconst 0, 1) := by decide +kernel
theorem dX8_compareForm_40 : decode cX8_compareForm 40 = .ok (.ireturn, 1) := by decide +kernel
theorem dX8_namings_0 : decode cX8_namings 0 = .ok (.lconst 1, 1) := by decide +kernel
theorem dX8_namings_1 : decode cX8_namings 1 = .ok (.lstore_n 1, 1) := by decide +kernel
theorem dX8_namings_2 : decode cX8_namings 2 = .ok (.iconst 0, 1) := by decide +kernel
theorem dX8_namings_3 : decode cX8_namings 3 = .ok (.istore_n 3, 1) := by decide +kernel
theorem dX8_namings_4 : decode cX8_namings 4 = .ok (.iload_n 3, 1) := by decide +kernel
theorem dX8_namings_5 : decode cX8_namings 5 = .ok (.aload_n 0, 1) := by decide +kernel
theorem dX8_namings_6 : decode cX8_namings 6 = .ok (.getfield 291, 3) := by decide +kernel
theorem dX8_namings_9 : decode cX8_namings 9 = .ok (.if_icmp .ge 75, 3) := by decide +kernel
theorem dX8_namings_12 : decode cX8_namings 12 = .ok (.iconst 0, 1) := by decide +kernel
theorem dX8_namings_13 : decode cX8_namings 13 = .ok (.istore 4, 2) := by decide +kernel
theorem dX8_namings_15 : decode cX8_namings 15 = .ok (.iconst 1, 1) := by decide +kernel
theorem dX8_namings_16 : decode cX8_namings 16 = .ok (.istore 5, 2) := by decide +kernel
theorem dX8_namings_18 : decode cX8_namings 18 = .ok (.iload 5, 2) := by decide +kernel
theorem dX8_namings_20 : decode cX8_namings 20 = .ok (.aload_n 0, 1) := by decide +kernel
theorem dX8_namings_21 : decode cX8_namings 21 = .ok (.getfield 145, 3) := by decide +kernel
theorem dX8_namings_24 : decode cX8_namings 24 = .ok (.bipush 8, 2) := by decide +kernel
theorem dX8_namings_26 : decode cX8_namings 26 = .ok (.iaload, 1) := by decide +kernel
theorem dX8_namings_27 : decode cX8_namings 27 = .ok (.if_icmp .gt 51, 3) := by decide +kernel
theorem dX8_namings_30 : decode cX8_namings 30 = .ok (.iload 4, 2) := by decide +kernel
theorem dX8_namings_32 : decode cX8_namings 32 = .ok (.aload_n 0, 1) := by decide +kernel
theorem dX8_namings_33 : decode cX8_namings 33 = .ok (.getfield 161, 3) := by decide +kernel
theorem dX8_namings_36 : decode cX8_namings 36 = .ok (.iload 5, 2) := by decide +kernel
theorem dX8_namings_38 : decode cX8_namings 38 = .ok (.iaload, 1) := by decide +kernel
theorem dX8_namings_39 : decode cX8_namings 39 = .ok (.iload_n 3, 1) := by decide +kernel
theorem dX8_namings_40 : decode cX8_namings 40 = .ok (.if_icmp .ne 7, 3) := by decide +kernel
theorem dX8_namings_43 : decode cX8_namings 43 = .ok (.iconst 1, 1) := by decide +kernel
theorem dX8_namings_44 : decode cX8_namings 44 = .ok (.goto 4, 3) := by decide +kernel
theorem dX8_namings_47 : decode cX8_namings 47 = .ok (.iconst 0, 1) := by decide +kernel
theorem dX8_namings_48 : decode cX8_namings 48 = .ok (.iadd, 1) := by decide +kernel
theorem dX8_namings_49 : decode cX8_namings 49 = .ok (.istore 4, 2) := by decide +kernel
theorem dX8_namings_51 : decode cX8_namings 51 = .ok (.aload_n 0, 1) := by decide +kernel
theorem dX8_namings_52 : decode cX8_namings 52 = .ok (.getfield 161, 3) := by decide +kernel
theorem dX8_namings_55 : decode cX8_namings 55 = .ok (.iload 5, 2) := by decide +kernel
theorem dX8_namings_57 : decode cX8_namings 57 = .ok (.iaload, 1) := by decide +kernel
theorem dX8_namings_58 : decode cX8_namings 58 = .ok (.iload_n 3, 1) := by decide +kernel
theorem dX8_namings_59 : decode cX8_namings 59 = .ok (.if_icmp .ne 11, 3) := by decide +kernel
theorem dX8_namings_62 : decode cX8_namings 62 = .ok (.lload_n 1, 1) := by decide +kernel
theorem dX8_namings_63 : decode cX8_namings 63 = .ok (.iload 4, 2) := by decide +kernel
theorem dX8_namings_65 : decode cX8_namings 65 = .ok (.i2l, 1) := by decide +kernel
theorem dX8_namings_66 : decode cX8_namings 66 = .ok (.lmul, 1) := by decide +kernel
theorem dX8_namings_67 : decode cX8_namings 67 = .ok (.goto 4, 3) := by decide +kernel
theorem dX8_namings_70 : decode cX8_namings 70 = .ok (.lload_n 1, 1) := by decide +kernel
theorem dX8_namings_71 : decode cX8_namings 71 = .ok (.lstore_n 1, 1) := by decide +kernel
theorem dX8_namings_72 : decode cX8_namings 72 = .ok (.iinc 5 1, 3) := by decide +kernel
theorem dX8_namings_75 : decode cX8_namings 75 = .ok (.goto (-57), 3) := by decide +kernel
theorem dX8_namings_78 : decode cX8_namings 78 = .ok (.iinc 3 1, 3) := by decide +kernel
theorem dX8_namings_81 : decode cX8_namings 81 = .ok (.goto (-77), 3) := by decide +kernel
theorem dX8_namings_84 : decode cX8_namings 84 = .ok (.lload_n 1, 1) := by decide +kernel
theorem dX8_namings_85 : decode cX8_namings 85 = .ok (.lreturn, 1) := by decide +kernel
theorem dX8_name_0 : decode cX8_name 0 = .ok (.aload_n 0, 1) := by decide +kernel
theorem dX8_name_1 : decode cX8_name 1 = .ok (.iconst 0, 1) := by decide +kernel
theorem dX8_name_2 : decode cX8_name 2 = .ok (.putfield 1, 3) := by decide +kernel
theorem dX8_name_5 : decode cX8_name 5 = .ok (.aload_n 0, 1) := by decide +kernel
theorem dX8_name_6 : decode cX8_name 6 = .ok (.invokevirtual 294, 3) := by decide +kernel
theorem dX8_name_9 : decode cX8_name 9 = .ok (.aload_n 0, 1) := by decide +kernel
theorem dX8_name_10 : decode cX8_name 10 = .ok (.invokevirtual 308, 3) := by decide +kernel
theorem dX8_name_13 : decode cX8_name 13 = .ok (.lload_n 1, 1) := by decide +kernel
theorem dX8_name_14 : decode cX8_name 14 = .ok (.lcmp, 1) := by decide +kernel
theorem dX8_name_15 : decode cX8_name 15 = .ok (.ifCond .le 5, 3) := by decide +kernel
theorem dX8_name_18 : decode cX8_name 18 = .ok (.iconst (-1), 1) := by decide +kernel
theorem dX8_name_19 : decode cX8_name 19 = .ok (.ireturn, 1) := by decide +kernel
theorem dX8_name_20 : decode cX8_name 20 = .ok (.aload_n 0, 1) := by decide +kernel
theorem dX8_name_21 : decode cX8_name 21 = .ok (.getfield 145, 3) := by decide +kernel
theorem dX8_name_24 : decode cX8_name 24 = .ok (.bipush 8, 2) := by decide +kernel
theorem dX8_name_26 : decode cX8_name 26 = .ok (.iaload, 1) := by decide +kernel
theorem dX8_name_27 : decode cX8_name 27 = .ok (.istore_n 3, 1) := by decide +kernel
theorem dX8_name_28 : decode cX8_name 28 = .ok (.iconst 0, 1) := by decide +kernel
theorem dX8_name_29 : decode cX8_name 29 = .ok (.istore 4, 2) := by decide +kernel
theorem dX8_name_31 : decode cX8_name 31 = .ok (.aload_n 0, 1) := by decide +kernel
theorem dX8_name_32 : decode cX8_name 32 = .ok (.iload_n 3, 1) := by decide +kernel
theorem dX8_name_33 : decode cX8_name 33 = .ok (.invokevirtual 312, 3) := by decide +kernel
theorem dX8_name_36 : decode cX8_name 36 = .ok (.iconst 1, 1) := by decide +kernel
theorem dX8_name_37 : decode cX8_name 37 = .ok (.istore 5, 2) := by decide +kernel
theorem dX8_name_39 : decode cX8_name 39 = .ok (.iload 5, 2) := by decide +kernel
theorem dX8_name_41 : decode cX8_name 41 = .ok (.ifCond .eq 75, 3) := by decide +kernel
theorem dX8_name_44 : decode cX8_name 44 = .ok (.aload_n 0, 1) := by decide +kernel
theorem dX8_name_45 : decode cX8_name 45 = .ok (.iload_n 3, 1) := by decide +kernel
theorem dX8_name_46 : decode cX8_name 46 = .ok (.invokevirtual 315, 3) := by decide +kernel
theorem dX8_name_49 : decode cX8_name 49 = .ok (.ifCond .eq 57, 3) := by decide +kernel
theorem dX8_name_52 : decode cX8_name 52 = .ok (.aload_n 0, 1) := by decide +kernel
theorem dX8_name_53 : decode cX8_name 53 = .ok (.invokevirtual 318, 3) := by decide +kernel
theorem dX8_name_56 : decode cX8_name 56 = .ok (.iload 4, 2) := by decide +kernel
theorem dX8_name_58 : decode cX8_name 58 = .ok (.ifCond .ne 7, 3) := by decide +kernel
theorem dX8_name_61 : decode cX8_name 61 = .ok (.iconst (-1), 1) := by decide +kernel
theorem dX8_name_62 : decode cX8_name 62 = .ok (.goto 7, 3) := by decide +kernel
theorem dX8_name_65 : decode cX8_name 65 = .ok (.aload_n 0, 1) := by decide +kernel
theorem dX8_name_66 : decode cX8_name 66 = .ok (.invokevirtual 321, 3) := by decide +kernel
theorem dX8_name_69 : decode cX8_name 69 = .ok (.istore 6, 2) := by decide +kernel
theorem dX8_name_71 : decode cX8_name 71 = .ok (.iload 6, 2) := by decide +kernel
theorem dX8_name_73 : decode cX8_name 73 = .ok (.ifCond .ge 8, 3) := by decide +kernel
theorem dX8_name_76 : decode cX8_name 76 = .ok (.aload_n 0, 1) := by decide +kernel
theorem dX8_name_77 : decode cX8_name 77 = .ok (.iload_n 3, 1) := by decide +kernel
theorem dX8_name_78 : decode cX8_name 78 = .ok (.invokevirtual 325, 3) := by decide +kernel
theorem dX8_name_81 : decode cX8_name 81 = .ok (.iload 6, 2) := by decide +kernel
theorem dX8_name_83 : decode cX8_name 83 = .ok (.ifCond .ge 7, 3) := by decide +kernel
theorem dX8_name_86 : decode cX8_name 86 = .ok (.iconst 1, 1) := by decide +kernel
theorem dX8_name_87 : decode cX8_name 87 = .ok (.goto 17, 3) := by decide +kernel
theorem dX8_name_90 : decode cX8_name 90 = .ok (.iload 6, 2) := by decide +kernel
theorem dX8_name_92 : decode cX8_name 92 = .ok (.ifCond .ne 10, 3) := by decide +kernel
theorem dX8_name_95 : decode cX8_name 95 = .ok (.iload 4, 2) := by decide +kernel
theorem dX8_name_97 : decode cX8_name 97 = .ok (.iconst 1, 1) := by decide +kernel
theorem dX8_name_98 : decode cX8_name 98 = .ok (.iadd, 1) := by decide +kernel
theorem dX8_name_99 : decode cX8_name 99 = .ok (.goto 5, 3) := by decide +kernel
theorem dX8_name_102 : decode cX8_name 102 = .ok (.iload 4, 2) := by decide +kernel
theorem dX8_name_104 : decode cX8_name 104 = .ok (.istore 4, 2) := by decide +kernel
theorem dX8_name_106 : decode cX8_name 106 = .ok (.aload_n 0, 1) := by decide +kernel
theorem dX8_name_107 : decode cX8_name 107 = .ok (.iload_n 3, 1) := by decide +kernel
theorem dX8_name_108 : decode cX8_name 108 = .ok (.invokevirtual 328, 3) := by decide +kernel
theorem dX8_name_111 : decode cX8_name 111 = .ok (.istore 5, 2) := by decide +kernel
theorem dX8_name_113 : decode cX8_name 113 = .ok (.goto (-74), 3) := by decide +kernel
theorem dX8_name_116 : decode cX8_name 116 = .ok (.aload_n 0, 1) := by decide +kernel
theorem dX8_name_117 : decode cX8_name 117 = .ok (.iload_n 3, 1) := by decide +kernel
theorem dX8_name_118 : decode cX8_name 118 = .ok (.putfield 331, 3) := by decide +kernel
theorem dX8_name_121 : decode cX8_name 121 = .ok (.aload_n 0, 1) := by decide +kernel
theorem dX8_name_122 : decode cX8_name 122 = .ok (.aload_n 0, 1) := by decide +kernel
theorem dX8_name_123 : decode cX8_name 123 = .ok (.getfield 149, 3) := by decide +kernel
theorem dX8_name_126 : decode cX8_name 126 = .ok (.bipush 8, 2) := by decide +kernel
theorem dX8_name_128 : decode cX8_name 128 = .ok (.iaload, 1) := by decide +kernel
theorem dX8_name_129 : decode cX8_name 129 = .ok (.putfield 334, 3) := by decide +kernel
theorem dX8_name_132 : decode cX8_name 132 = .ok (.aload_n 0, 1) := by decide +kernel
theorem dX8_name_133 : decode cX8_name 133 = .ok (.iconst 0, 1) := by decide +kernel
theorem dX8_name_134 : decode cX8_name 134 = .ok (.putfield 235, 3) := by decide +kernel
theorem dX8_name_137 : decode cX8_name 137 = .ok (.iconst 0, 1) := by decide +kernel
theorem dX8_name_138 : decode cX8_name 138 = .ok (.istore 6, 2) := by decide +kernel
theorem dX8_name_140 : decode cX8_name 140 = .ok (.iload 6, 2) := by decide +kernel
theorem dX8_name_142 : decode cX8_name 142 = .ok (.iconst 3, 1) := by decide +kernel
theorem dX8_name_143 : decode cX8_name 143 = .ok (.aload_n 0, 1) := by decide +kernel
theorem dX8_name_144 : decode cX8_name 144 = .ok (.getfield 334, 3) := by decide +kernel
theorem dX8_name_147 : decode cX8_name 147 = .ok (.imul, 1) := by decide +kernel
theorem dX8_name_148 : decode cX8_name 148 = .ok (.if_icmp .ge 21, 3) := by decide +kernel
theorem dX8_name_151 : decode cX8_name 151 = .ok (.aload_n 0, 1) := by decide +kernel
theorem dX8_name_152 : decode cX8_name 152 = .ok (.aload_n 0, 1) := by decide +kernel
theorem dX8_name_153 : decode cX8_name 153 = .ok (.getfield 176, 3) := by decide +kernel
theorem dX8_name_156 : decode cX8_name 156 = .ok (.iload 6, 2) := by decide +kernel
theorem dX8_name_158 : decode cX8_name 158 = .ok (.iaload, 1) := by decide +kernel
theorem dX8_name_159 : decode cX8_name 159 = .ok (.i2l, 1) := by decide +kernel
theorem dX8_name_160 : decode cX8_name 160 = .ok (.invokevirtual 266, 3) := by decide +kernel
theorem dX8_name_163 : decode cX8_name 163 = .ok (.iinc 6 1, 3) := by decide +kernel
theorem dX8_name_166 : decode cX8_name 166 = .ok (.goto (-26), 3) := by decide +kernel
theorem dX8_name_169 : decode cX8_name 169 = .ok (.aload_n 0, 1) := by decide +kernel
theorem dX8_name_170 : decode cX8_name 170 = .ok (.aload_n 0, 1) := by decide +kernel
theorem dX8_name_171 : decode cX8_name 171 = .ok (.getfield 235, 3) := by decide +kernel
theorem dX8_name_174 : decode cX8_name 174 = .ok (.invokevirtual 199, 3) := by decide +kernel
theorem dX8_name_177 : decode cX8_name 177 = .ok (.aload_n 0, 1) := by decide +kernel
theorem dX8_name_178 : decode cX8_name 178 = .ok (.invokevirtual 203, 3) := by decide +kernel
theorem dX8_name_181 : decode cX8_name 181 = .ok (.iload 4, 2) := by decide +kernel
theorem dX8_name_183 : decode cX8_name 183 = .ok (.ireturn, 1) := by decide +kernel
theorem dX8_take_0 : decode cX8_take 0 = .ok (.iconst 1, 1) := by decide +kernel
theorem dX8_take_1 : decode cX8_take 1 = .ok (.istore_n 2, 1) := by decide +kernel
theorem dX8_take_2 : decode cX8_take 2 = .ok (.iload_n 2, 1) := by decide +kernel
theorem dX8_take_3 : decode cX8_take 3 = .ok (.iload_n 1, 1) := by decide +kernel
theorem dX8_take_4 : decode cX8_take 4 = .ok (.if_icmp .gt 21, 3) := by decide +kernel
theorem dX8_take_7 : decode cX8_take 7 = .ok (.aload_n 0, 1) := by decide +kernel
theorem dX8_take_8 : decode cX8_take 8 = .ok (.getfield 173, 3) := by decide +kernel
theorem dX8_take_11 : decode cX8_take 11 = .ok (.iload_n 2, 1) := by decide +kernel
theorem dX8_take_12 : decode cX8_take 12 = .ok (.aload_n 0, 1) := by decide +kernel
theorem dX8_take_13 : decode cX8_take 13 = .ok (.getfield 167, 3) := by decide +kernel
theorem dX8_take_16 : decode cX8_take 16 = .ok (.iload_n 2, 1) := by decide +kernel
theorem dX8_take_17 : decode cX8_take 17 = .ok (.iaload, 1) := by decide +kernel
theorem dX8_take_18 : decode cX8_take 18 = .ok (.iastore, 1) := by decide +kernel
theorem dX8_take_19 : decode cX8_take 19 = .ok (.iinc 2 1, 3) := by decide +kernel
theorem dX8_take_22 : decode cX8_take 22 = .ok (.goto (-20), 3) := by decide +kernel
theorem dX8_take_25 : decode cX8_take 25 = .ok (.iconst 0, 1) := by decide +kernel
theorem dX8_take_26 : decode cX8_take 26 = .ok (.istore_n 2, 1) := by decide +kernel
theorem dX8_take_27 : decode cX8_take 27 = .ok (.iload_n 2, 1) := by decide +kernel
theorem dX8_take_28 : decode cX8_take 28 = .ok (.iconst 3, 1) := by decide +kernel
theorem dX8_take_29 : decode cX8_take 29 = .ok (.aload_n 0, 1) := by decide +kernel
theorem dX8_take_30 : decode cX8_take 30 = .ok (.getfield 149, 3) := by decide +kernel
theorem dX8_take_33 : decode cX8_take 33 = .ok (.bipush 8, 2) := by decide +kernel
theorem dX8_take_35 : decode cX8_take 35 = .ok (.iaload, 1) := by decide +kernel
theorem dX8_take_36 : decode cX8_take 36 = .ok (.imul, 1) := by decide +kernel
theorem dX8_take_37 : decode cX8_take 37 = .ok (.if_icmp .ge 21, 3) := by decide +kernel
theorem dX8_take_40 : decode cX8_take 40 = .ok (.aload_n 0, 1) := by decide +kernel
theorem dX8_take_41 : decode cX8_take 41 = .ok (.getfield 176, 3) := by decide +kernel
theorem dX8_take_44 : decode cX8_take 44 = .ok (.iload_n 2, 1) := by decide +kernel
theorem dX8_take_45 : decode cX8_take 45 = .ok (.aload_n 0, 1) := by decide +kernel
theorem dX8_take_46 : decode cX8_take 46 = .ok (.getfield 170, 3) := by decide +kernel
theorem dX8_take_49 : decode cX8_take 49 = .ok (.iload_n 2, 1) := by decide +kernel
theorem dX8_take_50 : decode cX8_take 50 = .ok (.iaload, 1) := by decide +kernel
theorem dX8_take_51 : decode cX8_take 51 = .ok (.iastore, 1) := by decide +kernel
theorem dX8_take_52 : decode cX8_take 52 = .ok (.iinc 2 1, 3) := by decide +kernel
theorem dX8_take_55 : decode cX8_take 55 = .ok (.goto (-28), 3) := by decide +kernel
theorem dX8_take_58 : decode cX8_take 58 = .ok (.return_, 1) := by decide +kernel
theorem dX8_named_0 : decode cX8_named 0 = .ok (.aload_n 0, 1) := by decide +kernel
theorem dX8_named_1 : decode cX8_named 1 = .ok (.iconst 0, 1) := by decide +kernel
theorem dX8_named_2 : decode cX8_named 2 = .ok (.putfield 1, 3) := by decide +kernel
theorem dX8_named_5 : decode cX8_named 5 = .ok (.iload_n 1, 1) := by decide +kernel
theorem dX8_named_6 : decode cX8_named 6 = .ok (.iconst 1, 1) := by decide +kernel
theorem dX8_named_7 : decode cX8_named 7 = .ok (.if_icmp .lt 20, 3) := by decide +kernel
theorem dX8_named_10 : decode cX8_named 10 = .ok (.iload_n 1, 1) := by decide +kernel
theorem dX8_named_11 : decode cX8_named 11 = .ok (.aload_n 0, 1) := by decide +kernel
theorem dX8_named_12 : decode cX8_named 12 = .ok (.getfield 331, 3) := by decide +kernel
theorem dX8_named_15 : decode cX8_named 15 = .ok (.if_icmp .gt 12, 3) := by decide +kernel
theorem dX8_named_18 : decode cX8_named 18 = .ok (.aload_n 0, 1) := by decide +kernel
theorem dX8_named_19 : decode cX8_named 19 = .ok (.getfield 173, 3) := by decide +kernel
theorem dX8_named_22 : decode cX8_named 22 = .ok (.iload_n 1, 1) := by decide +kernel
theorem dX8_named_23 : decode cX8_named 23 = .ok (.iaload, 1) := by decide +kernel
theorem dX8_named_24 : decode cX8_named 24 = .ok (.goto 4, 3) := by decide +kernel
theorem dX8_named_27 : decode cX8_named 27 = .ok (.iconst (-1), 1) := by decide +kernel
theorem dX8_named_28 : decode cX8_named 28 = .ok (.ireturn, 1) := by decide +kernel
theorem dX8_form_0 : decode cX8_form 0 = .ok (.aload_n 0, 1) := by decide +kernel
theorem dX8_form_1 : decode cX8_form 1 = .ok (.iconst 0, 1) := by decide +kernel
theorem dX8_form_2 : decode cX8_form 2 = .ok (.putfield 1, 3) := by decide +kernel
theorem dX8_form_5 : decode cX8_form 5 = .ok (.iload_n 1, 1) := by decide +kernel
theorem dX8_form_6 : decode cX8_form 6 = .ok (.ifCond .lt 20, 3) := by decide +kernel
theorem dX8_form_9 : decode cX8_form 9 = .ok (.iload_n 1, 1) := by decide +kernel
theorem dX8_form_10 : decode cX8_form 10 = .ok (.aload_n 0, 1) := by decide +kernel
theorem dX8_form_11 : decode cX8_form 11 = .ok (.getfield 334, 3) := by decide +kernel
theorem dX8_form_14 : decode cX8_form 14 = .ok (.if_icmp .ge 12, 3) := by decide +kernel
theorem dX8_form_17 : decode cX8_form 17 = .ok (.iload_n 2, 1) := by decide +kernel
theorem dX8_form_18 : decode cX8_form 18 = .ok (.ifCond .lt 8, 3) := by decide +kernel
theorem dX8_form_21 : decode cX8_form 21 = .ok (.iload_n 2, 1) := by decide +kernel
theorem dX8_form_22 : decode cX8_form 22 = .ok (.iconst 2, 1) := by decide +kernel
theorem dX8_form_23 : decode cX8_form 23 = .ok (.if_icmp .le 7, 3) := by decide +kernel
theorem dX8_form_26 : decode cX8_form 26 = .ok (.iconst 0, 1) := by decide +kernel
theorem dX8_form_27 : decode cX8_form 27 = .ok (.goto 13, 3) := by decide +kernel
theorem dX8_form_30 : decode cX8_form 30 = .ok (.aload_n 0, 1) := by decide +kernel
theorem dX8_form_31 : decode cX8_form 31 = .ok (.getfield 176, 3) := by decide +kernel
theorem dX8_form_34 : decode cX8_form 34 = .ok (.iconst 3, 1) := by decide +kernel
theorem dX8_form_35 : decode cX8_form 35 = .ok (.iload_n 1, 1) := by decide +kernel
theorem dX8_form_36 : decode cX8_form 36 = .ok (.imul, 1) := by decide +kernel
theorem dX8_form_37 : decode cX8_form 37 = .ok (.iload_n 2, 1) := by decide +kernel
theorem dX8_form_38 : decode cX8_form 38 = .ok (.iadd, 1) := by decide +kernel
theorem dX8_form_39 : decode cX8_form 39 = .ok (.iaload, 1) := by decide +kernel
theorem dX8_form_40 : decode cX8_form 40 = .ok (.ireturn, 1) := by decide +kernel
theorem dX8_octet_0 : decode cX8_octet 0 = .ok (.aload_n 0, 1) := by decide +kernel
theorem dX8_octet_1 : decode cX8_octet 1 = .ok (.iload_n 1, 1) := by decide +kernel
theorem dX8_octet_2 : decode cX8_octet 2 = .ok (.ifCond .lt 13, 3) := by decide +kernel
theorem dX8_octet_5 : decode cX8_octet 5 = .ok (.iload_n 1, 1) := by decide +kernel
theorem dX8_octet_6 : decode cX8_octet 6 = .ok (.bipush 32, 2) := by decide +kernel
theorem dX8_octet_8 : decode cX8_octet 8 = .ok (.if_icmp .ge 7, 3) := by decide +kernel
theorem dX8_octet_11 : decode cX8_octet 11 = .ok (.iconst 0, 1) := by decide +kernel
theorem dX8_octet_12 : decode cX8_octet 12 = .ok (.goto 4, 3) := by decide +kernel
theorem dX8_octet_15 : decode cX8_octet 15 = .ok (.iconst 1, 1) := by decide +kernel
theorem dX8_octet_16 : decode cX8_octet 16 = .ok (.putfield 1, 3) := by decide +kernel
theorem dX8_octet_19 : decode cX8_octet 19 = .ok (.aload_n 0, 1) := by decide +kernel
theorem dX8_octet_20 : decode cX8_octet 20 = .ok (.getfield 1, 3) := by decide +kernel
theorem dX8_octet_23 : decode cX8_octet 23 = .ok (.ifCond .ne 12, 3) := by decide +kernel
theorem dX8_octet_26 : decode cX8_octet 26 = .ok (.aload_n 0, 1) := by decide +kernel
theorem dX8_octet_27 : decode cX8_octet 27 = .ok (.getfield 179, 3) := by decide +kernel
theorem dX8_octet_30 : decode cX8_octet 30 = .ok (.iload_n 1, 1) := by decide +kernel
theorem dX8_octet_31 : decode cX8_octet 31 = .ok (.baload, 1) := by decide +kernel
theorem dX8_octet_32 : decode cX8_octet 32 = .ok (.goto 4, 3) := by decide +kernel
theorem dX8_octet_35 : decode cX8_octet 35 = .ok (.iconst 0, 1) := by decide +kernel
theorem dX8_octet_36 : decode cX8_octet 36 = .ok (.ireturn, 1) := by decide +kernel
theorem dX8_keep_0 : decode cX8_keep 0 = .ok (.aload_n 0, 1) := by decide +kernel
theorem dX8_keep_1 : decode cX8_keep 1 = .ok (.iconst 0, 1) := by decide +kernel
theorem dX8_keep_2 : decode cX8_keep 2 = .ok (.putfield 1, 3) := by decide +kernel
theorem dX8_keep_5 : decode cX8_keep 5 = .ok (.aload_n 0, 1) := by decide +kernel
theorem dX8_keep_6 : decode cX8_keep 6 = .ok (.getfield 337, 3) := by decide +kernel
theorem dX8_keep_9 : decode cX8_keep 9 = .ok (.bipush 8, 2) := by decide +kernel
theorem dX8_keep_11 : decode cX8_keep 11 = .ok (.if_icmp .ne 6, 3) := by decide +kernel
theorem dX8_keep_14 : decode cX8_keep 14 = .ok (.bipush (-2), 2) := by decide +kernel
theorem dX8_keep_16 : decode cX8_keep 16 = .ok (.ireturn, 1) := by decide +kernel
theorem dX8_keep_17 : decode cX8_keep 17 = .ok (.aload_n 0, 1) := by decide +kernel
theorem dX8_keep_18 : decode cX8_keep 18 = .ok (.getfield 145, 3) := by decide +kernel
theorem dX8_keep_21 : decode cX8_keep 21 = .ok (.aload_n 0, 1) := by decide +kernel
theorem dX8_keep_22 : decode cX8_keep 22 = .ok (.getfield 337, 3) := by decide +kernel
theorem dX8_keep_25 : decode cX8_keep 25 = .ok (.aload_n 0, 1) := by decide +kernel
theorem dX8_keep_26 : decode cX8_keep 26 = .ok (.getfield 145, 3) := by decide +kernel
theorem dX8_keep_29 : decode cX8_keep 29 = .ok (.bipush 8, 2) := by decide +kernel
theorem dX8_keep_31 : decode cX8_keep 31 = .ok (.iaload, 1) := by decide +kernel
theorem dX8_keep_32 : decode cX8_keep 32 = .ok (.iastore, 1) := by decide +kernel
theorem dX8_keep_33 : decode cX8_keep 33 = .ok (.aload_n 0, 1) := by decide +kernel
theorem dX8_keep_34 : decode cX8_keep 34 = .ok (.getfield 149, 3) := by decide +kernel
theorem dX8_keep_37 : decode cX8_keep 37 = .ok (.aload_n 0, 1) := by decide +kernel
theorem dX8_keep_38 : decode cX8_keep 38 = .ok (.getfield 337, 3) := by decide +kernel
theorem dX8_keep_41 : decode cX8_keep 41 = .ok (.aload_n 0, 1) := by decide +kernel
theorem dX8_keep_42 : decode cX8_keep 42 = .ok (.getfield 149, 3) := by decide +kernel
theorem dX8_keep_45 : decode cX8_keep 45 = .ok (.bipush 8, 2) := by decide +kernel
theorem dX8_keep_47 : decode cX8_keep 47 = .ok (.iaload, 1) := by decide +kernel
theorem dX8_keep_48 : decode cX8_keep 48 = .ok (.iastore, 1) := by decide +kernel
theorem dX8_keep_49 : decode cX8_keep 49 = .ok (.iconst 0, 1) := by decide +kernel
theorem dX8_keep_50 : decode cX8_keep 50 = .ok (.istore_n 1, 1) := by decide +kernel
theorem dX8_keep_51 : decode cX8_keep 51 = .ok (.iload_n 1, 1) := by decide +kernel
theorem dX8_keep_52 : decode cX8_keep 52 = .ok (.bipush 120, 2) := by decide +kernel
theorem dX8_keep_54 : decode cX8_keep 54 = .ok (.if_icmp .ge 33, 3) := by decide +kernel
theorem dX8_keep_57 : decode cX8_keep 57 = .ok (.aload_n 0, 1) := by decide +kernel
theorem dX8_keep_58 : decode cX8_keep 58 = .ok (.getfield 152, 3) := by decide +kernel
theorem dX8_keep_61 : decode cX8_keep 61 = .ok (.bipush 120, 2) := by decide +kernel
theorem dX8_keep_63 : decode cX8_keep 63 = .ok (.aload_n 0, 1) := by decide +kernel
theorem dX8_keep_64 : decode cX8_keep 64 = .ok (.getfield 337, 3) := by decide +kernel
theorem dX8_keep_67 : decode cX8_keep 67 = .ok (.imul, 1) := by decide +kernel
theorem dX8_keep_68 : decode cX8_keep 68 = .ok (.iload_n 1, 1) := by decide +kernel
theorem dX8_keep_69 : decode cX8_keep 69 = .ok (.iadd, 1) := by decide +kernel
theorem dX8_keep_70 : decode cX8_keep 70 = .ok (.aload_n 0, 1) := by decide +kernel
theorem dX8_keep_71 : decode cX8_keep 71 = .ok (.getfield 152, 3) := by decide +kernel
theorem dX8_keep_74 : decode cX8_keep 74 = .ok (.sipush 960, 3) := by decide +kernel
theorem dX8_keep_77 : decode cX8_keep 77 = .ok (.iload_n 1, 1) := by decide +kernel
theorem dX8_keep_78 : decode cX8_keep 78 = .ok (.iadd, 1) := by decide +kernel
theorem dX8_keep_79 : decode cX8_keep 79 = .ok (.iaload, 1) := by decide +kernel
theorem dX8_keep_80 : decode cX8_keep 80 = .ok (.iastore, 1) := by decide +kernel
theorem dX8_keep_81 : decode cX8_keep 81 = .ok (.iinc 1 1, 3) := by decide +kernel
theorem dX8_keep_84 : decode cX8_keep 84 = .ok (.goto (-33), 3) := by decide +kernel
theorem dX8_keep_87 : decode cX8_keep 87 = .ok (.aload_n 0, 1) := by decide +kernel
theorem dX8_keep_88 : decode cX8_keep 88 = .ok (.dup, 1) := by decide +kernel
theorem dX8_keep_89 : decode cX8_keep 89 = .ok (.getfield 337, 3) := by decide +kernel
theorem dX8_keep_92 : decode cX8_keep 92 = .ok (.iconst 1, 1) := by decide +kernel
theorem dX8_keep_93 : decode cX8_keep 93 = .ok (.iadd, 1) := by decide +kernel
theorem dX8_keep_94 : decode cX8_keep 94 = .ok (.putfield 337, 3) := by decide +kernel
theorem dX8_keep_97 : decode cX8_keep 97 = .ok (.aload_n 0, 1) := by decide +kernel
theorem dX8_keep_98 : decode cX8_keep 98 = .ok (.getfield 145, 3) := by decide +kernel
theorem dX8_keep_101 : decode cX8_keep 101 = .ok (.bipush 8, 2) := by decide +kernel
theorem dX8_keep_103 : decode cX8_keep 103 = .ok (.iconst 0, 1) := by decide +kernel
theorem dX8_keep_104 : decode cX8_keep 104 = .ok (.iastore, 1) := by decide +kernel
theorem dX8_keep_105 : decode cX8_keep 105 = .ok (.aload_n 0, 1) := by decide +kernel
theorem dX8_keep_106 : decode cX8_keep 106 = .ok (.getfield 149, 3) := by decide +kernel
theorem dX8_keep_109 : decode cX8_keep 109 = .ok (.bipush 8, 2) := by decide +kernel
theorem dX8_keep_111 : decode cX8_keep 111 = .ok (.iconst 0, 1) := by decide +kernel
theorem dX8_keep_112 : decode cX8_keep 112 = .ok (.iastore, 1) := by decide +kernel
theorem dX8_keep_113 : decode cX8_keep 113 = .ok (.aload_n 0, 1) := by decide +kernel
theorem dX8_keep_114 : decode cX8_keep 114 = .ok (.iconst 0, 1) := by decide +kernel
theorem dX8_keep_115 : decode cX8_keep 115 = .ok (.putfield 241, 3) := by decide +kernel
theorem dX8_keep_118 : decode cX8_keep 118 = .ok (.aload_n 0, 1) := by decide +kernel
theorem dX8_keep_119 : decode cX8_keep 119 = .ok (.getfield 337, 3) := by decide +kernel
theorem dX8_keep_122 : decode cX8_keep 122 = .ok (.iconst 1, 1) := by decide +kernel
theorem dX8_keep_123 : decode cX8_keep 123 = .ok (.isub, 1) := by decide +kernel
theorem dX8_keep_124 : decode cX8_keep 124 = .ok (.ireturn, 1) := by decide +kernel
theorem dX8_isKept_0 : decode cX8_isKept 0 = .ok (.iload_n 1, 1) := by decide +kernel
theorem dX8_isKept_1 : decode cX8_isKept 1 = .ok (.ifCond .lt 15, 3) := by decide +kernel
theorem dX8_isKept_4 : decode cX8_isKept 4 = .ok (.iload_n 1, 1) := by decide +kernel
theorem dX8_isKept_5 : decode cX8_isKept 5 = .ok (.aload_n 0, 1) := by decide +kernel
theorem dX8_isKept_6 : decode cX8_isKept 6 = .ok (.getfield 337, 3) := by decide +kernel
theorem dX8_isKept_9 : decode cX8_isKept 9 = .ok (.if_icmp .ge 7, 3) := by decide +kernel
theorem dX8_isKept_12 : decode cX8_isKept 12 = .ok (.iconst 1, 1) := by decide +kernel
theorem dX8_isKept_13 : decode cX8_isKept 13 = .ok (.goto 4, 3) := by decide +kernel
theorem dX8_isKept_16 : decode cX8_isKept 16 = .ok (.iconst 0, 1) := by decide +kernel
theorem dX8_isKept_17 : decode cX8_isKept 17 = .ok (.ireturn, 1) := by decide +kernel
theorem dX8_becomes_0 : decode cX8_becomes 0 = .ok (.iconst 0, 1) := by decide +kernel
theorem dX8_becomes_1 : decode cX8_becomes 1 = .ok (.istore_n 2, 1) := by decide +kernel
theorem dX8_becomes_2 : decode cX8_becomes 2 = .ok (.iload_n 2, 1) := by decide +kernel
theorem dX8_becomes_3 : decode cX8_becomes 3 = .ok (.aload_n 0, 1) := by decide +kernel
theorem dX8_becomes_4 : decode cX8_becomes 4 = .ok (.getfield 149, 3) := by decide +kernel
theorem dX8_becomes_7 : decode cX8_becomes 7 = .ok (.bipush 8, 2) := by decide +kernel
theorem dX8_becomes_9 : decode cX8_becomes 9 = .ok (.iaload, 1) := by decide +kernel
theorem dX8_becomes_10 : decode cX8_becomes 10 = .ok (.if_icmp .ge 60, 3) := by decide +kernel
theorem dX8_becomes_13 : decode cX8_becomes 13 = .ok (.bipush 8, 2) := by decide +kernel
theorem dX8_becomes_15 : decode cX8_becomes 15 = .ok (.iload_n 2, 1) := by decide +kernel
theorem dX8_becomes_16 : decode cX8_becomes 16 = .ok (.invokestatic 245, 3) := by decide +kernel
theorem dX8_becomes_19 : decode cX8_becomes 19 = .ok (.istore_n 3, 1) := by decide +kernel
theorem dX8_becomes_20 : decode cX8_becomes 20 = .ok (.aload_n 0, 1) := by decide +kernel
theorem dX8_becomes_21 : decode cX8_becomes 21 = .ok (.iload_n 1, 1) := by decide +kernel
theorem dX8_becomes_22 : decode cX8_becomes 22 = .ok (.aload_n 0, 1) := by decide +kernel
theorem dX8_becomes_23 : decode cX8_becomes 23 = .ok (.aload_n 0, 1) := by decide +kernel
theorem dX8_becomes_24 : decode cX8_becomes 24 = .ok (.getfield 152, 3) := by decide +kernel
theorem dX8_becomes_27 : decode cX8_becomes 27 = .ok (.iload_n 3, 1) := by decide +kernel
theorem dX8_becomes_28 : decode cX8_becomes 28 = .ok (.iaload, 1) := by decide +kernel
theorem dX8_becomes_29 : decode cX8_becomes 29 = .ok (.invokevirtual 300, 3) := by decide +kernel
theorem dX8_becomes_32 : decode cX8_becomes 32 = .ok (.aload_n 0, 1) := by decide +kernel
theorem dX8_becomes_33 : decode cX8_becomes 33 = .ok (.aload_n 0, 1) := by decide +kernel
theorem dX8_becomes_34 : decode cX8_becomes 34 = .ok (.getfield 152, 3) := by decide +kernel
theorem dX8_becomes_37 : decode cX8_becomes 37 = .ok (.iload_n 3, 1) := by decide +kernel
theorem dX8_becomes_38 : decode cX8_becomes 38 = .ok (.iconst 1, 1) := by decide +kernel
theorem dX8_becomes_39 : decode cX8_becomes 39 = .ok (.iadd, 1) := by decide +kernel
theorem dX8_becomes_40 : decode cX8_becomes 40 = .ok (.iaload, 1) := by decide +kernel
theorem dX8_becomes_41 : decode cX8_becomes 41 = .ok (.invokevirtual 300, 3) := by decide +kernel
theorem dX8_becomes_44 : decode cX8_becomes 44 = .ok (.aload_n 0, 1) := by decide +kernel
theorem dX8_becomes_45 : decode cX8_becomes 45 = .ok (.aload_n 0, 1) := by decide +kernel
theorem dX8_becomes_46 : decode cX8_becomes 46 = .ok (.getfield 152, 3) := by decide +kernel
theorem dX8_becomes_49 : decode cX8_becomes 49 = .ok (.iload_n 3, 1) := by decide +kernel
theorem dX8_becomes_50 : decode cX8_becomes 50 = .ok (.iconst 2, 1) := by decide +kernel
theorem dX8_becomes_51 : decode cX8_becomes 51 = .ok (.iadd, 1) := by decide +kernel
theorem dX8_becomes_52 : decode cX8_becomes 52 = .ok (.iaload, 1) := by decide +kernel
theorem dX8_becomes_53 : decode cX8_becomes 53 = .ok (.invokevirtual 300, 3) := by decide +kernel
theorem dX8_becomes_56 : decode cX8_becomes 56 = .ok (.invokevirtual 253, 3) := by decide +kernel
theorem dX8_becomes_59 : decode cX8_becomes 59 = .ok (.ifCond .ge 5, 3) := by decide +kernel
theorem dX8_becomes_62 : decode cX8_becomes 62 = .ok (.iconst 0, 1) := by decide +kernel
theorem dX8_becomes_63 : decode cX8_becomes 63 = .ok (.ireturn, 1) := by decide +kernel
theorem dX8_becomes_64 : decode cX8_becomes 64 = .ok (.iinc 2 1, 3) := by decide +kernel
theorem dX8_becomes_67 : decode cX8_becomes 67 = .ok (.goto (-65), 3) := by decide +kernel
theorem dX8_becomes_70 : decode cX8_becomes 70 = .ok (.iconst 1, 1) := by decide +kernel
theorem dX8_becomes_71 : decode cX8_becomes 71 = .ok (.ireturn, 1) := by decide +kernel
theorem dX8_ways_0 : decode cX8_ways 0 = .ok (.aload_n 0, 1) := by decide +kernel
theorem dX8_ways_1 : decode cX8_ways 1 = .ok (.iconst 0, 1) := by decide +kernel
theorem dX8_ways_2 : decode cX8_ways 2 = .ok (.putfield 1, 3) := by decide +kernel
theorem dX8_ways_5 : decode cX8_ways 5 = .ok (.aload_n 0, 1) := by decide +kernel
theorem dX8_ways_6 : decode cX8_ways 6 = .ok (.iload_n 1, 1) := by decide +kernel
theorem dX8_ways_7 : decode cX8_ways 7 = .ok (.invokevirtual 340, 3) := by decide +kernel
theorem dX8_ways_10 : decode cX8_ways 10 = .ok (.ifCond .ne 5, 3) := by decide +kernel
theorem dX8_ways_13 : decode cX8_ways 13 = .ok (.iconst (-1), 1) := by decide +kernel
theorem dX8_ways_14 : decode cX8_ways 14 = .ok (.ireturn, 1) := by decide +kernel
theorem dX8_ways_15 : decode cX8_ways 15 = .ok (.aload_n 0, 1) := by decide +kernel
theorem dX8_ways_16 : decode cX8_ways 16 = .ok (.getfield 145, 3) := by decide +kernel
theorem dX8_ways_19 : decode cX8_ways 19 = .ok (.bipush 8, 2) := by decide +kernel
theorem dX8_ways_21 : decode cX8_ways 21 = .ok (.iaload, 1) := by decide +kernel
theorem dX8_ways_22 : decode cX8_ways 22 = .ok (.istore_n 2, 1) := by decide +kernel
theorem dX8_ways_23 : decode cX8_ways 23 = .ok (.aload_n 0, 1) := by decide +kernel
theorem dX8_ways_24 : decode cX8_ways 24 = .ok (.getfield 145, 3) := by decide +kernel
theorem dX8_ways_27 : decode cX8_ways 27 = .ok (.iload_n 1, 1) := by decide +kernel
theorem dX8_ways_28 : decode cX8_ways 28 = .ok (.iaload, 1) := by decide +kernel
theorem dX8_ways_29 : decode cX8_ways 29 = .ok (.iload_n 2, 1) := by decide +kernel
theorem dX8_ways_30 : decode cX8_ways 30 = .ok (.if_icmp .ne 19, 3) := by decide +kernel
theorem dX8_ways_33 : decode cX8_ways 33 = .ok (.aload_n 0, 1) := by decide +kernel
theorem dX8_ways_34 : decode cX8_ways 34 = .ok (.getfield 149, 3) := by decide +kernel
theorem dX8_ways_37 : decode cX8_ways 37 = .ok (.iload_n 1, 1) := by decide +kernel
theorem dX8_ways_38 : decode cX8_ways 38 = .ok (.iaload, 1) := by decide +kernel
theorem dX8_ways_39 : decode cX8_ways 39 = .ok (.aload_n 0, 1) := by decide +kernel
theorem dX8_ways_40 : decode cX8_ways 40 = .ok (.getfield 149, 3) := by decide +kernel
theorem dX8_ways_43 : decode cX8_ways 43 = .ok (.bipush 8, 2) := by decide +kernel
theorem dX8_ways_45 : decode cX8_ways 45 = .ok (.iaload, 1) := by decide +kernel
theorem dX8_ways_46 : decode cX8_ways 46 = .ok (.if_icmp .eq 5, 3) := by decide +kernel
theorem dX8_ways_49 : decode cX8_ways 49 = .ok (.iconst 0, 1) := by decide +kernel
theorem dX8_ways_50 : decode cX8_ways 50 = .ok (.ireturn, 1) := by decide +kernel
theorem dX8_ways_51 : decode cX8_ways 51 = .ok (.iconst 0, 1) := by decide +kernel
theorem dX8_ways_52 : decode cX8_ways 52 = .ok (.istore_n 3, 1) := by decide +kernel
theorem dX8_ways_53 : decode cX8_ways 53 = .ok (.aload_n 0, 1) := by decide +kernel
theorem dX8_ways_54 : decode cX8_ways 54 = .ok (.iload_n 2, 1) := by decide +kernel
theorem dX8_ways_55 : decode cX8_ways 55 = .ok (.invokevirtual 312, 3) := by decide +kernel
theorem dX8_ways_58 : decode cX8_ways 58 = .ok (.iconst 1, 1) := by decide +kernel
theorem dX8_ways_59 : decode cX8_ways 59 = .ok (.istore 4, 2) := by decide +kernel
theorem dX8_ways_61 : decode cX8_ways 61 = .ok (.iload 4, 2) := by decide +kernel
theorem dX8_ways_63 : decode cX8_ways 63 = .ok (.ifCond .eq 29, 3) := by decide +kernel
theorem dX8_ways_66 : decode cX8_ways 66 = .ok (.iload_n 3, 1) := by decide +kernel
theorem dX8_ways_67 : decode cX8_ways 67 = .ok (.aload_n 0, 1) := by decide +kernel
theorem dX8_ways_68 : decode cX8_ways 68 = .ok (.iload_n 1, 1) := by decide +kernel
theorem dX8_ways_69 : decode cX8_ways 69 = .ok (.invokevirtual 343, 3) := by decide +kernel
theorem dX8_ways_72 : decode cX8_ways 72 = .ok (.ifCond .eq 7, 3) := by decide +kernel
theorem dX8_ways_75 : decode cX8_ways 75 = .ok (.iconst 1, 1) := by decide +kernel
theorem dX8_ways_76 : decode cX8_ways 76 = .ok (.goto 4, 3) := by decide +kernel
theorem dX8_ways_79 : decode cX8_ways 79 = .ok (.iconst 0, 1) := by decide +kernel
theorem dX8_ways_80 : decode cX8_ways 80 = .ok (.iadd, 1) := by decide +kernel
theorem dX8_ways_81 : decode cX8_ways 81 = .ok (.istore_n 3, 1) := by decide +kernel
theorem dX8_ways_82 : decode cX8_ways 82 = .ok (.aload_n 0, 1) := by decide +kernel
theorem dX8_ways_83 : decode cX8_ways 83 = .ok (.iload_n 2, 1) := by decide +kernel
theorem dX8_ways_84 : decode cX8_ways 84 = .ok (.invokevirtual 328, 3) := by decide +kernel
theorem dX8_ways_87 : decode cX8_ways 87 = .ok (.istore 4, 2) := by decide +kernel
theorem dX8_ways_89 : decode cX8_ways 89 = .ok (.goto (-28), 3) := by decide +kernel
theorem dX8_ways_92 : decode cX8_ways 92 = .ok (.iload_n 3, 1) := by decide +kernel
theorem dX8_ways_93 : decode cX8_ways 93 = .ok (.ireturn, 1) := by decide +kernel
theorem dX8_isomorphic_0 : decode cX8_isomorphic 0 = .ok (.aload_n 0, 1) := by decide +kernel
theorem dX8_isomorphic_1 : decode cX8_isomorphic 1 = .ok (.iconst 0, 1) := by decide +kernel
theorem dX8_isomorphic_2 : decode cX8_isomorphic 2 = .ok (.putfield 1, 3) := by decide +kernel
theorem dX8_isomorphic_5 : decode cX8_isomorphic 5 = .ok (.aload_n 0, 1) := by decide +kernel
theorem dX8_isomorphic_6 : decode cX8_isomorphic 6 = .ok (.iload_n 1, 1) := by decide +kernel
theorem dX8_isomorphic_7 : decode cX8_isomorphic 7 = .ok (.invokevirtual 346, 3) := by decide +kernel
theorem dX8_isomorphic_10 : decode cX8_isomorphic 10 = .ok (.istore_n 2, 1) := by decide +kernel
theorem dX8_isomorphic_11 : decode cX8_isomorphic 11 = .ok (.iload_n 2, 1) := by decide +kernel
theorem dX8_isomorphic_12 : decode cX8_isomorphic 12 = .ok (.ifCond .le 7, 3) := by decide +kernel
theorem dX8_isomorphic_15 : decode cX8_isomorphic 15 = .ok (.iconst 1, 1) := by decide +kernel
theorem dX8_isomorphic_16 : decode cX8_isomorphic 16 = .ok (.goto 4, 3) := by decide +kernel
theorem dX8_isomorphic_19 : decode cX8_isomorphic 19 = .ok (.iload_n 2, 1) := by decide +kernel
theorem dX8_isomorphic_20 : decode cX8_isomorphic 20 = .ok (.ireturn, 1) := by decide +kernel
theorem dX8_equal_0 : decode cX8_equal 0 = .ok (.aload_n 0, 1) := by decide +kernel
theorem dX8_equal_1 : decode cX8_equal 1 = .ok (.iconst 0, 1) := by decide +kernel
theorem dX8_equal_2 : decode cX8_equal 2 = .ok (.putfield 1, 3) := by decide +kernel
theorem dX8_equal_5 : decode cX8_equal 5 = .ok (.aload_n 0, 1) := by decide +kernel
theorem dX8_equal_6 : decode cX8_equal 6 = .ok (.iload_n 1, 1) := by decide +kernel
theorem dX8_equal_7 : decode cX8_equal 7 = .ok (.invokevirtual 340, 3) := by decide +kernel
theorem dX8_equal_10 : decode cX8_equal 10 = .ok (.ifCond .ne 5, 3) := by decide +kernel
theorem dX8_equal_13 : decode cX8_equal 13 = .ok (.iconst (-1), 1) := by decide +kernel
theorem dX8_equal_14 : decode cX8_equal 14 = .ok (.ireturn, 1) := by decide +kernel
theorem dX8_equal_15 : decode cX8_equal 15 = .ok (.aload_n 0, 1) := by decide +kernel
theorem dX8_equal_16 : decode cX8_equal 16 = .ok (.getfield 145, 3) := by decide +kernel
theorem dX8_equal_19 : decode cX8_equal 19 = .ok (.iload_n 1, 1) := by decide +kernel
theorem dX8_equal_20 : decode cX8_equal 20 = .ok (.iaload, 1) := by decide +kernel
theorem dX8_equal_21 : decode cX8_equal 21 = .ok (.aload_n 0, 1) := by decide +kernel
theorem dX8_equal_22 : decode cX8_equal 22 = .ok (.getfield 145, 3) := by decide +kernel
theorem dX8_equal_25 : decode cX8_equal 25 = .ok (.bipush 8, 2) := by decide +kernel
theorem dX8_equal_27 : decode cX8_equal 27 = .ok (.iaload, 1) := by decide +kernel
theorem dX8_equal_28 : decode cX8_equal 28 = .ok (.if_icmp .ne 19, 3) := by decide +kernel
theorem dX8_equal_31 : decode cX8_equal 31 = .ok (.aload_n 0, 1) := by decide +kernel
theorem dX8_equal_32 : decode cX8_equal 32 = .ok (.getfield 149, 3) := by decide +kernel
theorem dX8_equal_35 : decode cX8_equal 35 = .ok (.iload_n 1, 1) := by decide +kernel
theorem dX8_equal_36 : decode cX8_equal 36 = .ok (.iaload, 1) := by decide +kernel
theorem dX8_equal_37 : decode cX8_equal 37 = .ok (.aload_n 0, 1) := by decide +kernel
theorem dX8_equal_38 : decode cX8_equal 38 = .ok (.getfield 149, 3) := by decide +kernel
theorem dX8_equal_41 : decode cX8_equal 41 = .ok (.bipush 8, 2) := by decide +kernel
theorem dX8_equal_43 : decode cX8_equal 43 = .ok (.iaload, 1) := by decide +kernel
theorem dX8_equal_44 : decode cX8_equal 44 = .ok (.if_icmp .eq 5, 3) := by decide +kernel
theorem dX8_equal_47 : decode cX8_equal 47 = .ok (.iconst 0, 1) := by decide +kernel
theorem dX8_equal_48 : decode cX8_equal 48 = .ok (.ireturn, 1) := by decide +kernel
theorem dX8_equal_49 : decode cX8_equal 49 = .ok (.aload_n 0, 1) := by decide +kernel
theorem dX8_equal_50 : decode cX8_equal 50 = .ok (.aload_n 0, 1) := by decide +kernel
theorem dX8_equal_51 : decode cX8_equal 51 = .ok (.getfield 145, 3) := by decide +kernel
theorem dX8_equal_54 : decode cX8_equal 54 = .ok (.bipush 8, 2) := by decide +kernel
theorem dX8_equal_56 : decode cX8_equal 56 = .ok (.iaload, 1) := by decide +kernel
theorem dX8_equal_57 : decode cX8_equal 57 = .ok (.invokevirtual 312, 3) := by decide +kernel
theorem dX8_equal_60 : decode cX8_equal 60 = .ok (.aload_n 0, 1) := by decide +kernel
theorem dX8_equal_61 : decode cX8_equal 61 = .ok (.iload_n 1, 1) := by decide +kernel
theorem dX8_equal_62 : decode cX8_equal 62 = .ok (.invokevirtual 343, 3) := by decide +kernel
theorem dX8_equal_65 : decode cX8_equal 65 = .ok (.ifCond .eq 7, 3) := by decide +kernel
theorem dX8_equal_68 : decode cX8_equal 68 = .ok (.iconst 1, 1) := by decide +kernel
theorem dX8_equal_69 : decode cX8_equal 69 = .ok (.goto 4, 3) := by decide +kernel
theorem dX8_equal_72 : decode cX8_equal 72 = .ok (.iconst 0, 1) := by decide +kernel
theorem dX8_equal_73 : decode cX8_equal 73 = .ok (.ireturn, 1) := by decide +kernel
theorem dX8_triples_0 : decode cX8_triples 0 = .ok (.aload_n 0, 1) := by decide +kernel
theorem dX8_triples_1 : decode cX8_triples 1 = .ok (.iconst 0, 1) := by decide +kernel
theorem dX8_triples_2 : decode cX8_triples 2 = .ok (.putfield 1, 3) := by decide +kernel
theorem dX8_triples_5 : decode cX8_triples 5 = .ok (.aload_n 0, 1) := by decide +kernel
theorem dX8_triples_6 : decode cX8_triples 6 = .ok (.getfield 149, 3) := by decide +kernel
theorem dX8_triples_9 : decode cX8_triples 9 = .ok (.bipush 8, 2) := by decide +kernel
theorem dX8_triples_11 : decode cX8_triples 11 = .ok (.iaload, 1) := by decide +kernel
theorem dX8_triples_12 : decode cX8_triples 12 = .ok (.ireturn, 1) := by decide +kernel
theorem dX8_blanks_0 : decode cX8_blanks 0 = .ok (.aload_n 0, 1) := by decide +kernel
theorem dX8_blanks_1 : decode cX8_blanks 1 = .ok (.iconst 0, 1) := by decide +kernel
theorem dX8_blanks_2 : decode cX8_blanks 2 = .ok (.putfield 1, 3) := by decide +kernel
theorem dX8_blanks_5 : decode cX8_blanks 5 = .ok (.aload_n 0, 1) := by decide +kernel
theorem dX8_blanks_6 : decode cX8_blanks 6 = .ok (.getfield 145, 3) := by decide +kernel
theorem dX8_blanks_9 : decode cX8_blanks 9 = .ok (.bipush 8, 2) := by decide +kernel
theorem dX8_blanks_11 : decode cX8_blanks 11 = .ok (.iaload, 1) := by decide +kernel
theorem dX8_blanks_12 : decode cX8_blanks 12 = .ok (.ireturn, 1) := by decide +kernel
end
section
/-! Call sites (by program). -/
theorem cX0_init_37 : ab_IN mX0_init mX1_init 31 0 := ⟨zX1_init, ⟨ab_n1 (i := 142) (by decide +kernel) (by decide +kernel), ab_t1 (i := 54) (by decide +kernel) (by decide +kernel), rfl, rfl⟩, by decide⟩
theorem cX0_hasPoints_2 : ab_V mX0_hasPoints mX0_isPoint 36 1 := ⟨zX0_isPoint, ⟨ab_t2 (i := 0) (by decide +kernel) (by decide +kernel), ab_t2 (i := 2) (by decide +kernel) (by decide +kernel), ab_t0 (i := 0) (by decide +kernel) (by decide +kernel)⟩, by decide⟩
theorem cX0_hasPoints_10 : ab_V mX0_hasPoints mX0_isPoint 36 1 := ⟨zX0_isPoint, ⟨ab_t2 (i := 0) (by decide +kernel) (by decide +kernel), ab_t2 (i := 2) (by decide +kernel) (by decide +kernel), ab_t0 (i := 0) (by decide +kernel) (by decide +kernel)⟩, by decide⟩
theorem cX0_hasPoints_18 : ab_V mX0_hasPoints mX0_isPoint 36 1 := ⟨zX0_isPoint, ⟨ab_t2 (i := 0) (by decide +kernel) (by decide +kernel), ab_t2 (i := 2) (by decide +kernel) (by decide +kernel), ab_t0 (i := 0) (by decide +kernel) (by decide +kernel)⟩, by decide⟩
theorem cX0_holds_9 : ab_SN mX0_holds mX7_isIn 40 3 := ⟨zX7_isIn, ab_n2 (i := 11) (by decide +kernel) (by decide +kernel), ab_t2 (i := 12) (by decide +kernel) (by decide +kernel), by decide⟩
theorem cX0_insert_9 : ab_SN mX0_insert mX7_placeFor 44 3 := ⟨zX7_placeFor, ab_n2 (i := 18) (by decide +kernel) (by decide +kernel), ab_t2 (i := 19) (by decide +kernel) (by decide +kernel), by decide⟩
theorem cX0_remove_9 : ab_SN mX0_remove mX7_placeFor 44 3 := ⟨zX7_placeFor, ab_n2 (i := 18) (by decide +kernel) (by decide +kernel), ab_t2 (i := 19) (by decide +kernel) (by decide +kernel), by decide⟩
theorem cX1_arrange_23 : ab_V mX1_arrange mX1_compareHashes 28 2 := ⟨zX1_compareHashes, ⟨ab_t2 (i := 46) (by decide +kernel) (by decide +kernel), ab_t2 (i := 48) (by decide +kernel) (by decide +kernel), ab_t0 (i := 1) (by decide +kernel) (by decide +kernel)⟩, by decide⟩
theorem cX1_arrange_93 : ab_V mX1_arrange mX1_compareHashes 28 2 := ⟨zX1_compareHashes, ⟨ab_t2 (i := 46) (by decide +kernel) (by decide +kernel), ab_t2 (i := 48) (by decide +kernel) (by decide +kernel), ab_t0 (i := 1) (by decide +kernel) (by decide +kernel)⟩, by decide⟩
theorem cX1_namings_17 : ab_V mX1_namings mX1_sizeOf 33 1 := ⟨zX1_sizeOf, ⟨ab_t2 (i := 106) (by decide +kernel) (by decide +kernel), ab_t2 (i := 107) (by decide +kernel) (by decide +kernel), ab_t2 (i := 108) (by decide +kernel) (by decide +kernel)⟩, by decide⟩
theorem cX2_init_17 : ab_IN mX2_init mX1_init 17 0 := ⟨zX1_init, ⟨ab_n1 (i := 53) (by decide +kernel) (by decide +kernel), ab_t1 (i := 54) (by decide +kernel) (by decide +kernel), rfl, rfl⟩, by decide⟩
theorem cX2_refresh_52 : ab_V mX2_refresh mX1_arrange 51 1 := ⟨zX1_arrange, ⟨ab_t2 (i := 42) (by decide +kernel) (by decide +kernel), ab_t2 (i := 43) (by decide +kernel) (by decide +kernel), ab_t2 (i := 44) (by decide +kernel) (by decide +kernel)⟩, by decide⟩
theorem cX2_refresh_92 : ab_V mX2_refresh mX2_makesMore 58 1 := ⟨zX2_makesMore, ⟨ab_t2 (i := 51) (by decide +kernel) (by decide +kernel), ab_t2 (i := 53) (by decide +kernel) (by decide +kernel), ab_t0 (i := 2) (by decide +kernel) (by decide +kernel)⟩, by decide⟩
theorem cX2_refresh_106 : ab_V mX2_refresh mX2_takeRound 62 1 := ⟨zX2_takeRound, ⟨ab_t2 (i := 98) (by decide +kernel) (by decide +kernel), ab_t2 (i := 100) (by decide +kernel) (by decide +kernel), ab_t0 (i := 6) (by decide +kernel) (by decide +kernel)⟩, by decide⟩
theorem cX2_makesMore_37 : ab_V mX2_makesMore mX2_describe 69 2 := ⟨zX2_describe, ⟨ab_t2 (i := 55) (by decide +kernel) (by decide +kernel), ab_t2 (i := 57) (by decide +kernel) (by decide +kernel), ab_t0 (i := 3) (by decide +kernel) (by decide +kernel)⟩, by decide⟩
theorem cX2_makesMore_46 : ab_SN mX2_makesMore mX7_sort 73 2 := ⟨zX7_sort, ab_n2 (i := 68) (by decide +kernel) (by decide +kernel), ab_t2 (i := 69) (by decide +kernel) (by decide +kernel), by decide⟩
theorem cX2_makesMore_53 : ab_V mX2_makesMore mX6_begin 77 0 := ⟨zX6_begin, ⟨ab_t2 (i := 71) (by decide +kernel) (by decide +kernel), ab_t2 (i := 72) (by decide +kernel) (by decide +kernel), ab_t2 (i := 73) (by decide +kernel) (by decide +kernel)⟩, by decide⟩
theorem cX2_makesMore_74 : ab_V mX2_makesMore mX2_putContent 85 2 := ⟨zX2_putContent, ⟨ab_t2 (i := 78) (by decide +kernel) (by decide +kernel), ab_t2 (i := 80) (by decide +kernel) (by decide +kernel), ab_t0 (i := 4) (by decide +kernel) (by decide +kernel)⟩, by decide⟩
theorem cX2_makesMore_104 : ab_SN mX2_makesMore mX7_partAt 89 2 := ⟨zX7_partAt, ab_n2 (i := 92) (by decide +kernel) (by decide +kernel), ab_t2 (i := 63) (by decide +kernel) (by decide +kernel), by decide⟩
theorem cX2_makesMore_139 : ab_V mX2_makesMore mX6_put 93 2 := ⟨zX6_put, ⟨ab_t2 (i := 82) (by decide +kernel) (by decide +kernel), ab_t2 (i := 83) (by decide +kernel) (by decide +kernel), ab_t2 (i := 84) (by decide +kernel) (by decide +kernel)⟩, by decide⟩
theorem cX2_makesMore_149 : ab_V mX2_makesMore mX2_putContent 85 2 := ⟨zX2_putContent, ⟨ab_t2 (i := 78) (by decide +kernel) (by decide +kernel), ab_t2 (i := 80) (by decide +kernel) (by decide +kernel), ab_t0 (i := 4) (by decide +kernel) (by decide +kernel)⟩, by decide⟩
theorem cX2_makesMore_179 : ab_V mX2_makesMore mX6_end 97 2 := ⟨zX6_end, ⟨ab_t2 (i := 93) (by decide +kernel) (by decide +kernel), ab_t2 (i := 94) (by decide +kernel) (by decide +kernel), ab_t2 (i := 95) (by decide +kernel) (by decide +kernel)⟩, by decide⟩
theorem cX2_makesMore_196 : ab_V mX2_makesMore mX1_arrange 51 1 := ⟨zX1_arrange, ⟨ab_t2 (i := 42) (by decide +kernel) (by decide +kernel), ab_t2 (i := 43) (by decide +kernel) (by decide +kernel), ab_t2 (i := 44) (by decide +kernel) (by decide +kernel)⟩, by decide⟩
theorem cX2_describe_38 : ab_SN mX2_describe mX7_pointAt 106 2 := ⟨zX7_pointAt, ab_n2 (i := 59) (by decide +kernel) (by decide +kernel), ab_t2 (i := 60) (by decide +kernel) (by decide +kernel), by decide⟩
theorem cX2_describe_75 : ab_S mX2_describe mX2_partFor 109 3 := ⟨zX2_partFor, ab_t2 (i := 65) (by decide +kernel) (by decide +kernel), ab_t2 (i := 66) (by decide +kernel) (by decide +kernel), by decide⟩
theorem cX2_putContent_13 : ab_V mX2_putContent mX6_put 93 2 := ⟨zX6_put, ⟨ab_t2 (i := 82) (by decide +kernel) (by decide +kernel), ab_t2 (i := 83) (by decide +kernel) (by decide +kernel), ab_t2 (i := 84) (by decide +kernel) (by decide +kernel)⟩, by decide⟩
theorem cX2_putContent_66 : ab_V mX2_putContent mX6_put 93 2 := ⟨zX6_put, ⟨ab_t2 (i := 82) (by decide +kernel) (by decide +kernel), ab_t2 (i := 83) (by decide +kernel) (by decide +kernel), ab_t2 (i := 84) (by decide +kernel) (by decide +kernel)⟩, by decide⟩
theorem cX3_find_71 : ab_V mX3_find mX3_search 46 4 := ⟨zX3_search, ⟨ab_t2 (i := 114) (by decide +kernel) (by decide +kernel), ab_t2 (i := 116) (by decide +kernel) (by decide +kernel), ab_t0 (i := 7) (by decide +kernel) (by decide +kernel)⟩, by decide⟩
theorem cX3_search_5 : ab_V mX3_search mX3_layTrial 50 3 := ⟨zX3_layTrial, ⟨ab_t2 (i := 118) (by decide +kernel) (by decide +kernel), ab_t2 (i := 120) (by decide +kernel) (by decide +kernel), ab_t0 (i := 8) (by decide +kernel) (by decide +kernel)⟩, by decide⟩
theorem cX3_search_27 : ab_S mX3_search mX3_compare 57 3 := ⟨zX3_compare, ab_t2 (i := 132) (by decide +kernel) (by decide +kernel), ab_t2 (i := 133) (by decide +kernel) (by decide +kernel), by decide⟩
theorem cX3_search_52 : ab_V mX3_search mX3_settle 61 3 := ⟨zX3_settle, ⟨ab_t2 (i := 135) (by decide +kernel) (by decide +kernel), ab_t2 (i := 137) (by decide +kernel) (by decide +kernel), ab_t0 (i := 9) (by decide +kernel) (by decide +kernel)⟩, by decide⟩
theorem cX3_search_148 : ab_V mX3_search mX3_search 46 4 := ⟨zX3_search, ⟨ab_t2 (i := 114) (by decide +kernel) (by decide +kernel), ab_t2 (i := 116) (by decide +kernel) (by decide +kernel), ab_t0 (i := 7) (by decide +kernel) (by decide +kernel)⟩, by decide⟩
theorem cX3_settle_52 : ab_V mX3_settle mX3_greatestDifference 74 1 := ⟨zX3_greatestDifference, ⟨ab_t2 (i := 140) (by decide +kernel) (by decide +kernel), ab_t2 (i := 142) (by decide +kernel) (by decide +kernel), ab_t0 (i := 10) (by decide +kernel) (by decide +kernel)⟩, by decide⟩
theorem cX3_layTrial_89 : ab_SN mX3_layTrial mX7_renumbered 87 2 := ⟨zX7_renumbered, ab_n2 (i := 125) (by decide +kernel) (by decide +kernel), ab_t2 (i := 126) (by decide +kernel) (by decide +kernel), by decide⟩
theorem cX3_layTrial_107 : ab_SN mX3_layTrial mX7_sort 91 2 := ⟨zX7_sort, ab_n2 (i := 128) (by decide +kernel) (by decide +kernel), ab_t2 (i := 69) (by decide +kernel) (by decide +kernel), by decide⟩
theorem cX4_matches_2 : ab_V mX4_matches mX4_readLasts 18 1 := ⟨zX4_readLasts, ⟨ab_t2 (i := 148) (by decide +kernel) (by decide +kernel), ab_t2 (i := 150) (by decide +kernel) (by decide +kernel), ab_t0 (i := 11) (by decide +kernel) (by decide +kernel)⟩, by decide⟩
theorem cX4_matches_9 : ab_V mX4_matches mX4_keepsTriples 22 3 := ⟨zX4_keepsTriples, ⟨ab_t2 (i := 154) (by decide +kernel) (by decide +kernel), ab_t2 (i := 156) (by decide +kernel) (by decide +kernel), ab_t0 (i := 12) (by decide +kernel) (by decide +kernel)⟩, by decide⟩
theorem cX4_matches_20 : ab_V mX4_matches mX4_completes 26 4 := ⟨zX4_completes, ⟨ab_t2 (i := 160) (by decide +kernel) (by decide +kernel), ab_t2 (i := 162) (by decide +kernel) (by decide +kernel), ab_t0 (i := 13) (by decide +kernel) (by decide +kernel)⟩, by decide⟩
theorem cX4_automorphisms_2 : ab_V mX4_automorphisms mX4_readLasts 18 1 := ⟨zX4_readLasts, ⟨ab_t2 (i := 148) (by decide +kernel) (by decide +kernel), ab_t2 (i := 150) (by decide +kernel) (by decide +kernel), ab_t0 (i := 11) (by decide +kernel) (by decide +kernel)⟩, by decide⟩
theorem cX4_automorphisms_44 : ab_V mX4_automorphisms mX4_fits 36 4 := ⟨zX4_fits, ⟨ab_t2 (i := 164) (by decide +kernel) (by decide +kernel), ab_t2 (i := 166) (by decide +kernel) (by decide +kernel), ab_t0 (i := 14) (by decide +kernel) (by decide +kernel)⟩, by decide⟩
theorem cX4_automorphisms_63 : ab_V mX4_automorphisms mX4_completes 26 4 := ⟨zX4_completes, ⟨ab_t2 (i := 160) (by decide +kernel) (by decide +kernel), ab_t2 (i := 162) (by decide +kernel) (by decide +kernel), ab_t0 (i := 13) (by decide +kernel) (by decide +kernel)⟩, by decide⟩
theorem cX4_readLasts_43 : ab_SN mX4_readLasts mX7_pointAt 45 2 := ⟨zX7_pointAt, ab_n2 (i := 152) (by decide +kernel) (by decide +kernel), ab_t2 (i := 60) (by decide +kernel) (by decide +kernel), by decide⟩
theorem cX4_completes_44 : ab_V mX4_completes mX4_fits 36 4 := ⟨zX4_fits, ⟨ab_t2 (i := 164) (by decide +kernel) (by decide +kernel), ab_t2 (i := 166) (by decide +kernel) (by decide +kernel), ab_t0 (i := 14) (by decide +kernel) (by decide +kernel)⟩, by decide⟩
theorem cX4_completes_63 : ab_V mX4_completes mX4_completes 26 4 := ⟨zX4_completes, ⟨ab_t2 (i := 160) (by decide +kernel) (by decide +kernel), ab_t2 (i := 162) (by decide +kernel) (by decide +kernel), ab_t0 (i := 13) (by decide +kernel) (by decide +kernel)⟩, by decide⟩
theorem cX4_fits_38 : ab_V mX4_fits mX4_keepsTriples 22 3 := ⟨zX4_keepsTriples, ⟨ab_t2 (i := 154) (by decide +kernel) (by decide +kernel), ab_t2 (i := 156) (by decide +kernel) (by decide +kernel), ab_t0 (i := 12) (by decide +kernel) (by decide +kernel)⟩, by decide⟩
theorem cX4_keepsTriples_34 : ab_SN mX4_keepsTriples mX7_renumbered 63 2 := ⟨zX7_renumbered, ab_n2 (i := 158) (by decide +kernel) (by decide +kernel), ab_t2 (i := 126) (by decide +kernel) (by decide +kernel), by decide⟩
theorem cX4_keepsTriples_45 : ab_SN mX4_keepsTriples mX7_isIn 67 3 := ⟨zX7_isIn, ab_n2 (i := 159) (by decide +kernel) (by decide +kernel), ab_t2 (i := 12) (by decide +kernel) (by decide +kernel), by decide⟩
theorem cX5_init_9 : ab_IN mX5_init mX0_init 11 0 := ⟨zX0_init, ⟨ab_n1 (i := 137) (by decide +kernel) (by decide +kernel), ab_t1 (i := 138) (by decide +kernel) (by decide +kernel), rfl, rfl⟩, by decide⟩
theorem cX5_refreshDigest_9 : ab_V mX5_refreshDigest mX6_begin 35 0 := ⟨zX6_begin, ⟨ab_t3 (i := 85) (by decide +kernel) (by decide +kernel), ab_t2 (i := 72) (by decide +kernel) (by decide +kernel), ab_t2 (i := 73) (by decide +kernel) (by decide +kernel)⟩, by decide⟩
theorem cX5_refreshDigest_43 : ab_SN mX5_refreshDigest mX7_pointAt 47 2 := ⟨zX7_pointAt, ab_n3 (i := 86) (by decide +kernel) (by decide +kernel), ab_t2 (i := 60) (by decide +kernel) (by decide +kernel), by decide⟩
theorem cX5_refreshDigest_47 : ab_V mX5_refreshDigest mX6_put 51 2 := ⟨zX6_put, ⟨ab_t3 (i := 87) (by decide +kernel) (by decide +kernel), ab_t2 (i := 83) (by decide +kernel) (by decide +kernel), ab_t2 (i := 84) (by decide +kernel) (by decide +kernel)⟩, by decide⟩
theorem cX5_refreshDigest_68 : ab_V mX5_refreshDigest mX6_end 55 2 := ⟨zX6_end, ⟨ab_t3 (i := 88) (by decide +kernel) (by decide +kernel), ab_t2 (i := 94) (by decide +kernel) (by decide +kernel), ab_t2 (i := 95) (by decide +kernel) (by decide +kernel)⟩, by decide⟩
theorem cX6_put_64 : ab_V mX6_put mX6_mix 34 0 := ⟨zX6_mix, ⟨ab_t2 (i := 86) (by decide +kernel) (by decide +kernel), ab_t2 (i := 88) (by decide +kernel) (by decide +kernel), ab_t0 (i := 5) (by decide +kernel) (by decide +kernel)⟩, by decide⟩
theorem cX6_end_13 : ab_V mX6_end mX6_put 37 2 := ⟨zX6_put, ⟨ab_t2 (i := 97) (by decide +kernel) (by decide +kernel), ab_t2 (i := 83) (by decide +kernel) (by decide +kernel), ab_t2 (i := 84) (by decide +kernel) (by decide +kernel)⟩, by decide⟩
theorem cX6_end_38 : ab_V mX6_end mX6_put 37 2 := ⟨zX6_put, ⟨ab_t2 (i := 97) (by decide +kernel) (by decide +kernel), ab_t2 (i := 83) (by decide +kernel) (by decide +kernel), ab_t2 (i := 84) (by decide +kernel) (by decide +kernel)⟩, by decide⟩
theorem cX6_end_50 : ab_V mX6_end mX6_put 37 2 := ⟨zX6_put, ⟨ab_t2 (i := 97) (by decide +kernel) (by decide +kernel), ab_t2 (i := 83) (by decide +kernel) (by decide +kernel), ab_t2 (i := 84) (by decide +kernel) (by decide +kernel)⟩, by decide⟩
theorem cX6_end_56 : ab_V mX6_end mX6_put 37 2 := ⟨zX6_put, ⟨ab_t2 (i := 97) (by decide +kernel) (by decide +kernel), ab_t2 (i := 83) (by decide +kernel) (by decide +kernel), ab_t2 (i := 84) (by decide +kernel) (by decide +kernel)⟩, by decide⟩
theorem cX7_init_9 : ab_IN mX7_init mX6_init 9 0 := ⟨zX6_init, ⟨ab_n1 (i := 27) (by decide +kernel) (by decide +kernel), ab_t1 (i := 28) (by decide +kernel) (by decide +kernel), rfl, rfl⟩, by decide⟩
theorem cX7_init_24 : ab_I mX7_init mX2_init 18 1 := ⟨zX2_init, ⟨ab_t1 (i := 47) (by decide +kernel) (by decide +kernel), ab_t1 (i := 48) (by decide +kernel) (by decide +kernel), rfl, rfl⟩, by decide⟩
theorem cX7_init_35 : ab_IN mX7_init mX4_init 27 0 := ⟨zX4_init, ⟨ab_n1 (i := 98) (by decide +kernel) (by decide +kernel), ab_t1 (i := 99) (by decide +kernel) (by decide +kernel), rfl, rfl⟩, by decide⟩
theorem cX7_init_46 : ab_IN mX7_init mX3_init 34 0 := ⟨zX3_init, ⟨ab_n1 (i := 112) (by decide +kernel) (by decide +kernel), ab_t1 (i := 113) (by decide +kernel) (by decide +kernel), rfl, rfl⟩, by decide⟩
theorem cX7_init_57 : ab_IN mX7_init mX5_init 41 0 := ⟨zX5_init, ⟨ab_n1 (i := 131) (by decide +kernel) (by decide +kernel), ab_t1 (i := 132) (by decide +kernel) (by decide +kernel), rfl, rfl⟩, by decide⟩
theorem cX7_init_82 : ab_IN mX7_init mX0_init 56 0 := ⟨zX0_init, ⟨ab_n1 (i := 202) (by decide +kernel) (by decide +kernel), ab_t1 (i := 138) (by decide +kernel) (by decide +kernel), rfl, rfl⟩, by decide⟩
theorem cX7_triple_7 : ab_V mX7_triple mX0_hasPoints 68 3 := ⟨zX0_hasPoints, ⟨ab_t1 (i := 236) (by decide +kernel) (by decide +kernel), ab_t1 (i := 237) (by decide +kernel) (by decide +kernel), ab_t1 (i := 238) (by decide +kernel) (by decide +kernel)⟩, by decide⟩
theorem cX7_triple_18 : ab_S mX7_triple mX7_keyOf 72 3 := ⟨zX7_keyOf, ab_t2 (i := 4) (by decide +kernel) (by decide +kernel), ab_t2 (i := 5) (by decide +kernel) (by decide +kernel), by decide⟩
theorem cX7_triple_29 : ab_V mX7_triple mX0_holds 76 1 := ⟨zX0_holds, ⟨ab_t2 (i := 7) (by decide +kernel) (by decide +kernel), ab_t2 (i := 8) (by decide +kernel) (by decide +kernel), ab_t2 (i := 9) (by decide +kernel) (by decide +kernel)⟩, by decide⟩
theorem cX7_triple_58 : ab_V mX7_triple mX0_insert 83 1 := ⟨zX0_insert, ⟨ab_t2 (i := 14) (by decide +kernel) (by decide +kernel), ab_t2 (i := 15) (by decide +kernel) (by decide +kernel), ab_t2 (i := 16) (by decide +kernel) (by decide +kernel)⟩, by decide⟩
theorem cX7_drop_7 : ab_V mX7_drop mX0_hasPoints 68 3 := ⟨zX0_hasPoints, ⟨ab_t1 (i := 236) (by decide +kernel) (by decide +kernel), ab_t1 (i := 237) (by decide +kernel) (by decide +kernel), ab_t1 (i := 238) (by decide +kernel) (by decide +kernel)⟩, by decide⟩
theorem cX7_drop_18 : ab_S mX7_drop mX7_keyOf 72 3 := ⟨zX7_keyOf, ab_t2 (i := 4) (by decide +kernel) (by decide +kernel), ab_t2 (i := 5) (by decide +kernel) (by decide +kernel), by decide⟩
theorem cX7_drop_29 : ab_V mX7_drop mX0_holds 76 1 := ⟨zX0_holds, ⟨ab_t2 (i := 7) (by decide +kernel) (by decide +kernel), ab_t2 (i := 8) (by decide +kernel) (by decide +kernel), ab_t2 (i := 9) (by decide +kernel) (by decide +kernel)⟩, by decide⟩
theorem cX7_drop_43 : ab_V mX7_drop mX0_remove 87 1 := ⟨zX0_remove, ⟨ab_t2 (i := 25) (by decide +kernel) (by decide +kernel), ab_t2 (i := 26) (by decide +kernel) (by decide +kernel), ab_t2 (i := 27) (by decide +kernel) (by decide +kernel)⟩, by decide⟩
theorem cX7_name_8 : ab_V mX7_name mX2_refresh 90 1 := ⟨zX2_refresh, ⟨ab_t2 (i := 33) (by decide +kernel) (by decide +kernel), ab_t2 (i := 34) (by decide +kernel) (by decide +kernel), ab_t2 (i := 35) (by decide +kernel) (by decide +kernel)⟩, by decide⟩
theorem cX7_name_18 : ab_V mX7_name mX1_namings 98 0 := ⟨zX1_namings, ⟨ab_t2 (i := 102) (by decide +kernel) (by decide +kernel), ab_t2 (i := 103) (by decide +kernel) (by decide +kernel), ab_t2 (i := 104) (by decide +kernel) (by decide +kernel)⟩, by decide⟩
theorem cX7_name_44 : ab_V mX7_name mX3_find 107 2 := ⟨zX3_find, ⟨ab_t2 (i := 110) (by decide +kernel) (by decide +kernel), ab_t2 (i := 111) (by decide +kernel) (by decide +kernel), ab_t2 (i := 112) (by decide +kernel) (by decide +kernel)⟩, by decide⟩
theorem cX7_name_62 : ab_V mX7_name mX4_matches 111 2 := ⟨zX4_matches, ⟨ab_t2 (i := 144) (by decide +kernel) (by decide +kernel), ab_t2 (i := 145) (by decide +kernel) (by decide +kernel), ab_t2 (i := 146) (by decide +kernel) (by decide +kernel)⟩, by decide⟩
theorem cX7_name_86 : ab_V mX7_name mX5_adopt 119 2 := ⟨zX5_adopt, ⟨ab_t2 (i := 168) (by decide +kernel) (by decide +kernel), ab_t2 (i := 169) (by decide +kernel) (by decide +kernel), ab_t2 (i := 170) (by decide +kernel) (by decide +kernel)⟩, by decide⟩
theorem cX7_name_97 : ab_V mX7_name mX4_automorphisms 123 1 := ⟨zX4_automorphisms, ⟨ab_t2 (i := 173) (by decide +kernel) (by decide +kernel), ab_t2 (i := 174) (by decide +kernel) (by decide +kernel), ab_t2 (i := 175) (by decide +kernel) (by decide +kernel)⟩, by decide⟩
theorem cX7_form_42 : ab_S mX7_form mX7_pointAt 133 2 := ⟨zX7_pointAt, ab_t2 (i := 185) (by decide +kernel) (by decide +kernel), ab_t2 (i := 60) (by decide +kernel) (by decide +kernel), by decide⟩
theorem cX7_octet_28 : ab_V mX7_octet mX5_refreshDigest 144 1 := ⟨zX5_refreshDigest, ⟨ab_t3 (i := 81) (by decide +kernel) (by decide +kernel), ab_t3 (i := 82) (by decide +kernel) (by decide +kernel), ab_t3 (i := 83) (by decide +kernel) (by decide +kernel)⟩, by decide⟩
theorem cX7_hash_36 : ab_V mX7_hash mX2_refresh 90 1 := ⟨zX2_refresh, ⟨ab_t2 (i := 33) (by decide +kernel) (by decide +kernel), ab_t2 (i := 34) (by decide +kernel) (by decide +kernel), ab_t2 (i := 35) (by decide +kernel) (by decide +kernel)⟩, by decide⟩
theorem cX7_rounds_8 : ab_V mX7_rounds mX2_refresh 90 1 := ⟨zX2_refresh, ⟨ab_t2 (i := 33) (by decide +kernel) (by decide +kernel), ab_t2 (i := 34) (by decide +kernel) (by decide +kernel), ab_t2 (i := 35) (by decide +kernel) (by decide +kernel)⟩, by decide⟩
theorem cX7_first_8 : ab_V mX7_first mX2_refresh 90 1 := ⟨zX2_refresh, ⟨ab_t2 (i := 33) (by decide +kernel) (by decide +kernel), ab_t2 (i := 34) (by decide +kernel) (by decide +kernel), ab_t2 (i := 35) (by decide +kernel) (by decide +kernel)⟩, by decide⟩
theorem cX7_first_38 : ab_V mX7_first mX1_sizeOf 159 1 := ⟨zX1_sizeOf, ⟨ab_t2 (i := 198) (by decide +kernel) (by decide +kernel), ab_t2 (i := 107) (by decide +kernel) (by decide +kernel), ab_t2 (i := 108) (by decide +kernel) (by decide +kernel)⟩, by decide⟩
theorem cX7_keep_30 : ab_IN mX7_keep mX0_init 56 0 := ⟨zX0_init, ⟨ab_n1 (i := 202) (by decide +kernel) (by decide +kernel), ab_t1 (i := 138) (by decide +kernel) (by decide +kernel), rfl, rfl⟩, by decide⟩
theorem cX7_isomorphic_2 : ab_V mX7_isomorphic mX7_keptAt 169 1 := ⟨zX7_keptAt, ⟨ab_t2 (i := 207) (by decide +kernel) (by decide +kernel), ab_t2 (i := 209) (by decide +kernel) (by decide +kernel), ab_t0 (i := 15) (by decide +kernel) (by decide +kernel)⟩, by decide⟩
theorem cX7_isomorphic_14 : ab_V mX7_isomorphic mX7_becomes 173 1 := ⟨zX7_becomes, ⟨ab_t2 (i := 211) (by decide +kernel) (by decide +kernel), ab_t2 (i := 213) (by decide +kernel) (by decide +kernel), ab_t0 (i := 16) (by decide +kernel) (by decide +kernel)⟩, by decide⟩
theorem cX7_ways_2 : ab_V mX7_ways mX7_keptAt 169 1 := ⟨zX7_keptAt, ⟨ab_t2 (i := 207) (by decide +kernel) (by decide +kernel), ab_t2 (i := 209) (by decide +kernel) (by decide +kernel), ab_t0 (i := 15) (by decide +kernel) (by decide +kernel)⟩, by decide⟩
theorem cX7_ways_14 : ab_V mX7_ways mX7_becomes 173 1 := ⟨zX7_becomes, ⟨ab_t2 (i := 211) (by decide +kernel) (by decide +kernel), ab_t2 (i := 213) (by decide +kernel) (by decide +kernel), ab_t0 (i := 16) (by decide +kernel) (by decide +kernel)⟩, by decide⟩
theorem cX7_ways_28 : ab_V mX7_ways mX4_automorphisms 123 1 := ⟨zX4_automorphisms, ⟨ab_t2 (i := 173) (by decide +kernel) (by decide +kernel), ab_t2 (i := 174) (by decide +kernel) (by decide +kernel), ab_t2 (i := 175) (by decide +kernel) (by decide +kernel)⟩, by decide⟩
theorem cX7_equal_2 : ab_V mX7_equal mX7_keptAt 169 1 := ⟨zX7_keptAt, ⟨ab_t2 (i := 207) (by decide +kernel) (by decide +kernel), ab_t2 (i := 209) (by decide +kernel) (by decide +kernel), ab_t0 (i := 15) (by decide +kernel) (by decide +kernel)⟩, by decide⟩
theorem cX7_equal_17 : ab_V mX7_equal mX0_hasSizesOf 177 1 := ⟨zX0_hasSizesOf, ⟨ab_t2 (i := 215) (by decide +kernel) (by decide +kernel), ab_t2 (i := 216) (by decide +kernel) (by decide +kernel), ab_t2 (i := 217) (by decide +kernel) (by decide +kernel)⟩, by decide⟩
theorem cX7_equal_41 : ab_S mX7_equal mX7_sameRows 180 3 := ⟨zX7_sameRows, ab_t2 (i := 231) (by decide +kernel) (by decide +kernel), ab_t2 (i := 232) (by decide +kernel) (by decide +kernel), by decide⟩
theorem cX7_becomes_5 : ab_V mX7_becomes mX0_hasSizesOf 177 1 := ⟨zX0_hasSizesOf, ⟨ab_t2 (i := 215) (by decide +kernel) (by decide +kernel), ab_t2 (i := 216) (by decide +kernel) (by decide +kernel), ab_t2 (i := 217) (by decide +kernel) (by decide +kernel)⟩, by decide⟩
theorem cX7_becomes_21 : ab_V mX7_becomes mX2_refresh 90 1 := ⟨zX2_refresh, ⟨ab_t2 (i := 33) (by decide +kernel) (by decide +kernel), ab_t2 (i := 34) (by decide +kernel) (by decide +kernel), ab_t2 (i := 35) (by decide +kernel) (by decide +kernel)⟩, by decide⟩
theorem cX7_becomes_29 : ab_V mX7_becomes mX2_refresh 90 1 := ⟨zX2_refresh, ⟨ab_t2 (i := 33) (by decide +kernel) (by decide +kernel), ab_t2 (i := 34) (by decide +kernel) (by decide +kernel), ab_t2 (i := 35) (by decide +kernel) (by decide +kernel)⟩, by decide⟩
theorem cX7_becomes_50 : ab_V mX7_becomes mX1_hasHashesOf 184 2 := ⟨zX1_hasHashesOf, ⟨ab_t2 (i := 219) (by decide +kernel) (by decide +kernel), ab_t2 (i := 220) (by decide +kernel) (by decide +kernel), ab_t2 (i := 221) (by decide +kernel) (by decide +kernel)⟩, by decide⟩
theorem cX7_becomes_67 : ab_V mX7_becomes mX4_matches 111 2 := ⟨zX4_matches, ⟨ab_t2 (i := 144) (by decide +kernel) (by decide +kernel), ab_t2 (i := 145) (by decide +kernel) (by decide +kernel), ab_t2 (i := 146) (by decide +kernel) (by decide +kernel)⟩, by decide⟩
theorem cX7_pointAt_2 : ab_S mX7_pointAt mX7_partAt 188 2 := ⟨zX7_partAt, ab_t2 (i := 62) (by decide +kernel) (by decide +kernel), ab_t2 (i := 63) (by decide +kernel) (by decide +kernel), by decide⟩
theorem cX8_init_595 : ab_V mX8_init mX8_digestOf 199 1 := ⟨zX8_digestOf, ⟨ab_t3 (i := 163) (by decide +kernel) (by decide +kernel), ab_t3 (i := 165) (by decide +kernel) (by decide +kernel), ab_t0 (i := 18) (by decide +kernel) (by decide +kernel)⟩, by decide⟩
theorem cX8_init_599 : ab_V mX8_init mX8_octetsOf 203 0 := ⟨zX8_octetsOf, ⟨ab_t3 (i := 185) (by decide +kernel) (by decide +kernel), ab_t3 (i := 187) (by decide +kernel) (by decide +kernel), ab_t0 (i := 20) (by decide +kernel) (by decide +kernel)⟩, by decide⟩
theorem cX8_digestOf_153 : ab_V mX8_digestOf mX8_block 226 1 := ⟨zX8_block, ⟨ab_t3 (i := 176) (by decide +kernel) (by decide +kernel), ab_t3 (i := 178) (by decide +kernel) (by decide +kernel), ab_t0 (i := 19) (by decide +kernel) (by decide +kernel)⟩, by decide⟩
theorem cX8_block_95 : ab_S mX8_block mX8_turned 231 2 := ⟨zX8_turned, ab_t3 (i := 181) (by decide +kernel) (by decide +kernel), ab_t3 (i := 182) (by decide +kernel) (by decide +kernel), by decide⟩
theorem cX8_block_101 : ab_S mX8_block mX8_turned 231 2 := ⟨zX8_turned, ab_t3 (i := 181) (by decide +kernel) (by decide +kernel), ab_t3 (i := 182) (by decide +kernel) (by decide +kernel), by decide⟩
theorem cX8_block_115 : ab_S mX8_block mX8_turned 231 2 := ⟨zX8_turned, ab_t3 (i := 181) (by decide +kernel) (by decide +kernel), ab_t3 (i := 182) (by decide +kernel) (by decide +kernel), by decide⟩
theorem cX8_block_122 : ab_S mX8_block mX8_turned 231 2 := ⟨zX8_turned, ab_t3 (i := 181) (by decide +kernel) (by decide +kernel), ab_t3 (i := 182) (by decide +kernel) (by decide +kernel), by decide⟩
theorem cX8_block_256 : ab_S mX8_block mX8_turned 231 2 := ⟨zX8_turned, ab_t3 (i := 181) (by decide +kernel) (by decide +kernel), ab_t3 (i := 182) (by decide +kernel) (by decide +kernel), by decide⟩
theorem cX8_block_263 : ab_S mX8_block mX8_turned 231 2 := ⟨zX8_turned, ab_t3 (i := 181) (by decide +kernel) (by decide +kernel), ab_t3 (i := 182) (by decide +kernel) (by decide +kernel), by decide⟩
theorem cX8_block_271 : ab_S mX8_block mX8_turned 231 2 := ⟨zX8_turned, ab_t3 (i := 181) (by decide +kernel) (by decide +kernel), ab_t3 (i := 182) (by decide +kernel) (by decide +kernel), by decide⟩
theorem cX8_block_312 : ab_S mX8_block mX8_turned 231 2 := ⟨zX8_turned, ab_t3 (i := 181) (by decide +kernel) (by decide +kernel), ab_t3 (i := 182) (by decide +kernel) (by decide +kernel), by decide⟩
theorem cX8_block_318 : ab_S mX8_block mX8_turned 231 2 := ⟨zX8_turned, ab_t3 (i := 181) (by decide +kernel) (by decide +kernel), ab_t3 (i := 182) (by decide +kernel) (by decide +kernel), by decide⟩
theorem cX8_block_325 : ab_S mX8_block mX8_turned 231 2 := ⟨zX8_turned, ab_t3 (i := 181) (by decide +kernel) (by decide +kernel), ab_t3 (i := 182) (by decide +kernel) (by decide +kernel), by decide⟩
theorem cX8_sayNumber_14 : ab_V mX8_sayNumber mX8_say 238 1 := ⟨zX8_say, ⟨ab_t4 (i := 77) (by decide +kernel) (by decide +kernel), ab_t4 (i := 79) (by decide +kernel) (by decide +kernel), ab_t0 (i := 27) (by decide +kernel) (by decide +kernel)⟩, by decide⟩
theorem cX8_find_17 : ab_S mX8_find mX8_at 245 2 := ⟨zX8_at, ab_t4 (i := 49) (by decide +kernel) (by decide +kernel), ab_t4 (i := 50) (by decide +kernel) (by decide +kernel), by decide⟩
theorem cX8_triple_7 : ab_V mX8_triple mX8_isPoint 249 1 := ⟨zX8_isPoint, ⟨ab_t4 (i := 41) (by decide +kernel) (by decide +kernel), ab_t4 (i := 43) (by decide +kernel) (by decide +kernel), ab_t0 (i := 21) (by decide +kernel) (by decide +kernel)⟩, by decide⟩
theorem cX8_triple_15 : ab_V mX8_triple mX8_isPoint 249 1 := ⟨zX8_isPoint, ⟨ab_t4 (i := 41) (by decide +kernel) (by decide +kernel), ab_t4 (i := 43) (by decide +kernel) (by decide +kernel), ab_t0 (i := 21) (by decide +kernel) (by decide +kernel)⟩, by decide⟩
theorem cX8_triple_23 : ab_V mX8_triple mX8_isPoint 249 1 := ⟨zX8_isPoint, ⟨ab_t4 (i := 41) (by decide +kernel) (by decide +kernel), ab_t4 (i := 43) (by decide +kernel) (by decide +kernel), ab_t0 (i := 21) (by decide +kernel) (by decide +kernel)⟩, by decide⟩
theorem cX8_triple_37 : ab_V mX8_triple mX8_find 253 4 := ⟨zX8_find, ⟨ab_t4 (i := 45) (by decide +kernel) (by decide +kernel), ab_t4 (i := 47) (by decide +kernel) (by decide +kernel), ab_t0 (i := 22) (by decide +kernel) (by decide +kernel)⟩, by decide⟩
theorem cX8_triple_69 : ab_S mX8_triple mX8_at 245 2 := ⟨zX8_at, ab_t4 (i := 49) (by decide +kernel) (by decide +kernel), ab_t4 (i := 50) (by decide +kernel) (by decide +kernel), by decide⟩
theorem cX8_drop_11 : ab_V mX8_drop mX8_find 253 4 := ⟨zX8_find, ⟨ab_t4 (i := 45) (by decide +kernel) (by decide +kernel), ab_t4 (i := 47) (by decide +kernel) (by decide +kernel), ab_t0 (i := 22) (by decide +kernel) (by decide +kernel)⟩, by decide⟩
theorem cX8_drop_38 : ab_S mX8_drop mX8_at 245 2 := ⟨zX8_at, ab_t4 (i := 49) (by decide +kernel) (by decide +kernel), ab_t4 (i := 50) (by decide +kernel) (by decide +kernel), by decide⟩
theorem cX8_drop_54 : ab_S mX8_drop mX8_at 245 2 := ⟨zX8_at, ab_t4 (i := 49) (by decide +kernel) (by decide +kernel), ab_t4 (i := 50) (by decide +kernel) (by decide +kernel), by decide⟩
theorem cX8_describe_28 : ab_S mX8_describe mX8_at 245 2 := ⟨zX8_at, ab_t4 (i := 49) (by decide +kernel) (by decide +kernel), ab_t4 (i := 50) (by decide +kernel) (by decide +kernel), by decide⟩
theorem cX8_next_21 : ab_S mX8_next mX8_at 245 2 := ⟨zX8_at, ab_t4 (i := 49) (by decide +kernel) (by decide +kernel), ab_t4 (i := 50) (by decide +kernel) (by decide +kernel), by decide⟩
theorem cX8_next_65 : ab_V mX8_next mX8_describe 262 2 := ⟨zX8_describe, ⟨ab_t4 (i := 68) (by decide +kernel) (by decide +kernel), ab_t4 (i := 70) (by decide +kernel) (by decide +kernel), ab_t0 (i := 25) (by decide +kernel) (by decide +kernel)⟩, by decide⟩
theorem cX8_next_99 : ab_V mX8_next mX8_sayNumber 266 1 := ⟨zX8_sayNumber, ⟨ab_t4 (i := 73) (by decide +kernel) (by decide +kernel), ab_t4 (i := 75) (by decide +kernel) (by decide +kernel), ab_t0 (i := 26) (by decide +kernel) (by decide +kernel)⟩, by decide⟩
theorem cX8_next_173 : ab_V mX8_next mX8_isBefore 270 2 := ⟨zX8_isBefore, ⟨ab_t4 (i := 81) (by decide +kernel) (by decide +kernel), ab_t4 (i := 83) (by decide +kernel) (by decide +kernel), ab_t0 (i := 28) (by decide +kernel) (by decide +kernel)⟩, by decide⟩
theorem cX8_next_227 : ab_V mX8_next mX8_say 238 1 := ⟨zX8_say, ⟨ab_t4 (i := 77) (by decide +kernel) (by decide +kernel), ab_t4 (i := 79) (by decide +kernel) (by decide +kernel), ab_t0 (i := 27) (by decide +kernel) (by decide +kernel)⟩, by decide⟩
theorem cX8_next_247 : ab_V mX8_next mX8_digestOf 199 1 := ⟨zX8_digestOf, ⟨ab_t3 (i := 163) (by decide +kernel) (by decide +kernel), ab_t3 (i := 165) (by decide +kernel) (by decide +kernel), ab_t0 (i := 18) (by decide +kernel) (by decide +kernel)⟩, by decide⟩
theorem cX8_different_36 : ab_S mX8_different mX8_compare 274 3 := ⟨zX8_compare, ab_t4 (i := 89) (by decide +kernel) (by decide +kernel), ab_t4 (i := 90) (by decide +kernel) (by decide +kernel), by decide⟩
theorem cX8_makeHashes_18 : ab_V mX8_makeHashes mX8_digestOf 199 1 := ⟨zX8_digestOf, ⟨ab_t3 (i := 163) (by decide +kernel) (by decide +kernel), ab_t3 (i := 165) (by decide +kernel) (by decide +kernel), ab_t0 (i := 18) (by decide +kernel) (by decide +kernel)⟩, by decide⟩
theorem cX8_makeHashes_85 : ab_V mX8_makeHashes mX8_next 281 1 := ⟨zX8_next, ⟨ab_t4 (i := 64) (by decide +kernel) (by decide +kernel), ab_t4 (i := 66) (by decide +kernel) (by decide +kernel), ab_t0 (i := 24) (by decide +kernel) (by decide +kernel)⟩, by decide⟩
theorem cX8_makeHashes_114 : ab_V mX8_makeHashes mX8_different 284 1 := ⟨zX8_different, ⟨ab_t4 (i := 85) (by decide +kernel) (by decide +kernel), ab_t4 (i := 87) (by decide +kernel) (by decide +kernel), ab_t0 (i := 29) (by decide +kernel) (by decide +kernel)⟩, by decide⟩
theorem cX8_makeHashes_122 : ab_V mX8_makeHashes mX8_different 284 1 := ⟨zX8_different, ⟨ab_t4 (i := 85) (by decide +kernel) (by decide +kernel), ab_t4 (i := 87) (by decide +kernel) (by decide +kernel), ab_t0 (i := 29) (by decide +kernel) (by decide +kernel)⟩, by decide⟩
theorem cX8_makeHashes_188 : ab_V mX8_makeHashes mX8_makeGroups 288 1 := ⟨zX8_makeGroups, ⟨ab_t4 (i := 92) (by decide +kernel) (by decide +kernel), ab_t4 (i := 94) (by decide +kernel) (by decide +kernel), ab_t0 (i := 30) (by decide +kernel) (by decide +kernel)⟩, by decide⟩
theorem cX8_makeGroups_69 : ab_S mX8_makeGroups mX8_compare 274 3 := ⟨zX8_compare, ab_t4 (i := 89) (by decide +kernel) (by decide +kernel), ab_t4 (i := 90) (by decide +kernel) (by decide +kernel), by decide⟩
theorem cX8_makeGroups_112 : ab_S mX8_makeGroups mX8_compare 274 3 := ⟨zX8_compare, ab_t4 (i := 89) (by decide +kernel) (by decide +kernel), ab_t4 (i := 90) (by decide +kernel) (by decide +kernel), by decide⟩
theorem cX8_hash_6 : ab_V mX8_hash mX8_makeHashes 294 0 := ⟨zX8_makeHashes, ⟨ab_t4 (i := 60) (by decide +kernel) (by decide +kernel), ab_t4 (i := 62) (by decide +kernel) (by decide +kernel), ab_t0 (i := 23) (by decide +kernel) (by decide +kernel)⟩, by decide⟩
theorem cX8_rounds_6 : ab_V mX8_rounds mX8_makeHashes 294 0 := ⟨zX8_makeHashes, ⟨ab_t4 (i := 60) (by decide +kernel) (by decide +kernel), ab_t4 (i := 62) (by decide +kernel) (by decide +kernel), ab_t0 (i := 23) (by decide +kernel) (by decide +kernel)⟩, by decide⟩
theorem cX8_first_6 : ab_V mX8_first mX8_makeHashes 294 0 := ⟨zX8_makeHashes, ⟨ab_t4 (i := 60) (by decide +kernel) (by decide +kernel), ab_t4 (i := 62) (by decide +kernel) (by decide +kernel), ab_t0 (i := 23) (by decide +kernel) (by decide +kernel)⟩, by decide⟩
theorem cX8_turn_65 : ab_V mX8_turn mX8_change 297 2 := ⟨zX8_change, ⟨ab_t4 (i := 143) (by decide +kernel) (by decide +kernel), ab_t4 (i := 145) (by decide +kernel) (by decide +kernel), ab_t0 (i := 39) (by decide +kernel) (by decide +kernel)⟩, by decide⟩
theorem cX8_turn_95 : ab_V mX8_turn mX8_change 297 2 := ⟨zX8_change, ⟨ab_t4 (i := 143) (by decide +kernel) (by decide +kernel), ab_t4 (i := 145) (by decide +kernel) (by decide +kernel), ab_t0 (i := 39) (by decide +kernel) (by decide +kernel)⟩, by decide⟩
theorem cX8_makeRow_16 : ab_S mX8_makeRow mX8_at 245 2 := ⟨zX8_at, ab_t4 (i := 49) (by decide +kernel) (by decide +kernel), ab_t4 (i := 50) (by decide +kernel) (by decide +kernel), by decide⟩
theorem cX8_makeRow_29 : ab_V mX8_makeRow mX8_numbered 300 1 := ⟨zX8_numbered, ⟨ab_t4 (i := 124) (by decide +kernel) (by decide +kernel), ab_t4 (i := 126) (by decide +kernel) (by decide +kernel), ab_t0 (i := 35) (by decide +kernel) (by decide +kernel)⟩, by decide⟩
theorem cX8_makeRow_43 : ab_V mX8_makeRow mX8_numbered 300 1 := ⟨zX8_numbered, ⟨ab_t4 (i := 124) (by decide +kernel) (by decide +kernel), ab_t4 (i := 126) (by decide +kernel) (by decide +kernel), ab_t0 (i := 35) (by decide +kernel) (by decide +kernel)⟩, by decide⟩
theorem cX8_makeRow_57 : ab_V mX8_makeRow mX8_numbered 300 1 := ⟨zX8_numbered, ⟨ab_t4 (i := 124) (by decide +kernel) (by decide +kernel), ab_t4 (i := 126) (by decide +kernel) (by decide +kernel), ab_t0 (i := 35) (by decide +kernel) (by decide +kernel)⟩, by decide⟩
theorem cX8_makeRow_112 : ab_S mX8_makeRow mX8_compareTriples 304 4 := ⟨zX8_compareTriples, ab_t4 (i := 128) (by decide +kernel) (by decide +kernel), ab_t4 (i := 129) (by decide +kernel) (by decide +kernel), by decide⟩
theorem cX8_compareForm_23 : ab_S mX8_compareForm mX8_compareTriples 304 4 := ⟨zX8_compareTriples, ab_t4 (i := 128) (by decide +kernel) (by decide +kernel), ab_t4 (i := 129) (by decide +kernel) (by decide +kernel), by decide⟩
theorem cX8_name_6 : ab_V mX8_name mX8_makeHashes 294 0 := ⟨zX8_makeHashes, ⟨ab_t4 (i := 60) (by decide +kernel) (by decide +kernel), ab_t4 (i := 62) (by decide +kernel) (by decide +kernel), ab_t0 (i := 23) (by decide +kernel) (by decide +kernel)⟩, by decide⟩
theorem cX8_name_10 : ab_V mX8_name mX8_namings 308 0 := ⟨zX8_namings, ⟨ab_t4 (i := 108) (by decide +kernel) (by decide +kernel), ab_t4 (i := 110) (by decide +kernel) (by decide +kernel), ab_t0 (i := 31) (by decide +kernel) (by decide +kernel)⟩, by decide⟩
theorem cX8_name_33 : ab_V mX8_name mX8_begin 312 1 := ⟨zX8_begin, ⟨ab_t4 (i := 112) (by decide +kernel) (by decide +kernel), ab_t4 (i := 114) (by decide +kernel) (by decide +kernel), ab_t0 (i := 32) (by decide +kernel) (by decide +kernel)⟩, by decide⟩
theorem cX8_name_46 : ab_V mX8_name mX8_isNaming 315 1 := ⟨zX8_isNaming, ⟨ab_t4 (i := 116) (by decide +kernel) (by decide +kernel), ab_t4 (i := 118) (by decide +kernel) (by decide +kernel), ab_t0 (i := 33) (by decide +kernel) (by decide +kernel)⟩, by decide⟩
theorem cX8_name_53 : ab_V mX8_name mX8_makeRow 318 0 := ⟨zX8_makeRow, ⟨ab_t4 (i := 120) (by decide +kernel) (by decide +kernel), ab_t4 (i := 122) (by decide +kernel) (by decide +kernel), ab_t0 (i := 34) (by decide +kernel) (by decide +kernel)⟩, by decide⟩
theorem cX8_name_66 : ab_V mX8_name mX8_compareForm 321 0 := ⟨zX8_compareForm, ⟨ab_t4 (i := 131) (by decide +kernel) (by decide +kernel), ab_t4 (i := 133) (by decide +kernel) (by decide +kernel), ab_t0 (i := 36) (by decide +kernel) (by decide +kernel)⟩, by decide⟩
theorem cX8_name_78 : ab_V mX8_name mX8_take 325 1 := ⟨zX8_take, ⟨ab_t4 (i := 135) (by decide +kernel) (by decide +kernel), ab_t4 (i := 137) (by decide +kernel) (by decide +kernel), ab_t0 (i := 37) (by decide +kernel) (by decide +kernel)⟩, by decide⟩
theorem cX8_name_108 : ab_V mX8_name mX8_turn 328 1 := ⟨zX8_turn, ⟨ab_t4 (i := 139) (by decide +kernel) (by decide +kernel), ab_t4 (i := 141) (by decide +kernel) (by decide +kernel), ab_t0 (i := 38) (by decide +kernel) (by decide +kernel)⟩, by decide⟩
theorem cX8_name_160 : ab_V mX8_name mX8_sayNumber 266 1 := ⟨zX8_sayNumber, ⟨ab_t4 (i := 73) (by decide +kernel) (by decide +kernel), ab_t4 (i := 75) (by decide +kernel) (by decide +kernel), ab_t0 (i := 26) (by decide +kernel) (by decide +kernel)⟩, by decide⟩
theorem cX8_name_174 : ab_V mX8_name mX8_digestOf 199 1 := ⟨zX8_digestOf, ⟨ab_t3 (i := 163) (by decide +kernel) (by decide +kernel), ab_t3 (i := 165) (by decide +kernel) (by decide +kernel), ab_t0 (i := 18) (by decide +kernel) (by decide +kernel)⟩, by decide⟩
theorem cX8_name_178 : ab_V mX8_name mX8_octetsOf 203 0 := ⟨zX8_octetsOf, ⟨ab_t3 (i := 185) (by decide +kernel) (by decide +kernel), ab_t3 (i := 187) (by decide +kernel) (by decide +kernel), ab_t0 (i := 20) (by decide +kernel) (by decide +kernel)⟩, by decide⟩
theorem cX8_becomes_16 : ab_S mX8_becomes mX8_at 245 2 := ⟨zX8_at, ab_t4 (i := 49) (by decide +kernel) (by decide +kernel), ab_t4 (i := 50) (by decide +kernel) (by decide +kernel), by decide⟩
theorem cX8_becomes_29 : ab_V mX8_becomes mX8_numbered 300 1 := ⟨zX8_numbered, ⟨ab_t4 (i := 124) (by decide +kernel) (by decide +kernel), ab_t4 (i := 126) (by decide +kernel) (by decide +kernel), ab_t0 (i := 35) (by decide +kernel) (by decide +kernel)⟩, by decide⟩
theorem cX8_becomes_41 : ab_V mX8_becomes mX8_numbered 300 1 := ⟨zX8_numbered, ⟨ab_t4 (i := 124) (by decide +kernel) (by decide +kernel), ab_t4 (i := 126) (by decide +kernel) (by decide +kernel), ab_t0 (i := 35) (by decide +kernel) (by decide +kernel)⟩, by decide⟩
theorem cX8_becomes_53 : ab_V mX8_becomes mX8_numbered 300 1 := ⟨zX8_numbered, ⟨ab_t4 (i := 124) (by decide +kernel) (by decide +kernel), ab_t4 (i := 126) (by decide +kernel) (by decide +kernel), ab_t0 (i := 35) (by decide +kernel) (by decide +kernel)⟩, by decide⟩
theorem cX8_becomes_56 : ab_V mX8_becomes mX8_find 253 4 := ⟨zX8_find, ⟨ab_t4 (i := 45) (by decide +kernel) (by decide +kernel), ab_t4 (i := 47) (by decide +kernel) (by decide +kernel), ab_t0 (i := 22) (by decide +kernel) (by decide +kernel)⟩, by decide⟩
theorem cX8_ways_7 : ab_V mX8_ways mX8_isKept 340 1 := ⟨zX8_isKept, ⟨ab_t4 (i := 167) (by decide +kernel) (by decide +kernel), ab_t4 (i := 169) (by decide +kernel) (by decide +kernel), ab_t0 (i := 40) (by decide +kernel) (by decide +kernel)⟩, by decide⟩
theorem cX8_ways_55 : ab_V mX8_ways mX8_begin 312 1 := ⟨zX8_begin, ⟨ab_t4 (i := 112) (by decide +kernel) (by decide +kernel), ab_t4 (i := 114) (by decide +kernel) (by decide +kernel), ab_t0 (i := 32) (by decide +kernel) (by decide +kernel)⟩, by decide⟩
theorem cX8_ways_69 : ab_V mX8_ways mX8_becomes 343 1 := ⟨zX8_becomes, ⟨ab_t4 (i := 171) (by decide +kernel) (by decide +kernel), ab_t4 (i := 173) (by decide +kernel) (by decide +kernel), ab_t0 (i := 41) (by decide +kernel) (by decide +kernel)⟩, by decide⟩
theorem cX8_ways_84 : ab_V mX8_ways mX8_turn 328 1 := ⟨zX8_turn, ⟨ab_t4 (i := 139) (by decide +kernel) (by decide +kernel), ab_t4 (i := 141) (by decide +kernel) (by decide +kernel), ab_t0 (i := 38) (by decide +kernel) (by decide +kernel)⟩, by decide⟩
theorem cX8_isomorphic_7 : ab_V mX8_isomorphic mX8_ways 346 1 := ⟨zX8_ways, ⟨ab_t4 (i := 179) (by decide +kernel) (by decide +kernel), ab_t4 (i := 164) (by decide +kernel) (by decide +kernel), ab_t4 (i := 165) (by decide +kernel) (by decide +kernel)⟩, by decide⟩
theorem cX8_equal_7 : ab_V mX8_equal mX8_isKept 340 1 := ⟨zX8_isKept, ⟨ab_t4 (i := 167) (by decide +kernel) (by decide +kernel), ab_t4 (i := 169) (by decide +kernel) (by decide +kernel), ab_t0 (i := 40) (by decide +kernel) (by decide +kernel)⟩, by decide⟩
theorem cX8_equal_57 : ab_V mX8_equal mX8_begin 312 1 := ⟨zX8_begin, ⟨ab_t4 (i := 112) (by decide +kernel) (by decide +kernel), ab_t4 (i := 114) (by decide +kernel) (by decide +kernel), ab_t0 (i := 32) (by decide +kernel) (by decide +kernel)⟩, by decide⟩
theorem cX8_equal_62 : ab_V mX8_equal mX8_becomes 343 1 := ⟨zX8_becomes, ⟨ab_t4 (i := 171) (by decide +kernel) (by decide +kernel), ab_t4 (i := 173) (by decide +kernel) (by decide +kernel), ab_t0 (i := 41) (by decide +kernel) (by decide +kernel)⟩, by decide⟩
theorem cL_law_4 : ab_I mL_law mX7_init 15 0 := ⟨zX7_init, ⟨ab_t1 (i := 19) (by decide +kernel) (by decide +kernel), ab_t1 (i := 20) (by decide +kernel) (by decide +kernel), rfl, rfl⟩, by decide⟩
theorem cL_law_12 : ab_I mL_law mX8_init 18 0 := ⟨zX8_init, ⟨ab_t3 (i := 95) (by decide +kernel) (by decide +kernel), ab_t3 (i := 96) (by decide +kernel) (by decide +kernel), rfl, rfl⟩, by decide⟩
theorem cL_law_117 : ab_V mL_law mX7_blank 19 0 := ⟨zX7_blank, ⟨ab_t1 (i := 228) (by decide +kernel) (by decide +kernel), ab_t1 (i := 229) (by decide +kernel) (by decide +kernel), ab_t1 (i := 230) (by decide +kernel) (by decide +kernel)⟩, by decide⟩
theorem cL_law_121 : ab_V mL_law mX8_blank 23 0 := ⟨zX8_blank, ⟨ab_t4 (i := 33) (by decide +kernel) (by decide +kernel), ab_t4 (i := 34) (by decide +kernel) (by decide +kernel), ab_t4 (i := 35) (by decide +kernel) (by decide +kernel)⟩, by decide⟩
theorem cL_law_148 : ab_V mL_law mX7_triple 24 3 := ⟨zX7_triple, ⟨ab_t1 (i := 232) (by decide +kernel) (by decide +kernel), ab_t1 (i := 233) (by decide +kernel) (by decide +kernel), ab_t1 (i := 234) (by decide +kernel) (by decide +kernel)⟩, by decide⟩
theorem cL_law_170 : ab_V mL_law mX8_triple 28 3 := ⟨zX8_triple, ⟨ab_t4 (i := 37) (by decide +kernel) (by decide +kernel), ab_t4 (i := 38) (by decide +kernel) (by decide +kernel), ab_t4 (i := 39) (by decide +kernel) (by decide +kernel)⟩, by decide⟩
theorem cL_law_197 : ab_V mL_law mX7_drop 29 3 := ⟨zX7_drop, ⟨ab_t2 (i := 21) (by decide +kernel) (by decide +kernel), ab_t2 (i := 22) (by decide +kernel) (by decide +kernel), ab_t2 (i := 23) (by decide +kernel) (by decide +kernel)⟩, by decide⟩
theorem cL_law_219 : ab_V mL_law mX8_drop 32 3 := ⟨zX8_drop, ⟨ab_t4 (i := 52) (by decide +kernel) (by decide +kernel), ab_t4 (i := 53) (by decide +kernel) (by decide +kernel), ab_t4 (i := 54) (by decide +kernel) (by decide +kernel)⟩, by decide⟩
theorem cL_law_250 : ab_V mL_law mX7_name 35 1 := ⟨zX7_name, ⟨ab_t2 (i := 29) (by decide +kernel) (by decide +kernel), ab_t2 (i := 30) (by decide +kernel) (by decide +kernel), ab_t2 (i := 31) (by decide +kernel) (by decide +kernel)⟩, by decide⟩
theorem cL_law_276 : ab_V mL_law mX8_name 39 1 := ⟨zX8_name, ⟨ab_t4 (i := 104) (by decide +kernel) (by decide +kernel), ab_t4 (i := 105) (by decide +kernel) (by decide +kernel), ab_t4 (i := 106) (by decide +kernel) (by decide +kernel)⟩, by decide⟩
theorem cL_law_291 : ab_V mL_law mX7_named 40 1 := ⟨zX7_named, ⟨ab_t2 (i := 177) (by decide +kernel) (by decide +kernel), ab_t2 (i := 178) (by decide +kernel) (by decide +kernel), ab_t2 (i := 179) (by decide +kernel) (by decide +kernel)⟩, by decide⟩
theorem cL_law_301 : ab_V mL_law mX8_named 44 1 := ⟨zX8_named, ⟨ab_t4 (i := 147) (by decide +kernel) (by decide +kernel), ab_t4 (i := 148) (by decide +kernel) (by decide +kernel), ab_t4 (i := 149) (by decide +kernel) (by decide +kernel)⟩, by decide⟩
theorem cL_law_322 : ab_V mL_law mX7_form 45 2 := ⟨zX7_form, ⟨ab_t2 (i := 181) (by decide +kernel) (by decide +kernel), ab_t2 (i := 182) (by decide +kernel) (by decide +kernel), ab_t2 (i := 183) (by decide +kernel) (by decide +kernel)⟩, by decide⟩
theorem cL_law_338 : ab_V mL_law mX8_form 49 2 := ⟨zX8_form, ⟨ab_t4 (i := 151) (by decide +kernel) (by decide +kernel), ab_t4 (i := 152) (by decide +kernel) (by decide +kernel), ab_t4 (i := 153) (by decide +kernel) (by decide +kernel)⟩, by decide⟩
-- not a plain method: L_law 354 L_octet
theorem cL_law_366 : ab_V mL_law mX8_octet 55 1 := ⟨zX8_octet, ⟨ab_t4 (i := 155) (by decide +kernel) (by decide +kernel), ab_t4 (i := 156) (by decide +kernel) (by decide +kernel), ab_t4 (i := 157) (by decide +kernel) (by decide +kernel)⟩, by decide⟩
theorem cL_law_372 : ab_V mL_law mX8_thrown 56 0 := ⟨zX8_thrown, ⟨ab_t3 (i := 89) (by decide +kernel) (by decide +kernel), ab_t3 (i := 90) (by decide +kernel) (by decide +kernel), ab_t3 (i := 91) (by decide +kernel) (by decide +kernel)⟩, by decide⟩
theorem cL_law_415 : ab_V mL_law mX7_hash 59 2 := ⟨zX7_hash, ⟨ab_t2 (i := 186) (by decide +kernel) (by decide +kernel), ab_t2 (i := 187) (by decide +kernel) (by decide +kernel), ab_t2 (i := 188) (by decide +kernel) (by decide +kernel)⟩, by decide⟩
theorem cL_law_431 : ab_V mL_law mX8_hash 62 2 := ⟨zX8_hash, ⟨ab_t4 (i := 56) (by decide +kernel) (by decide +kernel), ab_t4 (i := 57) (by decide +kernel) (by decide +kernel), ab_t4 (i := 58) (by decide +kernel) (by decide +kernel)⟩, by decide⟩
theorem cL_law_440 : ab_V mL_law mX7_rounds 63 0 := ⟨zX7_rounds, ⟨ab_t2 (i := 190) (by decide +kernel) (by decide +kernel), ab_t2 (i := 191) (by decide +kernel) (by decide +kernel), ab_t2 (i := 192) (by decide +kernel) (by decide +kernel)⟩, by decide⟩
theorem cL_law_444 : ab_V mL_law mX8_rounds 66 0 := ⟨zX8_rounds, ⟨ab_t4 (i := 96) (by decide +kernel) (by decide +kernel), ab_t4 (i := 97) (by decide +kernel) (by decide +kernel), ab_t4 (i := 98) (by decide +kernel) (by decide +kernel)⟩, by decide⟩
theorem cL_law_465 : ab_V mL_law mX7_first 67 2 := ⟨zX7_first, ⟨ab_t2 (i := 194) (by decide +kernel) (by decide +kernel), ab_t2 (i := 195) (by decide +kernel) (by decide +kernel), ab_t2 (i := 196) (by decide +kernel) (by decide +kernel)⟩, by decide⟩
theorem cL_law_481 : ab_V mL_law mX8_first 70 2 := ⟨zX8_first, ⟨ab_t4 (i := 100) (by decide +kernel) (by decide +kernel), ab_t4 (i := 101) (by decide +kernel) (by decide +kernel), ab_t4 (i := 102) (by decide +kernel) (by decide +kernel)⟩, by decide⟩
theorem cL_law_490 : ab_V mL_law mX7_keep 71 0 := ⟨zX7_keep, ⟨ab_t2 (i := 199) (by decide +kernel) (by decide +kernel), ab_t2 (i := 200) (by decide +kernel) (by decide +kernel), ab_t2 (i := 201) (by decide +kernel) (by decide +kernel)⟩, by decide⟩
theorem cL_law_494 : ab_V mL_law mX8_keep 74 0 := ⟨zX8_keep, ⟨ab_t4 (i := 159) (by decide +kernel) (by decide +kernel), ab_t4 (i := 160) (by decide +kernel) (by decide +kernel), ab_t4 (i := 161) (by decide +kernel) (by decide +kernel)⟩, by decide⟩
theorem cL_law_509 : ab_V mL_law mX7_isomorphic 75 1 := ⟨zX7_isomorphic, ⟨ab_t2 (i := 203) (by decide +kernel) (by decide +kernel), ab_t2 (i := 204) (by decide +kernel) (by decide +kernel), ab_t2 (i := 205) (by decide +kernel) (by decide +kernel)⟩, by decide⟩
theorem cL_law_519 : ab_V mL_law mX8_isomorphic 78 1 := ⟨zX8_isomorphic, ⟨ab_t4 (i := 175) (by decide +kernel) (by decide +kernel), ab_t4 (i := 176) (by decide +kernel) (by decide +kernel), ab_t4 (i := 177) (by decide +kernel) (by decide +kernel)⟩, by decide⟩
theorem cL_law_534 : ab_V mL_law mX7_ways 79 1 := ⟨zX7_ways, ⟨ab_t2 (i := 223) (by decide +kernel) (by decide +kernel), ab_t2 (i := 224) (by decide +kernel) (by decide +kernel), ab_t2 (i := 225) (by decide +kernel) (by decide +kernel)⟩, by decide⟩
theorem cL_law_544 : ab_V mL_law mX8_ways 82 1 := ⟨zX8_ways, ⟨ab_t4 (i := 163) (by decide +kernel) (by decide +kernel), ab_t4 (i := 164) (by decide +kernel) (by decide +kernel), ab_t4 (i := 165) (by decide +kernel) (by decide +kernel)⟩, by decide⟩
theorem cL_law_559 : ab_V mL_law mX7_equal 83 1 := ⟨zX7_equal, ⟨ab_t2 (i := 227) (by decide +kernel) (by decide +kernel), ab_t2 (i := 228) (by decide +kernel) (by decide +kernel), ab_t2 (i := 229) (by decide +kernel) (by decide +kernel)⟩, by decide⟩
theorem cL_law_569 : ab_V mL_law mX8_equal 86 1 := ⟨zX8_equal, ⟨ab_t4 (i := 180) (by decide +kernel) (by decide +kernel), ab_t4 (i := 181) (by decide +kernel) (by decide +kernel), ab_t4 (i := 182) (by decide +kernel) (by decide +kernel)⟩, by decide⟩
theorem cL_law_578 : ab_V mL_law mX7_triples 87 0 := ⟨zX7_triples, ⟨ab_t2 (i := 234) (by decide +kernel) (by decide +kernel), ab_t2 (i := 235) (by decide +kernel) (by decide +kernel), ab_t2 (i := 236) (by decide +kernel) (by decide +kernel)⟩, by decide⟩
theorem cL_law_582 : ab_V mL_law mX8_triples 90 0 := ⟨zX8_triples, ⟨ab_t4 (i := 184) (by decide +kernel) (by decide +kernel), ab_t4 (i := 185) (by decide +kernel) (by decide +kernel), ab_t4 (i := 186) (by decide +kernel) (by decide +kernel)⟩, by decide⟩
theorem cL_law_591 : ab_V mL_law mX7_blanks 91 0 := ⟨zX7_blanks, ⟨ab_t2 (i := 238) (by decide +kernel) (by decide +kernel), ab_t2 (i := 239) (by decide +kernel) (by decide +kernel), ab_t3 (i := 0) (by decide +kernel) (by decide +kernel)⟩, by decide⟩
theorem cL_law_595 : ab_V mL_law mX8_blanks 94 0 := ⟨zX8_blanks, ⟨ab_t4 (i := 188) (by decide +kernel) (by decide +kernel), ab_t4 (i := 189) (by decide +kernel) (by decide +kernel), ab_t4 (i := 190) (by decide +kernel) (by decide +kernel)⟩, by decide⟩
end
section
/-! G's rules once more, with natural numbers for the Int32 values: indices, comparisons. -/
section ABN
variable {xo : ab_XO} {M : ab_M} {d k n : Nat} {Q : List ab_C → Option Value → Prop} {pc : Nat} {L : List (Option Value)} {st : List Value} {w w' : List ab_C}
theorem G_topi {x y : Int32} (h : x = y) (kk : G xo M d k n Q pc L (.int y :: st) w) : G xo M d k n Q pc L (.int x :: st) w := h ▸ kk
theorem G_topl {x y : Int64} (h : x = y) (kk : G xo M d k n Q pc L (.long y :: st) w) : G xo M d k n Q pc L (.long x :: st) w := h ▸ kk
theorem G_to {pc' : Nat} {L' : List (Option Value)} {st' : List Value} {w' : List ab_C} (kk : G xo M d k n Q pc L st w) (h1 : pc = pc') (h2 : L = L') (h3 : st = st') (h4 : w = w') : G xo M d k n Q pc' L' st' w' := by subst h1; subst h2; subst h3; subst h4; exact kk
theorem G_ialdN {j N : Nat} {f : Nat → Int32} {i : Int32} (q : Nat) (hd : decode M.2.2.1 pc = .ok (.iaload, 1)) (hw : w[j]? = some (.inl (0, N, .inl f))) (hi : i = nI q) (hq : q < N) (hN : N < 2 ^ 31) (kk : G xo M d k n Q (pc + 1) L (.int (f q) :: st) w) : G xo M d k n Q pc L (.int i :: .ref (j + 100) :: st) w := by
  subst hi
  refine G_iald hd hw (vp_in_nI hq hN) ?_
  rw [nI_clamp (by omega)]
  exact kk
theorem G_laldN {j N : Nat} {f : Nat → Int64} {i : Int32} (q : Nat) (hd : decode M.2.2.1 pc = .ok (.laload, 1)) (hw : w[j]? = some (.inl (1, N, .inr (.inl f)))) (hi : i = nI q) (hq : q < N) (hN : N < 2 ^ 31) (kk : G xo M d k n Q (pc + 1) L (.long (f q) :: st) w) : G xo M d k n Q pc L (.int i :: .ref (j + 100) :: st) w := by
  subst hi
  refine G_lald hd hw (vp_in_nI hq hN) ?_
  rw [nI_clamp (by omega)]
  exact kk
theorem G_baldN {j N : Nat} {f : Nat → Int32} {i : Int32} (q : Nat) (hd : decode M.2.2.1 pc = .ok (.baload, 1)) (hw : w[j]? = some (.inl (2, N, .inl f))) (hi : i = nI q) (hq : q < N) (hN : N < 2 ^ 31) (kk : G xo M d k n Q (pc + 1) L (.int (f q) :: st) w) : G xo M d k n Q pc L (.int i :: .ref (j + 100) :: st) w := by
  subst hi
  refine G_bald hd hw (vp_in_nI hq hN) ?_
  rw [nI_clamp (by omega)]
  exact kk
theorem G_zaldN {j N : Nat} {f : Nat → Int32} {i : Int32} (q : Nat) (hd : decode M.2.2.1 pc = .ok (.baload, 1)) (hw : w[j]? = some (.inl (3, N, .inl f))) (hi : i = nI q) (hq : q < N) (hN : N < 2 ^ 31) (kk : G xo M d k n Q (pc + 1) L (.int (f q) :: st) w) : G xo M d k n Q pc L (.int i :: .ref (j + 100) :: st) w := by
  subst hi
  refine G_zald hd hw (vp_in_nI hq hN) ?_
  rw [nI_clamp (by omega)]
  exact kk
theorem G_iastN {j N : Nat} {f : Nat → Int32} {i : Int32} {x : Int32} (q : Nat) (hd : decode M.2.2.1 pc = .ok (.iastore, 1)) (hw : w[j]? = some (.inl (0, N, .inl f))) (hi : i = nI q) (hq : q < N) (hN : N < 2 ^ 31) (hw' : w.set j (.inl (0, N, .inl (upd f q x))) = w') (kk : G xo M d k n Q (pc + 1) L st w') : G xo M d k n Q pc L (.int x :: .int i :: .ref (j + 100) :: st) w := by
  subst hi
  refine G_iast hd hw (vp_in_nI hq hN) ?_ kk
  rw [nI_clamp (by omega)]
  exact hw'
theorem G_lastN {j N : Nat} {f : Nat → Int64} {i : Int32} {x : Int64} (q : Nat) (hd : decode M.2.2.1 pc = .ok (.lastore, 1)) (hw : w[j]? = some (.inl (1, N, .inr (.inl f)))) (hi : i = nI q) (hq : q < N) (hN : N < 2 ^ 31) (hw' : w.set j (.inl (1, N, .inr (.inl (vp_updL f q x)))) = w') (kk : G xo M d k n Q (pc + 1) L st w') : G xo M d k n Q pc L (.long x :: .int i :: .ref (j + 100) :: st) w := by
  subst hi
  refine G_last hd hw (vp_in_nI hq hN) ?_ kk
  rw [nI_clamp (by omega)]
  exact hw'
theorem G_bastN {j N : Nat} {f : Nat → Int32} {i : Int32} {x : Int32} (q : Nat) (hd : decode M.2.2.1 pc = .ok (.bastore, 1)) (hw : w[j]? = some (.inl (2, N, .inl f))) (hi : i = nI q) (hq : q < N) (hN : N < 2 ^ 31) (hw' : w.set j (.inl (2, N, .inl (upd f q (vp_nar .byte x)))) = w') (kk : G xo M d k n Q (pc + 1) L st w') : G xo M d k n Q pc L (.int x :: .int i :: .ref (j + 100) :: st) w := by
  subst hi
  refine G_bast hd hw (vp_in_nI hq hN) ?_ kk
  rw [nI_clamp (by omega)]
  exact hw'
theorem G_zastN {j N : Nat} {f : Nat → Int32} {i : Int32} {x : Int32} (q : Nat) (hd : decode M.2.2.1 pc = .ok (.bastore, 1)) (hw : w[j]? = some (.inl (3, N, .inl f))) (hi : i = nI q) (hq : q < N) (hN : N < 2 ^ 31) (hw' : w.set j (.inl (3, N, .inl (upd f q (vp_nar .boolean x)))) = w') (kk : G xo M d k n Q (pc + 1) L st w') : G xo M d k n Q pc L (.int x :: .int i :: .ref (j + 100) :: st) w := by
  subst hi
  refine G_zast hd hw (vp_in_nI hq hN) ?_ kk
  rw [nI_clamp (by omega)]
  exact hw'
theorem G_xaldN {j N : Nat} {f : Nat → Int32} {i : Int32} (q : Nat) (hd : decode M.2.2.1 pc = .ok (.iaload, 1)) (hx : xo[j]? = some (N, f)) (hi : i = nI q) (hq : q < N) (hN : N < 2 ^ 31) (kk : G xo M d k n Q (pc + 1) L (.int (f q) :: st) w) : G xo M d k n Q pc L (.int i :: .ref j :: st) w := by
  subst hi
  refine G_xald hd hx (vp_in_nI hq hN) ?_
  rw [nI_clamp (by omega)]
  exact kk
theorem G_icmp_eqN {x y : Int32} {off : Int} {tgt : Nat} (a b : Nat) (hd : decode M.2.2.1 pc = .ok (.if_icmp .eq off, 3)) (ht : (pc : Int) + off = (tgt : Int)) (hx : x = nI a) (hy : y = nI b) (ha : a < 2 ^ 31) (hb : b < 2 ^ 31) (kt : a = b → G xo M d k n Q tgt L st w) (kf : a ≠ b → G xo M d k n Q (pc + 3) L st w) : G xo M d k n Q pc L (.int y :: .int x :: st) w := by
  subst hx
  subst hy
  exact G_icmp_eq hd ht (fun h => kt ((nI_eq ha hb).mp h)) (fun h => kf (fun q => h ((nI_eq ha hb).mpr q)))
theorem G_icmp_neN {x y : Int32} {off : Int} {tgt : Nat} (a b : Nat) (hd : decode M.2.2.1 pc = .ok (.if_icmp .ne off, 3)) (ht : (pc : Int) + off = (tgt : Int)) (hx : x = nI a) (hy : y = nI b) (ha : a < 2 ^ 31) (hb : b < 2 ^ 31) (kt : a ≠ b → G xo M d k n Q tgt L st w) (kf : a = b → G xo M d k n Q (pc + 3) L st w) : G xo M d k n Q pc L (.int y :: .int x :: st) w := by
  subst hx
  subst hy
  exact G_icmp_ne hd ht (fun h => kt (fun q => h ((nI_eq ha hb).mpr q))) (fun h => kf ((nI_eq ha hb).mp h))
theorem G_icmp_ltN {x y : Int32} {off : Int} {tgt : Nat} (a b : Nat) (hd : decode M.2.2.1 pc = .ok (.if_icmp .lt off, 3)) (ht : (pc : Int) + off = (tgt : Int)) (hx : x = nI a) (hy : y = nI b) (ha : a < 2 ^ 31) (hb : b < 2 ^ 31) (kt : a < b → G xo M d k n Q tgt L st w) (kf : b ≤ a → G xo M d k n Q (pc + 3) L st w) : G xo M d k n Q pc L (.int y :: .int x :: st) w := by
  subst hx
  subst hy
  exact G_icmp_lt hd ht (fun h => kt ((nI_ltI ha hb).mp h)) (fun h => kf (by have := mt (nI_ltI ha hb).mpr h; omega))
theorem G_icmp_geN {x y : Int32} {off : Int} {tgt : Nat} (a b : Nat) (hd : decode M.2.2.1 pc = .ok (.if_icmp .ge off, 3)) (ht : (pc : Int) + off = (tgt : Int)) (hx : x = nI a) (hy : y = nI b) (ha : a < 2 ^ 31) (hb : b < 2 ^ 31) (kt : b ≤ a → G xo M d k n Q tgt L st w) (kf : a < b → G xo M d k n Q (pc + 3) L st w) : G xo M d k n Q pc L (.int y :: .int x :: st) w := by
  subst hx
  subst hy
  exact G_icmp_ge hd ht (fun h => kt ((nI_leI hb ha).mp h)) (fun h => kf (by have := mt (nI_leI hb ha).mpr h; omega))
theorem G_icmp_gtN {x y : Int32} {off : Int} {tgt : Nat} (a b : Nat) (hd : decode M.2.2.1 pc = .ok (.if_icmp .gt off, 3)) (ht : (pc : Int) + off = (tgt : Int)) (hx : x = nI a) (hy : y = nI b) (ha : a < 2 ^ 31) (hb : b < 2 ^ 31) (kt : b < a → G xo M d k n Q tgt L st w) (kf : a ≤ b → G xo M d k n Q (pc + 3) L st w) : G xo M d k n Q pc L (.int y :: .int x :: st) w := by
  subst hx
  subst hy
  exact G_icmp_gt hd ht (fun h => kt ((nI_ltI hb ha).mp h)) (fun h => kf (by have := mt (nI_ltI hb ha).mpr h; omega))
theorem G_icmp_leN {x y : Int32} {off : Int} {tgt : Nat} (a b : Nat) (hd : decode M.2.2.1 pc = .ok (.if_icmp .le off, 3)) (ht : (pc : Int) + off = (tgt : Int)) (hx : x = nI a) (hy : y = nI b) (ha : a < 2 ^ 31) (hb : b < 2 ^ 31) (kt : a ≤ b → G xo M d k n Q tgt L st w) (kf : b < a → G xo M d k n Q (pc + 3) L st w) : G xo M d k n Q pc L (.int y :: .int x :: st) w := by
  subst hx
  subst hy
  exact G_icmp_le hd ht (fun h => kt ((nI_leI ha hb).mp h)) (fun h => kf (by have := mt (nI_leI ha hb).mpr h; omega))
end ABN
end
section
/-! CanonNames' static methods on keys and rows. -/
theorem ab_ok7 {y : MethodName} {c : ByteArray} {n : Nat} {r : Option FieldType} (h : y.cls = RX7) : ab_ok (RX7, y, c, n, r) := ⟨by rw [show (RX7, y, c, n, r).2.1.cls = RX7 from h]; decide, h.symm⟩
/-- a place of a key -/
def kp (K p : Nat) : Nat := K / 2 ^ (10 * (2 - p)) % 1024
set_option maxRecDepth 20000 in
theorem con_keyOf (d : Nat) (s p o : Int32) : Con mX7_keyOf d 0 0 [] [.int s, .int p, .int o] (fun w' v => w' = [] ∧ v = some (.int (((s + 8) <<< ((20 : Int32) &&& 31)) ||| ((p + 8) <<< ((10 : Int32) &&& 31)) ||| (o + 8)))) := by
  refine Con.of (ab_ok7 rfl) (Nat.le_of_ble_eq_true rfl) ?_
  show G ab_x0 mX7_keyOf d 0 0 _ 0 [some (.int s), some (.int p), some (.int o), none, none, none] [] []
  refine G_iload_n dX7_keyOf_0 rfl ?_
  refine G_bipush (v := 8) dX7_keyOf_1 (by decide) ?_
  refine G_iadd dX7_keyOf_3 ?_
  refine G_istore_n (L' := [_, _, _, _, _, _]) dX7_keyOf_4 (Nat.le_of_ble_eq_true rfl) rfl ?_
  refine G_iload_n dX7_keyOf_5 rfl ?_
  refine G_bipush (v := 8) dX7_keyOf_6 (by decide) ?_
  refine G_iadd dX7_keyOf_8 ?_
  refine G_istore (L' := [_, _, _, _, _, _]) dX7_keyOf_9 (Nat.le_of_ble_eq_true rfl) rfl ?_
  refine G_iload_n dX7_keyOf_11 rfl ?_
  refine G_bipush (v := 8) dX7_keyOf_12 (by decide) ?_
  refine G_iadd dX7_keyOf_14 ?_
  refine G_istore (L' := [_, _, _, _, _, _]) dX7_keyOf_15 (Nat.le_of_ble_eq_true rfl) rfl ?_
  refine G_iload_n dX7_keyOf_17 rfl ?_
  refine G_bipush (v := 20) dX7_keyOf_18 (by decide) ?_
  refine G_ishl dX7_keyOf_20 ?_
  refine G_iload dX7_keyOf_21 rfl ?_
  refine G_bipush (v := 10) dX7_keyOf_23 (by decide) ?_
  refine G_ishl dX7_keyOf_25 ?_
  refine G_ior dX7_keyOf_26 ?_
  refine G_iload dX7_keyOf_27 rfl ?_
  refine G_ior dX7_keyOf_29 ?_
  exact G_ret (v := some (.int _)) ⟨dX7_keyOf_30, _, rfl, rfl⟩ ⟨rfl, rfl⟩
set_option maxRecDepth 20000 in
theorem con_partAt (d : Nat) (K p : Nat) (hK : K < 2 ^ 30) (hp : p < 3) : Con mX7_partAt d 0 0 [] [.int (nI K), .int (nI p)] (fun w' v => w' = [] ∧ v = some (.int (nI (kp K p)))) := by
  refine Con.of (ab_ok7 rfl) (Nat.le_of_ble_eq_true rfl) ?_
  show G ab_x0 mX7_partAt d 0 0 _ 0 [some (.int (nI K)), some (.int (nI p))] [] []
  refine G_iload_n dX7_partAt_0 rfl ?_
  refine G_bipush (v := 10) dX7_partAt_1 (by decide) ?_
  refine G_iconst (v := 2) dX7_partAt_3 (by decide) ?_
  refine G_iload_n dX7_partAt_4 rfl ?_
  refine G_isub dX7_partAt_5 ?_
  refine G_imul dX7_partAt_6 ?_
  refine G_ishr dX7_partAt_7 ?_
  refine G_sipush (v := 1023) dX7_partAt_8 (by decide) ?_
  refine G_iand dX7_partAt_11 ?_
  refine G_ret (v := some (.int _)) ⟨dX7_partAt_12, _, rfl, rfl⟩ ⟨rfl, ?_⟩
  have key : ∀ q, q < 3 → ((10 * (2 - nI q) &&& 31 : Int32).toBitVec.smod 32).toNat = 10 * (2 - q) := by decide
  rw [pk_shrN (by omega) _ _ (key p hp), pk_andN (by have := Nat.div_le_self K (2 ^ (10 * (2 - p))); omega) 10 (by decide)]
  rfl
set_option maxRecDepth 20000 in
theorem con_pointAt (d : Nat) (K p : Nat) (hK : K < 2 ^ 30) (hp : p < 3) : Con mX7_pointAt (d + 1) 0 0 [] [.int (nI K), .int (nI p)] (fun w' v => w' = [] ∧ v = some (.int (nI (kp K p) - 8))) := by
  refine Con.of (ab_ok7 rfl) (Nat.le_of_ble_eq_true rfl) ?_
  show G ab_x0 mX7_pointAt (d + 1) 0 0 _ 0 [some (.int (nI K)), some (.int (nI p))] [] []
  refine G_iload_n dX7_pointAt_0 rfl ?_
  refine G_iload_n dX7_pointAt_1 rfl ?_
  refine G_S (is := []) (fo := []) (as := [.int (nI K), .int (nI p)]) (as' := [.int (nI K), .int (nI p)]) (st := []) (k := 0) (n := 0) cX7_pointAt_2 (con_partAt d K p hK hp) ab_pfx rfl (by decide) rfl rfl rfl rfl (Nat.le_of_ble_eq_true rfl) dX7_pointAt_2 (fun w' v h => by rw [h.1]) (fun w2 v2 hq => ?_)
  obtain ⟨rfl, rfl⟩ := hq
  refine G_bipush (v := 8) dX7_pointAt_5 (by decide) ?_
  refine G_isub dX7_pointAt_7 ?_
  exact G_ret (v := some (.int _)) ⟨dX7_pointAt_8, _, rfl, rfl⟩ ⟨rfl, rfl⟩
set_option maxRecDepth 20000 in
theorem con_isIn (d : Nat) (x : Int32) (f : Nat → Int32) (N c : Nat) (hc : c ≤ N) (hN : N < 2 ^ 31) (hs : ∀ i j, i < j → j < c → f i < f j) : Con mX7_isIn d 0 0 [.inl (0, N, .inl f)] [.int x, .ref 100, .int (nI c)] (fun w' v => w' = [.inl (0, N, .inl f)] ∧ ((∃ i, i < c ∧ f i = x) ∧ v = some (.int 1) ∨ (¬ ∃ i, i < c ∧ f i = x) ∧ v = some (.int 0))) := by
  refine Con.of (ab_ok7 rfl) (Nat.le_of_ble_eq_true rfl) ?_
  show G ab_x0 mX7_isIn d 0 0 _ 0 [some (.int x), some (.ref 100), some (.int (nI c)), none] [] _
  refine G_iconst (v := 0) dX7_isIn_0 (by decide) ?_
  refine G_istore_n (L' := [_, _, _, _]) dX7_isIn_1 (Nat.le_of_ble_eq_true rfl) rfl ?_
  have loop : ∀ (i : Nat), i ≤ c → (∀ j, j < i → f j < x) → G ab_x0 mX7_isIn d 0 0 (fun w' v => w' = [.inl (0, N, .inl f)] ∧ ((∃ i, i < c ∧ f i = x) ∧ v = some (.int 1) ∨ (¬ ∃ i, i < c ∧ f i = x) ∧ v = some (.int 0))) 2 [some (.int x), some (.ref 100), some (.int (nI c)), some (.int (nI i))] [] [.inl (0, N, .inl f)] := by
    intro i
    induction hm : c - i using Nat.strongRecOn generalizing i with
    | ind m ih =>
      subst hm
      intro hi hlt
      refine G_iload_n dX7_isIn_2 rfl ?_
      refine G_iload_n dX7_isIn_3 rfl ?_
      refine G_icmp_geN (tgt := 33) i c dX7_isIn_4 (by decide) rfl rfl (by omega) (by omega) (fun hic => ?_) (fun hic => ?_)
      · refine G_iconst (v := 0) dX7_isIn_33 (by decide) ?_
        refine G_ret (v := some (.int _)) ⟨dX7_isIn_34, _, rfl, rfl⟩ ⟨rfl, Or.inr ⟨?_, rfl⟩⟩
        rintro ⟨j, h1, h2⟩
        have := hlt j (by omega)
        rw [h2] at this
        exact Int32.lt_irrefl this
      refine G_aload_n dX7_isIn_7 rfl ?_
      refine G_iload_n dX7_isIn_8 rfl ?_
      refine G_ialdN i dX7_isIn_9 rfl rfl (by omega) (by omega) ?_
      refine G_iload_n dX7_isIn_10 rfl ?_
      refine G_icmp_lt (tgt := 27) dX7_isIn_11 (by decide) (fun h1 => ?_) (fun h1 => ?_)
      · refine G_iinc (L' := [_, _, _, _]) (v := nI (i + 1)) dX7_isIn_27 rfl (nI_succ i).symm rfl ?_
        refine G_goto (tgt := 2) dX7_isIn_30 (by decide) ?_
        refine ih (c - (i + 1)) (by omega) (i + 1) rfl (by omega) (fun j hj => ?_)
        rcases Nat.lt_or_ge j i with q | q
        · exact hlt j q
        · rw [show j = i by omega]; exact h1
      refine G_aload_n dX7_isIn_14 rfl ?_
      refine G_iload_n dX7_isIn_15 rfl ?_
      refine G_ialdN i dX7_isIn_16 rfl rfl (by omega) (by omega) ?_
      refine G_iload_n dX7_isIn_17 rfl ?_
      refine G_icmp_ne (tgt := 25) dX7_isIn_18 (by decide) (fun h2 => ?_) (fun h2 => ?_)
      · refine G_iconst (v := 0) dX7_isIn_25 (by decide) ?_
        refine G_ret (v := some (.int _)) ⟨dX7_isIn_26, _, rfl, rfl⟩ ⟨rfl, Or.inr ⟨?_, rfl⟩⟩
        rintro ⟨j, h3, h4⟩
        rcases Nat.lt_trichotomy j i with q | q | q
        · have := hlt j q
          rw [h4] at this
          exact Int32.lt_irrefl this
        · subst q
          exact h2 h4
        · have := hs i j q h3
          rw [h4] at this
          exact h1 this
      · refine G_iconst (v := 1) dX7_isIn_21 (by decide) ?_
        refine G_goto (tgt := 26) dX7_isIn_22 (by decide) ?_
        exact G_ret (v := some (.int _)) ⟨dX7_isIn_26, _, rfl, rfl⟩ ⟨rfl, Or.inl ⟨⟨i, hic, h2⟩, rfl⟩⟩
  exact loop 0 (by omega) (fun j hj => by omega)
set_option maxRecDepth 20000 in
theorem con_placeFor (d : Nat) (x : Int32) (f : Nat → Int32) (N c : Nat) (hc : c ≤ N) (hN : N < 2 ^ 31) : Con mX7_placeFor d 0 0 [.inl (0, N, .inl f)] [.int x, .ref 100, .int (nI c)] (fun w' v => w' = [.inl (0, N, .inl f)] ∧ ∃ q, q ≤ c ∧ v = some (.int (nI q)) ∧ (∀ j, j < q → f j < x) ∧ (q < c → x ≤ f q)) := by
  refine Con.of (ab_ok7 rfl) (Nat.le_of_ble_eq_true rfl) ?_
  show G ab_x0 mX7_placeFor d 0 0 _ 0 [some (.int x), some (.ref 100), some (.int (nI c)), none] [] _
  refine G_iconst (v := 0) dX7_placeFor_0 (by decide) ?_
  refine G_istore_n (L' := [_, _, _, _]) dX7_placeFor_1 (Nat.le_of_ble_eq_true rfl) rfl ?_
  have loop : ∀ (i : Nat), i ≤ c → (∀ j, j < i → f j < x) → G ab_x0 mX7_placeFor d 0 0 (fun w' v => w' = [.inl (0, N, .inl f)] ∧ ∃ q, q ≤ c ∧ v = some (.int (nI q)) ∧ (∀ j, j < q → f j < x) ∧ (q < c → x ≤ f q)) 2 [some (.int x), some (.ref 100), some (.int (nI c)), some (.int (nI i))] [] [.inl (0, N, .inl f)] := by
    intro i
    induction hm : c - i using Nat.strongRecOn generalizing i with
    | ind m ih =>
      subst hm
      intro hi hlt
      refine G_iload_n dX7_placeFor_2 rfl ?_
      refine G_iload_n dX7_placeFor_3 rfl ?_
      refine G_icmp_geN (tgt := 22) i c dX7_placeFor_4 (by decide) rfl rfl (by omega) (by omega) (fun hic => ?_) (fun hic => ?_)
      · refine G_iload_n dX7_placeFor_22 rfl ?_
        exact G_ret (v := some (.int _)) ⟨dX7_placeFor_23, _, rfl, rfl⟩ ⟨rfl, c, Nat.le_refl _, rfl, fun j hj => hlt j (by omega), fun h => by omega⟩
      refine G_aload_n dX7_placeFor_7 rfl ?_
      refine G_iload_n dX7_placeFor_8 rfl ?_
      refine G_ialdN i dX7_placeFor_9 rfl rfl (by omega) (by omega) ?_
      refine G_iload_n dX7_placeFor_10 rfl ?_
      refine G_icmp_lt (tgt := 16) dX7_placeFor_11 (by decide) (fun h1 => ?_) (fun h1 => ?_)
      · refine G_iinc (L' := [_, _, _, _]) (v := nI (i + 1)) dX7_placeFor_16 rfl (nI_succ i).symm rfl ?_
        refine G_goto (tgt := 2) dX7_placeFor_19 (by decide) ?_
        refine ih (c - (i + 1)) (by omega) (i + 1) rfl (by omega) (fun j hj => ?_)
        rcases Nat.lt_or_ge j i with q | q
        · exact hlt j q
        · rw [show j = i by omega]; exact h1
      refine G_iload_n dX7_placeFor_14 rfl ?_
      exact G_ret (v := some (.int _)) ⟨dX7_placeFor_15, _, rfl, rfl⟩ ⟨rfl, i, hi, rfl, hlt, fun _ => Int32.not_lt.mp h1⟩
  exact loop 0 (by omega) (fun j hj => by omega)
set_option maxRecDepth 20000 in
theorem con_sameRows (d : Nat) (f g : Nat → Int32) (N N' c : Nat) (hc : c ≤ N) (hc' : c ≤ N') (hN : N < 2 ^ 31) (hN' : N' < 2 ^ 31) : Con mX7_sameRows d 0 0 [.inl (0, N, .inl f), .inl (0, N', .inl g)] [.ref 100, .ref 101, .int (nI c)] (fun w' v => w' = [.inl (0, N, .inl f), .inl (0, N', .inl g)] ∧ ((∀ i, i < c → f i = g i) ∧ v = some (.int 1) ∨ (¬ ∀ i, i < c → f i = g i) ∧ v = some (.int 0))) := by
  refine Con.of (ab_ok7 rfl) (Nat.le_of_ble_eq_true rfl) ?_
  show G ab_x0 mX7_sameRows d 0 0 _ 0 [some (.ref 100), some (.ref 101), some (.int (nI c)), none] [] _
  refine G_iconst (v := 0) dX7_sameRows_0 (by decide) ?_
  refine G_istore_n (L' := [_, _, _, _]) dX7_sameRows_1 (Nat.le_of_ble_eq_true rfl) rfl ?_
  have loop : ∀ (i : Nat), i ≤ c → (∀ j, j < i → f j = g j) → G ab_x0 mX7_sameRows d 0 0 (fun w' v => w' = [.inl (0, N, .inl f), .inl (0, N', .inl g)] ∧ ((∀ i, i < c → f i = g i) ∧ v = some (.int 1) ∨ (¬ ∀ i, i < c → f i = g i) ∧ v = some (.int 0))) 2 [some (.ref 100), some (.ref 101), some (.int (nI c)), some (.int (nI i))] [] [.inl (0, N, .inl f), .inl (0, N', .inl g)] := by
    intro i
    induction hm : c - i using Nat.strongRecOn generalizing i with
    | ind m ih =>
      subst hm
      intro hi hlt
      refine G_iload_n dX7_sameRows_2 rfl ?_
      refine G_iload_n dX7_sameRows_3 rfl ?_
      refine G_icmp_geN (tgt := 24) i c dX7_sameRows_4 (by decide) rfl rfl (by omega) (by omega) (fun hic => ?_) (fun hic => ?_)
      · refine G_iconst (v := 1) dX7_sameRows_24 (by decide) ?_
        exact G_ret (v := some (.int _)) ⟨dX7_sameRows_25, _, rfl, rfl⟩ ⟨rfl, Or.inl ⟨fun j hj => hlt j (by omega), rfl⟩⟩
      refine G_aload_n dX7_sameRows_7 rfl ?_
      refine G_iload_n dX7_sameRows_8 rfl ?_
      refine G_ialdN i dX7_sameRows_9 rfl rfl (by omega) (by omega) ?_
      refine G_aload_n dX7_sameRows_10 rfl ?_
      refine G_iload_n dX7_sameRows_11 rfl ?_
      refine G_ialdN i dX7_sameRows_12 rfl rfl (by omega) (by omega) ?_
      refine G_icmp_eq (tgt := 18) dX7_sameRows_13 (by decide) (fun h1 => ?_) (fun h1 => ?_)
      · refine G_iinc (L' := [_, _, _, _]) (v := nI (i + 1)) dX7_sameRows_18 rfl (nI_succ i).symm rfl ?_
        refine G_goto (tgt := 2) dX7_sameRows_21 (by decide) ?_
        refine ih (c - (i + 1)) (by omega) (i + 1) rfl (by omega) (fun j hj => ?_)
        rcases Nat.lt_or_ge j i with q | q
        · exact hlt j q
        · rw [show j = i by omega]; exact h1
      refine G_iconst (v := 0) dX7_sameRows_16 (by decide) ?_
      exact G_ret (v := some (.int _)) ⟨dX7_sameRows_17, _, rfl, rfl⟩ ⟨rfl, Or.inr ⟨fun h => h1 (h i hic), rfl⟩⟩
  exact loop 0 (by omega) (fun j hj => by omega)
theorem nI_or (a b : Nat) : nI a ||| nI b = nI (a ||| b) := by
  show Int32.ofNat a ||| Int32.ofNat b = Int32.ofNat (a ||| b)
  apply Int32.toBitVec_inj.mp
  simp [Int32.toBitVec_or]
theorem nI_orA {a b : Nat} (hb : b < 1024) : nI (a * 1024) ||| nI b = nI (a * 1024 + b) := by
  rw [nI_or, Nat.mul_comm a 1024, show 1024 = 2 ^ 10 from rfl, ← Nat.two_pow_add_eq_or_of_lt (by omega)]
/-- a place of a key by new numbers g of the blanks -/
def rn (g : Nat → Nat) (x : Nat) : Nat := if x < 8 then 8 - g (7 - x) else x
def rnK (g : Nat → Nat) (K : Nat) : Nat := (rn g (kp K 0) * 1024 + rn g (kp K 1)) * 1024 + rn g (kp K 2)
theorem rn_lt {g : Nat → Nat} {x : Nat} (h : x < 1024) : rn g x < 1024 := by
  unfold rn
  split <;> omega
theorem rnK_lt (g : Nat → Nat) (K : Nat) : rnK g K < 2 ^ 30 := by
  have h0 := rn_lt (g := g) (x := kp K 0) (Nat.mod_lt _ (by decide))
  have h1 := rn_lt (g := g) (x := kp K 1) (Nat.mod_lt _ (by decide))
  have h2 := rn_lt (g := g) (x := kp K 2) (Nat.mod_lt _ (by decide))
  unfold rnK
  omega
set_option maxRecDepth 20000 in
theorem con_renum (d : Nat) (K : Nat) (f : Nat → Int32) (g : Nat → Nat) (hK : K < 2 ^ 30) (hg : ∀ j, j < 8 → f j = nI (g j) ∧ g j ≤ 8) : Con mX7_renumbered d 0 0 [.inl (0, 8, .inl f)] [.int (nI K), .ref 100] (fun w' v => w' = [.inl (0, 8, .inl f)] ∧ v = some (.int (nI (rnK g K)))) := by
  refine Con.of (ab_ok7 rfl) (Nat.le_of_ble_eq_true rfl) ?_
  show G ab_x0 mX7_renumbered d 0 0 _ 0 [some (.int (nI K)), some (.ref 100), none, none, none] [] _
  refine G_iconst (v := 0) dX7_renumbered_0 (by decide) ?_
  refine G_istore_n (L' := [_, _, _, _, _]) dX7_renumbered_1 (Nat.le_of_ble_eq_true rfl) rfl ?_
  refine G_bipush (v := 20) dX7_renumbered_2 (by decide) ?_
  refine G_istore_n (L' := [_, _, _, _, _]) dX7_renumbered_4 (Nat.le_of_ble_eq_true rfl) rfl ?_
  have step : ∀ (t r : Nat) (z : Option Value), t < 3 → r < 2 ^ 20 → (∀ z', G ab_x0 mX7_renumbered d 0 0 (fun w' v => w' = [.inl (0, 8, .inl f)] ∧ v = some (.int (nI (rnK g K)))) 5 [some (.int (nI K)), some (.ref 100), some (.int (nI (r * 1024 + rn g (kp K (2 - t))))), some (.int (nI (10 * t) - 10)), z'] [] [.inl (0, 8, .inl f)]) → G ab_x0 mX7_renumbered d 0 0 (fun w' v => w' = [.inl (0, 8, .inl f)] ∧ v = some (.int (nI (rnK g K)))) 5 [some (.int (nI K)), some (.ref 100), some (.int (nI r)), some (.int (nI (10 * (t + 1)) - 10)), z] [] [.inl (0, 8, .inl f)] := by
    intro t r z ht hr kk
    have a1 : ∀ q, q < 3 → ¬ nI (10 * (q + 1)) - 10 < 0 := by decide
    have a2 : ∀ q, q < 3 → (((nI (10 * (q + 1)) - 10) &&& 31 : Int32).toBitVec.smod 32).toNat = 10 * (2 - (2 - q)) := by decide
    have a3 : ∀ q, q < 3 → nI (10 * (q + 1)) - 10 + Int32.ofInt (-10) = nI (10 * q) - 10 := by decide
    have hkl : kp K (2 - t) < 1024 := Nat.mod_lt _ (by decide)
    have ha : nI K >>> ((nI (10 * (t + 1)) - 10) &&& 31) &&& 1023 = nI (kp K (2 - t)) := by
      rw [pk_shrN (by omega) _ _ (a2 t ht), pk_andN (by have := Nat.div_le_self K (2 ^ (10 * (2 - (2 - t)))); omega) 10 (by decide)]
      rfl
    have fin : ∀ q, q < 1024 → q = rn g (kp K (2 - t)) → G ab_x0 mX7_renumbered d 0 0 (fun w' v => w' = [.inl (0, 8, .inl f)] ∧ v = some (.int (nI (rnK g K)))) 37 [some (.int (nI K)), some (.ref 100), some (.int (nI r)), some (.int (nI (10 * (t + 1)) - 10)), some (.int (nI q))] [] [.inl (0, 8, .inl f)] := by
      intro q hq hqe
      refine G_iload_n dX7_renumbered_37 rfl ?_
      refine G_bipush (v := 10) dX7_renumbered_38 (by decide) ?_
      refine G_ishl dX7_renumbered_40 ?_
      refine G_iload dX7_renumbered_41 rfl ?_
      refine G_ior dX7_renumbered_43 ?_
      refine G_topi (y := nI (r * 1024 + q)) ?_ ?_
      · rw [pk_shlN _ 10 (by decide) (by omega), show r * 2 ^ 10 = r * 1024 from rfl, nI_orA hq]
      refine G_istore_n (L' := [_, _, _, _, _]) dX7_renumbered_44 (Nat.le_of_ble_eq_true rfl) rfl ?_
      refine G_iinc (L' := [_, _, _, _, _]) (v := nI (10 * t) - 10) dX7_renumbered_45 rfl (a3 t ht) rfl ?_
      refine G_goto (tgt := 5) dX7_renumbered_48 (by decide) ?_
      rw [hqe]
      exact kk _
    refine G_iload_n dX7_renumbered_5 rfl ?_
    refine G_if_lt (tgt := 51) dX7_renumbered_6 (by decide) (fun h => absurd h (a1 t ht)) (fun _ => ?_)
    refine G_iload_n dX7_renumbered_9 rfl ?_
    refine G_iload_n dX7_renumbered_10 rfl ?_
    refine G_ishr dX7_renumbered_11 ?_
    refine G_sipush (v := 1023) dX7_renumbered_12 (by decide) ?_
    refine G_iand dX7_renumbered_15 ?_
    refine G_topi ha ?_
    refine G_istore (L' := [_, _, _, _, _]) dX7_renumbered_16 (Nat.le_of_ble_eq_true rfl) rfl ?_
    refine G_iload dX7_renumbered_18 rfl ?_
    refine G_bipush (v := 8) dX7_renumbered_20 (by decide) ?_
    refine G_icmp_geN (tgt := 37) (kp K (2 - t)) 8 dX7_renumbered_22 (by decide) rfl rfl (by omega) (by omega) (fun h => ?_) (fun h => ?_)
    · exact fin _ hkl (by unfold rn; rw [if_neg (by omega)])
    · obtain ⟨e1, e2⟩ := hg (7 - kp K (2 - t)) (by omega)
      refine G_bipush (v := 8) dX7_renumbered_25 (by decide) ?_
      refine G_aload_n dX7_renumbered_27 rfl ?_
      refine G_bipush (v := 7) dX7_renumbered_28 (by decide) ?_
      refine G_iload dX7_renumbered_30 rfl ?_
      refine G_isub dX7_renumbered_32 ?_
      refine G_ialdN (7 - kp K (2 - t)) dX7_renumbered_33 rfl ?_ (by omega) (by omega) ?_
      · exact pk_sub (a := 7) (by omega)
      refine G_isub dX7_renumbered_34 ?_
      refine G_topi (y := nI (8 - g (7 - kp K (2 - t)))) ?_ ?_
      · rw [e1]; exact pk_sub (a := 8) e2
      refine G_istore (L' := [_, _, _, _, _]) dX7_renumbered_35 (Nat.le_of_ble_eq_true rfl) rfl ?_
      exact fin _ (by omega) (by unfold rn; rw [if_pos h])
  have b0 : kp K 0 < 1024 := Nat.mod_lt _ (by decide)
  have b1 : kp K 1 < 1024 := Nat.mod_lt _ (by decide)
  have c0 := rn_lt (g := g) b0
  have c1 := rn_lt (g := g) b1
  refine step 2 0 _ (by omega) (by omega) (fun z => ?_)
  refine step 1 _ _ (by omega) (by show 0 * 1024 + rn g (kp K 0) < _; omega) (fun z => ?_)
  refine step 0 _ _ (by omega) (by show (0 * 1024 + rn g (kp K 0)) * 1024 + rn g (kp K 1) < _; omega) (fun z => ?_)
  refine G_iload_n dX7_renumbered_5 rfl ?_
  refine G_if_lt (tgt := 51) dX7_renumbered_6 (by decide) (fun _ => ?_) (fun h => absurd (show nI (10 * 0) - 10 < 0 by decide) h)
  refine G_iload_n dX7_renumbered_51 rfl ?_
  refine G_ret (v := some (.int _)) ⟨dX7_renumbered_52, _, rfl, rfl⟩ ⟨rfl, ?_⟩
  show some (Value.int (nI (((0 * 1024 + rn g (kp K 0)) * 1024 + rn g (kp K 1)) * 1024 + rn g (kp K 2)))) = _
  unfold rnK
  rw [Nat.zero_mul, Nat.zero_add]
end
section
/-! sort: the first c numbers of a row, in order. -/
def arL {α : Type} (f : Nat → α) (c : Nat) : List α := (List.range c).map f
theorem arL_split {α : Type} (g : Nat → α) {p n : Nat} (h : p + 2 ≤ n) : arL g n = arL g p ++ g p :: g (p + 1) :: (List.range (n - p - 2)).map (fun k => g (p + 2 + k)) := by
  unfold arL
  apply List.ext_getElem?
  intro j
  rcases Nat.lt_or_ge j p with h1 | h1
  · rw [List.getElem?_append_left (by simpa using h1)]
    simp [h1, Nat.lt_of_lt_of_le h1 (by omega : p ≤ n)]
  · rw [List.getElem?_append_right (by simpa using h1)]
    rw [List.length_map, List.length_range]
    match hj : j - p with
    | 0 => simp [show j = p by omega, show p < n by omega]
    | 1 => simp [show j = p + 1 by omega, show p + 1 < n by omega]
    | q + 2 =>
      rw [List.getElem?_cons_succ, List.getElem?_cons_succ]
      by_cases hl : j < n
      · simp [hl, show q < n - p - 2 by omega]
        congr 1
        omega
      · simp [hl, show ¬ q < n - p - 2 by omega]
theorem arL_congr {α : Type} {f g : Nat → α} {n : Nat} (h : ∀ j, j < n → f j = g j) : arL f n = arL g n := List.map_congr_left fun j hj => h j (List.mem_range.mp hj)
/-- two neighbours change places -/
theorem arL_swap {α : Type} {f g : Nat → α} {p n : Nat} (h : p + 2 ≤ n) (h1 : g p = f (p + 1)) (h2 : g (p + 1) = f p) (h3 : ∀ j, j ≠ p → j ≠ p + 1 → g j = f j) : (arL g n).Perm (arL f n) := by
  rw [arL_split g h, arL_split f h, h1, h2, arL_congr (f := g) (g := f) (n := p) (fun j hj => h3 j (by omega) (by omega))]
  have e : (List.range (n - p - 2)).map (fun k => g (p + 2 + k)) = (List.range (n - p - 2)).map (fun k => f (p + 2 + k)) := List.map_congr_left fun k _ => h3 _ (by omega) (by omega)
  rw [e]
  exact List.Perm.append_left _ (List.Perm.swap _ _ _)
/-- the first c are in order, they are those of f, the others stay -/
def srt (f g : Nat → Int32) (c : Nat) : Prop := (∀ i j, i < j → j < c → g i ≤ g j) ∧ (arL g c).Perm (arL f c) ∧ ∀ j, c ≤ j → g j = f j
theorem upd_self {f : Nat → Int32} {k : Nat} {x : Int32} (h : f k = x) : upd f k x = f := by
  funext j
  by_cases e : j = k
  · rw [e, pk_us, h]
  · rw [pk_un e]
set_option maxRecDepth 20000 in
theorem con_sort (d : Nat) (f0 : Nat → Int32) (N c : Nat) (hc : c ≤ N) (hN : N < 2 ^ 30) : Con mX7_sort d 0 0 [.inl (0, N, .inl f0)] [.ref 100, .int (nI c)] (fun w' v => v = none ∧ ∃ g, w' = [.inl (0, N, .inl g)] ∧ srt f0 g c) := by
  refine Con.of (ab_ok7 rfl) (Nat.le_of_ble_eq_true rfl) ?_
  show G ab_x0 mX7_sort d 0 0 _ 0 [some (.ref 100), some (.int (nI c)), none, none, none] [] _
  refine G_iconst (v := 1) dX7_sort_0 (by decide) ?_
  refine G_istore_n (L' := [_, _, _, _, _]) dX7_sort_1 (Nat.le_of_ble_eq_true rfl) rfl ?_
  have outer : ∀ (i : Nat) (f : Nat → Int32) (z1 z2 : Option Value), 1 ≤ i → i ≤ c + 1 → (∀ p q, p < q → q < i → f p ≤ f q) → (arL f c).Perm (arL f0 c) → (∀ j, c ≤ j → f j = f0 j) → G ab_x0 mX7_sort d 0 0 (fun w' v => v = none ∧ ∃ g, w' = [.inl (0, N, .inl g)] ∧ srt f0 g c) 2 [some (.ref 100), some (.int (nI c)), some (.int (nI i)), z1, z2] [] [.inl (0, N, .inl f)] := by
    intro i
    induction hm : c - i using Nat.strongRecOn generalizing i with
    | ind m ih =>
      subst hm
      intro f z1 z2 hi hi2 hs hp ht
      refine G_iload_n dX7_sort_2 rfl ?_
      refine G_iload_n dX7_sort_3 rfl ?_
      refine G_icmp_geN (tgt := 56) i c dX7_sort_4 (by decide) rfl rfl (by omega) (by omega) (fun hic => ?_) (fun hic => ?_)
      · exact G_ret (v := none) ⟨dX7_sort_56, rfl⟩ ⟨rfl, f, rfl, fun p q h1 h2 => hs p q h1 (by omega), hp, ht⟩
      refine G_aload_n dX7_sort_7 rfl ?_
      refine G_iload_n dX7_sort_8 rfl ?_
      refine G_ialdN i dX7_sort_9 rfl rfl (by omega) (by omega) ?_
      refine G_istore_n (L' := [_, _, _, _, _]) dX7_sort_10 (Nat.le_of_ble_eq_true rfl) rfl ?_
      refine G_iload_n dX7_sort_11 rfl ?_
      refine G_istore (L' := [_, _, _, _, _]) dX7_sort_12 (Nat.le_of_ble_eq_true rfl) rfl ?_
      have inner : ∀ (a : Nat) (cur : Nat → Int32), a ≤ i → (arL (upd cur a (f i)) c).Perm (arL f0 c) → (∀ j, c ≤ j → cur j = f0 j) → (∀ p q, p < q → q ≤ i → p ≠ a → q ≠ a → cur p ≤ cur q) → (∀ q, a < q → q ≤ i → f i < cur q) → G ab_x0 mX7_sort d 0 0 (fun w' v => v = none ∧ ∃ g, w' = [.inl (0, N, .inl g)] ∧ srt f0 g c) 14 [some (.ref 100), some (.int (nI c)), some (.int (nI i)), some (.int (f i)), some (.int (nI a))] [] [.inl (0, N, .inl cur)] := by
        intro a
        induction a with
        | zero =>
          intro cur ha h1 h2 h3 h4
          refine G_iload dX7_sort_14 rfl ?_
          refine G_if_le (tgt := 45) dX7_sort_16 (by decide) (fun _ => ?_) (fun h => absurd (by decide) h)
          refine G_aload_n dX7_sort_45 rfl ?_
          refine G_iload dX7_sort_46 rfl ?_
          refine G_iload_n dX7_sort_48 rfl ?_
          refine G_iastN (w' := [_]) 0 dX7_sort_49 rfl rfl (by omega) (by omega) rfl ?_
          refine G_iinc (L' := [_, _, _, _, _]) (v := nI (i + 1)) dX7_sort_50 rfl (nI_succ i).symm rfl ?_
          refine G_goto (tgt := 2) dX7_sort_53 (by decide) ?_
          refine ih (c - (i + 1)) (by omega) (i + 1) rfl _ _ _ (by omega) (by omega) (fun p q hpq hq => ?_) h1 (fun j hj => by rw [pk_un (by omega)]; exact h2 j hj)
          rcases Nat.eq_zero_or_pos p with e | e
          · subst e
            rw [pk_us, pk_un (by omega)]
            exact Int32.le_of_lt (h4 q hpq (by omega))
          · rw [pk_un (by omega), pk_un (by omega)]
            exact h3 p q hpq (by omega) (by omega) (by omega)
        | succ a iha =>
          intro cur ha h1 h2 h3 h4
          refine G_iload dX7_sort_14 rfl ?_
          refine G_if_le (tgt := 45) dX7_sort_16 (by decide) (fun h => absurd h (nI_nle (by omega) (by omega))) (fun _ => ?_)
          refine G_aload_n dX7_sort_19 rfl ?_
          refine G_iload dX7_sort_20 rfl ?_
          refine G_iconst (v := 1) dX7_sort_22 (by decide) ?_
          refine G_isub dX7_sort_23 ?_
          refine G_ialdN a dX7_sort_24 rfl (nI_pred a) (by omega) (by omega) ?_
          refine G_iload_n dX7_sort_25 rfl ?_
          refine G_icmp_le (tgt := 45) dX7_sort_26 (by decide) (fun hle => ?_) (fun hgt => ?_)
          · refine G_aload_n dX7_sort_45 rfl ?_
            refine G_iload dX7_sort_46 rfl ?_
            refine G_iload_n dX7_sort_48 rfl ?_
            refine G_iastN (w' := [_]) (a + 1) dX7_sort_49 rfl rfl (by omega) (by omega) rfl ?_
            refine G_iinc (L' := [_, _, _, _, _]) (v := nI (i + 1)) dX7_sort_50 rfl (nI_succ i).symm rfl ?_
            refine G_goto (tgt := 2) dX7_sort_53 (by decide) ?_
            refine ih (c - (i + 1)) (by omega) (i + 1) rfl _ _ _ (by omega) (by omega) (fun p q hpq hq => ?_) h1 (fun j hj => by rw [pk_un (by omega)]; exact h2 j hj)
            by_cases e1 : p = a + 1
            · subst e1
              rw [pk_us, pk_un (by omega)]
              exact Int32.le_of_lt (h4 q hpq (by omega))
            · by_cases e2 : q = a + 1
              · subst e2
                rw [pk_us, pk_un e1]
                rcases Nat.lt_or_ge p a with e3 | e3
                · exact Int32.le_trans (h3 p a e3 (by omega) (by omega) (by omega)) hle
                · rw [show p = a by omega]; exact hle
              · rw [pk_un e1, pk_un e2]
                exact h3 p q hpq (by omega) e1 e2
          · have hgt : f i < cur a := Int32.not_le.mp hgt
            refine G_aload_n dX7_sort_29 rfl ?_
            refine G_iload dX7_sort_30 rfl ?_
            refine G_aload_n dX7_sort_32 rfl ?_
            refine G_iload dX7_sort_33 rfl ?_
            refine G_iconst (v := 1) dX7_sort_35 (by decide) ?_
            refine G_isub dX7_sort_36 ?_
            refine G_ialdN a dX7_sort_37 rfl (nI_pred a) (by omega) (by omega) ?_
            refine G_iastN (w' := [_]) (a + 1) dX7_sort_38 rfl rfl (by omega) (by omega) rfl ?_
            refine G_iinc (L' := [_, _, _, _, _]) (v := nI a) dX7_sort_39 rfl (pk_m1 a) rfl ?_
            refine G_goto (tgt := 14) dX7_sort_42 (by decide) ?_
            refine iha (upd cur (a + 1) (cur a)) (by omega) (List.Perm.trans (arL_swap (p := a) (by omega) ?_ ?_ ?_) h1) (fun j hj => by rw [pk_un (by omega)]; exact h2 j hj) (fun p q hpq hq e1 e2 => ?_) (fun q h5 h6 => ?_)
            · rw [pk_us, pk_us]
            · rw [pk_un (by omega), pk_us, pk_un (by omega)]
            · intro j e1 e2
              rw [pk_un e1, pk_un e2, pk_un e2]
            · by_cases e3 : q = a + 1
              · subst e3
                rw [pk_us, pk_un (by omega)]
                exact h3 p a (by omega) (by omega) (by omega) (by omega)
              · by_cases e4 : p = a + 1
                · subst e4
                  rw [pk_us, pk_un e3]
                  exact h3 a q (by omega) hq (by omega) e3
                · rw [pk_un e4, pk_un e3]
                  exact h3 p q hpq hq e4 e3
            · by_cases e3 : q = a + 1
              · rw [e3, pk_us]; exact hgt
              · rw [pk_un e3]
                exact h4 q (by omega) h6
      refine inner i f (Nat.le_refl _) (by rw [upd_self rfl]; exact hp) ht (fun p q h1 h2 h3 h4 => hs p q h1 (by omega)) (fun q h1 h2 => by omega)
  exact outer 1 f0 _ _ (by omega) (by omega) (fun p q h1 h2 => by omega) (List.Perm.refl _) (fun _ _ => rfl)
end
section
/-! Graph's methods but its constructor. A Graph: keys, blanks, triples, hashed, rounds, groups. -/
theorem ab_okc {own : String} {y : MethodName} {c : ByteArray} {n : Nat} {r : Option FieldType} (h : y.cls = own) (hp : plainName own = true) : ab_ok (own, y, c, n, r) := ⟨by rw [show (own, y, c, n, r).2.1.cls = own from h]; exact hp, h.symm⟩
def ptB (nb : Nat) (p : Int32) : Bool := decide ((p.toInt < 0 ∧ -(nb : Int) ≤ p.toInt) ∨ (1 ≤ p.toInt ∧ p.toInt ≤ 1000))
def bi (b : Bool) : Int32 := if b then 1 else 0
abbrev cG (ks : Nat) (nb nt : Nat) (hs ro : Int32) (gr : Value) : ab_C := .inr (1, [.ref ks, .int (nI nb), .int (nI nt), .int hs, .int ro, gr])
abbrev cI (N : Nat) (f : Nat → Int32) : ab_C := .inl (0, N, .inl f)
set_option maxRecDepth 20000 in
theorem con_isPoint (d nb : Nat) (hn : nb ≤ 8) (x : Int32) (kv tv hv rv gv : Value) : Con mX0_isPoint d 0 0 [.inr (1, [kv, .int (nI nb), tv, hv, rv, gv])] [.ref 100, .int x] (fun w' v => w' = [.inr (1, [kv, .int (nI nb), tv, hv, rv, gv])] ∧ v = some (.int (bi (ptB nb x)))) := by
  refine Con.of (ab_okc rfl (by decide)) (Nat.le_of_ble_eq_true rfl) ?_
  show G ab_x0 mX0_isPoint d 0 0 _ 0 [some (.ref 100), some (.int x)] [] _
  have hz : (0 : Int32).toInt = 0 := rfl
  have h1 : (1 : Int32).toInt = 1 := rfl
  have h2 : (1000 : Int32).toInt = 1000 := by decide
  have h3 : (-nI nb).toInt = -(nb : Int) := sb_negT (by omega)
  refine G_iload_n dX0_isPoint_0 rfl ?_
  refine G_if_ge (tgt := 21) dX0_isPoint_1 (by decide) (fun a => ?_) (fun a => ?_)
  · rw [Int32.le_iff_toInt_le, hz] at a
    refine G_iload_n dX0_isPoint_21 rfl ?_
    refine G_iconst (v := 1) dX0_isPoint_22 (by decide) ?_
    refine G_icmp_lt (tgt := 37) dX0_isPoint_23 (by decide) (fun b => ?_) (fun b => ?_)
    · rw [Int32.lt_iff_toInt_lt, h1] at b
      refine G_iconst (v := 0) dX0_isPoint_37 (by decide) ?_
      refine G_ret (v := some (.int _)) ⟨dX0_isPoint_38, _, rfl, rfl⟩ ⟨rfl, ?_⟩
      have e : ptB nb x = false := decide_eq_false (by omega)
      rw [e]
      rfl
    · rw [Int32.lt_iff_toInt_lt, h1] at b
      refine G_iload_n dX0_isPoint_26 rfl ?_
      refine G_sipush (v := 1000) dX0_isPoint_27 (by decide) ?_
      refine G_icmp_gt (tgt := 37) dX0_isPoint_30 (by decide) (fun c => ?_) (fun c => ?_)
      · rw [Int32.lt_iff_toInt_lt, h2] at c
        refine G_iconst (v := 0) dX0_isPoint_37 (by decide) ?_
        refine G_ret (v := some (.int _)) ⟨dX0_isPoint_38, _, rfl, rfl⟩ ⟨rfl, ?_⟩
        have e : ptB nb x = false := decide_eq_false (by omega)
        rw [e]
        rfl
      · rw [Int32.lt_iff_toInt_lt, h2] at c
        refine G_iconst (v := 1) dX0_isPoint_33 (by decide) ?_
        refine G_goto (tgt := 38) dX0_isPoint_34 (by decide) ?_
        refine G_ret (v := some (.int _)) ⟨dX0_isPoint_38, _, rfl, rfl⟩ ⟨rfl, ?_⟩
        have e : ptB nb x = true := decide_eq_true (by omega)
        rw [e]
        rfl
  · rw [Int32.le_iff_toInt_le, hz] at a
    refine G_iload_n dX0_isPoint_4 rfl ?_
    refine G_aload_n dX0_isPoint_5 rfl ?_
    refine G_get (f := 1) kc1 dX0_isPoint_6 fX0_15 (by decide) rfl rfl ?_
    refine G_ineg dX0_isPoint_9 ?_
    refine G_icmp_lt (tgt := 17) dX0_isPoint_10 (by decide) (fun b => ?_) (fun b => ?_)
    · rw [Int32.lt_iff_toInt_lt, h3] at b
      refine G_iconst (v := 0) dX0_isPoint_17 (by decide) ?_
      refine G_goto (tgt := 38) dX0_isPoint_18 (by decide) ?_
      refine G_ret (v := some (.int _)) ⟨dX0_isPoint_38, _, rfl, rfl⟩ ⟨rfl, ?_⟩
      have e : ptB nb x = false := decide_eq_false (by omega)
      rw [e]
      rfl
    · rw [Int32.lt_iff_toInt_lt, h3] at b
      refine G_iconst (v := 1) dX0_isPoint_13 (by decide) ?_
      refine G_goto (tgt := 38) dX0_isPoint_14 (by decide) ?_
      refine G_ret (v := some (.int _)) ⟨dX0_isPoint_38, _, rfl, rfl⟩ ⟨rfl, ?_⟩
      have e : ptB nb x = true := decide_eq_true (by omega)
      rw [e]
      rfl
set_option maxRecDepth 20000 in
theorem con_hasPoints (d nb nt : Nat) (hn : nb ≤ 8) (s p o hs ro : Int32) (t1 t2 : Nat) : Con mX0_hasPoints (d + 1) 0 0 [.inr (1, [.ref t1, .int (nI nb), .int (nI nt), .int hs, .int ro, .ref t2])] [.ref 100, .int s, .int p, .int o] (fun w' v => w' = [.inr (1, [.ref t1, .int (nI nb), .int (nI nt), .int hs, .int ro, .ref t2])] ∧ v = some (.int (bi (ptB nb s && ptB nb p && ptB nb o)))) := by
  refine Con.of (ab_okc rfl (by decide)) (Nat.le_of_ble_eq_true rfl) ?_
  show G ab_x0 mX0_hasPoints (d + 1) 0 0 _ 0 [some (.ref 100), some (.int s), some (.int p), some (.int o)] [] _
  refine G_aload_n dX0_hasPoints_0 rfl ?_
  refine G_iload_n dX0_hasPoints_1 rfl ?_
  refine G_V (is := [0]) (fo := [t1, t2]) (as := [.ref 100, .int s]) (as' := [.int s]) (st := []) (k := 0) (n := 0) cX0_hasPoints_2 (con_isPoint d nb hn s (.ref 4) (.int (nI nt)) (.int hs) (.int ro) (.ref 5)) ab_pfx rfl (by decide) rfl rfl rfl rfl rfl rfl (Nat.le_of_ble_eq_true rfl) dX0_hasPoints_2 (fun w' v h => by rw [h.1]) (fun w2 v2 hq => ?_)
  obtain ⟨rfl, rfl⟩ := hq
  refine G_if_eq (tgt := 28) dX0_hasPoints_5 (by decide) (fun e => ?_) (fun e => ?_)
  · have e : ptB nb s = false := by
      cases h : ptB nb s
      · rfl
      · rw [h] at e; exact absurd e (by decide)
    refine G_iconst (v := 0) dX0_hasPoints_28 (by decide) ?_
    refine G_ret (v := some (.int _)) ⟨dX0_hasPoints_29, _, rfl, rfl⟩ ⟨rfl, ?_⟩
    simp [e, bi]
  have e1 : ptB nb s = true := by
    cases h : ptB nb s
    · rw [h] at e; exact absurd (by decide) e
    · rfl
  refine G_aload_n dX0_hasPoints_8 rfl ?_
  refine G_iload_n dX0_hasPoints_9 rfl ?_
  refine G_V (is := [0]) (fo := [t1, t2]) (as := [.ref 100, .int p]) (as' := [.int p]) (st := []) (k := 0) (n := 0) cX0_hasPoints_10 (con_isPoint d nb hn p (.ref 4) (.int (nI nt)) (.int hs) (.int ro) (.ref 5)) ab_pfx rfl (by decide) rfl rfl rfl rfl rfl rfl (Nat.le_of_ble_eq_true rfl) dX0_hasPoints_10 (fun w' v h => by rw [h.1]) (fun w2 v2 hq => ?_)
  obtain ⟨rfl, rfl⟩ := hq
  refine G_if_eq (tgt := 28) dX0_hasPoints_13 (by decide) (fun e => ?_) (fun e => ?_)
  · have e : ptB nb p = false := by
      cases h : ptB nb p
      · rfl
      · rw [h] at e; exact absurd e (by decide)
    refine G_iconst (v := 0) dX0_hasPoints_28 (by decide) ?_
    refine G_ret (v := some (.int _)) ⟨dX0_hasPoints_29, _, rfl, rfl⟩ ⟨rfl, ?_⟩
    simp [e, bi]
  have e2 : ptB nb p = true := by
    cases h : ptB nb p
    · rw [h] at e; exact absurd (by decide) e
    · rfl
  refine G_aload_n dX0_hasPoints_16 rfl ?_
  refine G_iload_n dX0_hasPoints_17 rfl ?_
  refine G_V (is := [0]) (fo := [t1, t2]) (as := [.ref 100, .int o]) (as' := [.int o]) (st := []) (k := 0) (n := 0) cX0_hasPoints_18 (con_isPoint d nb hn o (.ref 4) (.int (nI nt)) (.int hs) (.int ro) (.ref 5)) ab_pfx rfl (by decide) rfl rfl rfl rfl rfl rfl (Nat.le_of_ble_eq_true rfl) dX0_hasPoints_18 (fun w' v h => by rw [h.1]) (fun w2 v2 hq => ?_)
  obtain ⟨rfl, rfl⟩ := hq
  refine G_if_eq (tgt := 28) dX0_hasPoints_21 (by decide) (fun e => ?_) (fun e => ?_)
  · have e : ptB nb o = false := by
      cases h : ptB nb o
      · rfl
      · rw [h] at e; exact absurd e (by decide)
    refine G_iconst (v := 0) dX0_hasPoints_28 (by decide) ?_
    refine G_ret (v := some (.int _)) ⟨dX0_hasPoints_29, _, rfl, rfl⟩ ⟨rfl, ?_⟩
    simp [e, bi]
  have e3 : ptB nb o = true := by
    cases h : ptB nb o
    · rw [h] at e; exact absurd (by decide) e
    · rfl
  refine G_iconst (v := 1) dX0_hasPoints_24 (by decide) ?_
  refine G_goto (tgt := 29) dX0_hasPoints_25 (by decide) ?_
  refine G_ret (v := some (.int _)) ⟨dX0_hasPoints_29, _, rfl, rfl⟩ ⟨rfl, ?_⟩
  simp [e1, e2, e3, bi]
set_option maxRecDepth 20000 in
theorem con_holds (d nb nt : Nat) (hn : nt ≤ 40) (x hs ro : Int32) (gv : Value) (f : Nat → Int32) (hf : ∀ i j, i < j → j < nt → f i < f j) : Con mX0_holds (d + 1) 0 0 [cG 101 nb nt hs ro gv, cI 40 f] [.ref 100, .int x] (fun w' v => w' = [cG 101 nb nt hs ro gv, cI 40 f] ∧ ((∃ i, i < nt ∧ f i = x) ∧ v = some (.int 1) ∨ (¬ ∃ i, i < nt ∧ f i = x) ∧ v = some (.int 0))) := by
  refine Con.of (ab_okc rfl (by decide)) (Nat.le_of_ble_eq_true rfl) ?_
  show G ab_x0 mX0_holds (d + 1) 0 0 _ 0 [some (.ref 100), some (.int x)] [] _
  refine G_iload_n dX0_holds_0 rfl ?_
  refine G_aload_n dX0_holds_1 rfl ?_
  refine G_get (f := 0) kc1 dX0_holds_2 fX0_9 (by decide) rfl rfl ?_
  refine G_aload_n dX0_holds_5 rfl ?_
  refine G_get (f := 2) kc1 dX0_holds_6 fX0_19 (by decide) rfl rfl ?_
  refine G_SN (is := [1]) (fo := []) (as := [.int x, .ref 100, .int (nI nt)]) (as' := [.int x, .ref 101, .int (nI nt)]) (st := []) (k := 0) (n := 0) cX0_holds_9 (con_isIn d x f 40 nt hn (by decide) hf) ab_pfx rfl (by decide) rfl rfl rfl rfl (Nat.le_of_ble_eq_true rfl) dX0_holds_9 (fun w' v h => by rw [h.1]) (fun w2 v2 hq => ?_)
  obtain ⟨rfl, hq⟩ := hq
  rcases hq with ⟨h1, rfl⟩ | ⟨h1, rfl⟩
  · exact G_ret (v := some (.int _)) ⟨dX0_holds_12, _, rfl, rfl⟩ ⟨rfl, Or.inl ⟨h1, rfl⟩⟩
  · exact G_ret (v := some (.int _)) ⟨dX0_holds_12, _, rfl, rfl⟩ ⟨rfl, Or.inr ⟨h1, rfl⟩⟩
set_option maxRecDepth 20000 in
theorem con_hasSizesOf (d nb nt nb' nt' : Nat) (h1 : nb ≤ 8) (h2 : nt ≤ 40) (h3 : nb' ≤ 8) (h4 : nt' ≤ 40) (kv hv rv gv kv' hv' rv' gv' : Value) : Con mX0_hasSizesOf d 0 0 [.inr (1, [kv, .int (nI nb), .int (nI nt), hv, rv, gv]), .inr (1, [kv', .int (nI nb'), .int (nI nt'), hv', rv', gv'])] [.ref 100, .ref 101] (fun w' v => w' = [.inr (1, [kv, .int (nI nb), .int (nI nt), hv, rv, gv]), .inr (1, [kv', .int (nI nb'), .int (nI nt'), hv', rv', gv'])] ∧ v = some (.int (bi (decide (nb = nb' ∧ nt = nt'))))) := by
  refine Con.of (ab_okc rfl (by decide)) (Nat.le_of_ble_eq_true rfl) ?_
  show G ab_x0 mX0_hasSizesOf d 0 0 _ 0 [some (.ref 100), some (.ref 101)] [] _
  refine G_aload_n dX0_hasSizesOf_0 rfl ?_
  refine G_get (f := 1) kc1 dX0_hasSizesOf_1 fX0_15 (by decide) rfl rfl ?_
  refine G_aload_n dX0_hasSizesOf_4 rfl ?_
  refine G_get (f := 1) kc1 dX0_hasSizesOf_5 fX0_15 (by decide) rfl rfl ?_
  refine G_icmp_neN (tgt := 26) nb nb' dX0_hasSizesOf_8 (by decide) rfl rfl (by omega) (by omega) (fun a => ?_) (fun a => ?_)
  · refine G_iconst (v := 0) dX0_hasSizesOf_26 (by decide) ?_
    refine G_ret (v := some (.int _)) ⟨dX0_hasSizesOf_27, _, rfl, rfl⟩ ⟨rfl, ?_⟩
    rw [decide_eq_false (by omega)]
    rfl
  refine G_aload_n dX0_hasSizesOf_11 rfl ?_
  refine G_get (f := 2) kc1 dX0_hasSizesOf_12 fX0_19 (by decide) rfl rfl ?_
  refine G_aload_n dX0_hasSizesOf_15 rfl ?_
  refine G_get (f := 2) kc1 dX0_hasSizesOf_16 fX0_19 (by decide) rfl rfl ?_
  refine G_icmp_neN (tgt := 26) nt nt' dX0_hasSizesOf_19 (by decide) rfl rfl (by omega) (by omega) (fun b => ?_) (fun b => ?_)
  · refine G_iconst (v := 0) dX0_hasSizesOf_26 (by decide) ?_
    refine G_ret (v := some (.int _)) ⟨dX0_hasSizesOf_27, _, rfl, rfl⟩ ⟨rfl, ?_⟩
    rw [decide_eq_false (by omega)]
    rfl
  refine G_iconst (v := 1) dX0_hasSizesOf_22 (by decide) ?_
  refine G_goto (tgt := 27) dX0_hasSizesOf_23 (by decide) ?_
  refine G_ret (v := some (.int _)) ⟨dX0_hasSizesOf_27, _, rfl, rfl⟩ ⟨rfl, ?_⟩
  rw [decide_eq_true (by omega)]
  rfl
/-- a row with a number more at place q, of c -/
def insF (f : Nat → Int32) (q c : Nat) (x : Int32) : Nat → Int32 := fun j => if j < q then f j else if j = q then x else if j ≤ c then f (j - 1) else f j
theorem insF_ok {f : Nat → Int32} {q c : Nat} {x : Int32} (hq : q ≤ c) (hs : ∀ i j, i < j → j < c → f i < f j) (h1 : ∀ j, j < q → f j < x) (h2 : ∀ j, q ≤ j → j < c → x < f j) : (∀ i j, i < j → j < c + 1 → insF f q c x i < insF f q c x j) ∧ ∀ y, (∃ i, i < c + 1 ∧ insF f q c x i = y) ↔ y = x ∨ ∃ i, i < c ∧ f i = y := by
  refine ⟨fun i j hij hj => ?_, fun y => ⟨?_, ?_⟩⟩
  · unfold insF
    repeat' split
    all_goals first | omega | exact hs _ _ (by omega) (by omega) | exact h1 _ (by omega) | exact h2 _ (by omega) (by omega)
  · rintro ⟨i, hi, e⟩
    unfold insF at e
    split at e
    · exact Or.inr ⟨i, by omega, e⟩
    · split at e
      · exact Or.inl e.symm
      · rw [if_pos (by omega)] at e
        exact Or.inr ⟨i - 1, by omega, e⟩
  · rintro (e | ⟨i, hi, e⟩)
    · refine ⟨q, by omega, ?_⟩
      unfold insF
      rw [if_neg (by omega), if_pos rfl, e]
    · by_cases a : i < q
      · refine ⟨i, by omega, ?_⟩
        unfold insF
        rw [if_pos a, e]
      · refine ⟨i + 1, by omega, ?_⟩
        unfold insF
        rw [if_neg (by omega), if_neg (by omega), if_pos (by omega), show i + 1 - 1 = i by omega, e]
set_option maxRecDepth 20000 in
theorem con_insert (d nb nt : Nat) (hn : nt < 40) (x hs ro : Int32) (gv : Value) (f : Nat → Int32) (hf : ∀ i j, i < j → j < nt → f i < f j) (hx : ¬ ∃ i, i < nt ∧ f i = x) : Con mX0_insert (d + 1) 0 0 [cG 101 nb nt hs ro gv, cI 40 f] [.ref 100, .int x] (fun w' v => v = none ∧ ∃ g, w' = [cG 101 nb (nt + 1) 0 ro gv, cI 40 g] ∧ (∀ i j, i < j → j < nt + 1 → g i < g j) ∧ ∀ y, (∃ i, i < nt + 1 ∧ g i = y) ↔ y = x ∨ ∃ i, i < nt ∧ f i = y) := by
  refine Con.of (ab_okc rfl (by decide)) (Nat.le_of_ble_eq_true rfl) ?_
  show G ab_x0 mX0_insert (d + 1) 0 0 _ 0 [some (.ref 100), some (.int x), none, none] [] _
  refine G_iload_n dX0_insert_0 rfl ?_
  refine G_aload_n dX0_insert_1 rfl ?_
  refine G_get (f := 0) kc1 dX0_insert_2 fX0_9 (by decide) rfl rfl ?_
  refine G_aload_n dX0_insert_5 rfl ?_
  refine G_get (f := 2) kc1 dX0_insert_6 fX0_19 (by decide) rfl rfl ?_
  refine G_SN (is := [1]) (fo := []) (as := [.int x, .ref 100, .int (nI nt)]) (as' := [.int x, .ref 101, .int (nI nt)]) (st := []) (k := 0) (n := 0) cX0_insert_9 (con_placeFor d x f 40 nt (by omega) (by decide)) ab_pfx rfl (by decide) rfl rfl rfl rfl (Nat.le_of_ble_eq_true rfl) dX0_insert_9 (fun w' v h => by rw [h.1]) (fun w2 v2 hq => ?_)
  obtain ⟨rfl, q, hq, rfl, h1, h2⟩ := hq
  have h3 : ∀ j, q ≤ j → j < nt → x < f j := fun j h4 h5 => by
    have h6 : x ≤ f j := by
      rcases Nat.lt_or_ge q j with h7 | h7
      · exact Int32.le_trans (h2 (by omega)) (Int32.le_of_lt (hf q j h7 h5))
      · rw [show j = q by omega]; exact h2 (by omega)
    rcases Int32.lt_or_eq_of_le h6 with h7 | h7
    · exact h7
    · exact absurd ⟨j, h5, h7.symm⟩ hx
  refine G_istore_n (L' := [_, _, _, _]) dX0_insert_12 (Nat.le_of_ble_eq_true rfl) rfl ?_
  refine G_aload_n dX0_insert_13 rfl ?_
  refine G_get (f := 2) kc1 dX0_insert_14 fX0_19 (by decide) rfl rfl ?_
  refine G_istore_n (L' := [_, _, _, _]) dX0_insert_17 (Nat.le_of_ble_eq_true rfl) rfl ?_
  have loop : ∀ (i : Nat) (cur : Nat → Int32), q ≤ i → i ≤ nt → (∀ j, cur j = if i < j ∧ j ≤ nt then f (j - 1) else f j) → G ab_x0 mX0_insert (d + 1) 0 0 (fun w' v => v = none ∧ ∃ g, w' = [cG 101 nb (nt + 1) 0 ro gv, cI 40 g] ∧ (∀ i j, i < j → j < nt + 1 → g i < g j) ∧ ∀ y, (∃ i, i < nt + 1 ∧ g i = y) ↔ y = x ∨ ∃ i, i < nt ∧ f i = y) 18 [some (.ref 100), some (.int x), some (.int (nI q)), some (.int (nI i))] [] [cG 101 nb nt hs ro gv, cI 40 cur] := by
    intro i
    induction i with
    | zero =>
      intro cur hqi hi hc
      refine G_iload_n dX0_insert_18 rfl ?_
      refine G_iload_n dX0_insert_19 rfl ?_
      refine G_icmp_leN (tgt := 43) 0 q dX0_insert_20 (by decide) rfl rfl (by omega) (by omega) (fun _ => ?_) (fun h => by omega)
      refine G_aload_n dX0_insert_43 rfl ?_
      refine G_get (f := 0) kc1 dX0_insert_44 fX0_9 (by decide) rfl rfl ?_
      refine G_iload_n dX0_insert_47 rfl ?_
      refine G_iload_n dX0_insert_48 rfl ?_
      refine G_iastN (w' := [_, _]) q dX0_insert_49 rfl rfl (by omega) (by omega) rfl ?_
      refine G_aload_n dX0_insert_50 rfl ?_
      refine G_dup dX0_insert_51 rfl ?_
      refine G_get (f := 2) kc1 dX0_insert_52 fX0_19 (by decide) rfl rfl ?_
      refine G_iconst (v := 1) dX0_insert_55 (by decide) ?_
      refine G_iadd dX0_insert_56 ?_
      refine G_topi (nI_1 nt) ?_
      refine G_put (w' := [_, _]) (f := 2) kc1 dX0_insert_57 fX0_19 (by decide) rfl rfl rfl rfl (Nat.le_of_ble_eq_true rfl) rfl ?_
      refine G_aload_n dX0_insert_60 rfl ?_
      refine G_iconst (v := 0) dX0_insert_61 (by decide) ?_
      refine G_put (w' := [_, _]) (f := 3) kc1 dX0_insert_62 fX0_22 (by decide) rfl (by decide) (by decide) rfl (Nat.le_of_ble_eq_true rfl) rfl ?_
      have e : upd cur q x = insF f q nt x := by
        funext j
        unfold insF
        by_cases a : j = q
        · rw [a, pk_us, if_neg (by omega), if_pos rfl]
        · rw [pk_un a, hc]
          repeat' split
          all_goals first | rfl | omega
      rw [e]
      exact G_ret (v := none) ⟨dX0_insert_65, rfl⟩ ⟨rfl, _, rfl, insF_ok hq hf h1 h3⟩
    | succ i ih =>
      intro cur hqi hi hc
      refine G_iload_n dX0_insert_18 rfl ?_
      refine G_iload_n dX0_insert_19 rfl ?_
      refine G_icmp_leN (tgt := 43) (i + 1) q dX0_insert_20 (by decide) rfl rfl (by omega) (by omega) (fun hle => ?_) (fun hlt => ?_)
      · refine G_aload_n dX0_insert_43 rfl ?_
        refine G_get (f := 0) kc1 dX0_insert_44 fX0_9 (by decide) rfl rfl ?_
        refine G_iload_n dX0_insert_47 rfl ?_
        refine G_iload_n dX0_insert_48 rfl ?_
        refine G_iastN (w' := [_, _]) q dX0_insert_49 rfl rfl (by omega) (by omega) rfl ?_
        refine G_aload_n dX0_insert_50 rfl ?_
        refine G_dup dX0_insert_51 rfl ?_
        refine G_get (f := 2) kc1 dX0_insert_52 fX0_19 (by decide) rfl rfl ?_
        refine G_iconst (v := 1) dX0_insert_55 (by decide) ?_
        refine G_iadd dX0_insert_56 ?_
        refine G_topi (nI_1 nt) ?_
        refine G_put (w' := [_, _]) (f := 2) kc1 dX0_insert_57 fX0_19 (by decide) rfl rfl rfl rfl (Nat.le_of_ble_eq_true rfl) rfl ?_
        refine G_aload_n dX0_insert_60 rfl ?_
        refine G_iconst (v := 0) dX0_insert_61 (by decide) ?_
        refine G_put (w' := [_, _]) (f := 3) kc1 dX0_insert_62 fX0_22 (by decide) rfl (by decide) (by decide) rfl (Nat.le_of_ble_eq_true rfl) rfl ?_
        have e : upd cur q x = insF f q nt x := by
          funext j
          unfold insF
          by_cases a : j = q
          · rw [a, pk_us, if_neg (by omega), if_pos rfl]
          · rw [pk_un a, hc]
            repeat' split
            all_goals first | rfl | omega
        rw [e]
        exact G_ret (v := none) ⟨dX0_insert_65, rfl⟩ ⟨rfl, _, rfl, insF_ok hq hf h1 h3⟩
      refine G_aload_n dX0_insert_23 rfl ?_
      refine G_get (f := 0) kc1 dX0_insert_24 fX0_9 (by decide) rfl rfl ?_
      refine G_iload_n dX0_insert_27 rfl ?_
      refine G_aload_n dX0_insert_28 rfl ?_
      refine G_get (f := 0) kc1 dX0_insert_29 fX0_9 (by decide) rfl rfl ?_
      refine G_iload_n dX0_insert_32 rfl ?_
      refine G_iconst (v := 1) dX0_insert_33 (by decide) ?_
      refine G_isub dX0_insert_34 ?_
      refine G_ialdN i dX0_insert_35 rfl (nI_pred i) (by omega) (by omega) ?_
      refine G_iastN (w' := [_, _]) (i + 1) dX0_insert_36 rfl rfl (by omega) (by omega) rfl ?_
      refine G_iinc (L' := [_, _, _, _]) (v := nI i) dX0_insert_37 rfl (pk_m1 i) rfl ?_
      refine G_goto (tgt := 18) dX0_insert_40 (by decide) ?_
      refine ih _ (by omega) (by omega) (fun j => ?_)
      by_cases a : j = i + 1
      · rw [a, pk_us, hc, if_neg (by omega), if_pos (by omega)]; rfl
      · rw [pk_un a, hc]
        repeat' split
        all_goals first | rfl | omega
  exact loop nt f hq (Nat.le_refl _) (fun j => by rw [if_neg (by omega)])
theorem remF_ok {f g : Nat → Int32} {q c : Nat} {x : Int32} (hq : q < c) (hx : f q = x) (hs : ∀ i j, i < j → j < c → f i < f j) (hg : ∀ j, j < c - 1 → g j = if q ≤ j then f (j + 1) else f j) : (∀ i j, i < j → j < c - 1 → g i < g j) ∧ ∀ y, (∃ i, i < c - 1 ∧ g i = y) ↔ y ≠ x ∧ ∃ i, i < c ∧ f i = y := by
  have inj : ∀ i j, i < c → j < c → f i = f j → i = j := fun i j hi hj e => by
    rcases Nat.lt_trichotomy i j with h | h | h
    · have := hs i j h hj; rw [e] at this; exact absurd this (fun h => Int32.lt_irrefl h)
    · exact h
    · have := hs j i h hi; rw [e] at this; exact absurd this (fun h => Int32.lt_irrefl h)
  refine ⟨fun i j hij hj => ?_, fun y => ⟨?_, ?_⟩⟩
  · rw [hg i (by omega), hg j hj]
    repeat' split
    all_goals first | exact hs _ _ (by omega) (by omega) | omega
  · rintro ⟨i, hi, e⟩
    rw [hg i hi] at e
    split at e
    · exact ⟨fun h => by have := inj (i + 1) q (by omega) hq (by rw [e, h, hx]); omega, i + 1, by omega, e⟩
    · exact ⟨fun h => by have := inj i q (by omega) hq (by rw [e, h, hx]); omega, i, by omega, e⟩
  · rintro ⟨h, i, hi, e⟩
    rcases Nat.lt_trichotomy i q with a | a | a
    · exact ⟨i, by omega, by rw [hg i (by omega), if_neg (by omega), e]⟩
    · subst a
      exact absurd (e.symm.trans hx) h
    · exact ⟨i - 1, by omega, by rw [hg _ (by omega), if_pos (by omega), show i - 1 + 1 = i by omega, e]⟩
set_option maxRecDepth 20000 in
theorem con_remove (d nb nt : Nat) (hn : nt ≤ 40) (x hs ro : Int32) (gv : Value) (f : Nat → Int32) (hf : ∀ i j, i < j → j < nt → f i < f j) (hx : ∃ i, i < nt ∧ f i = x) : Con mX0_remove (d + 1) 0 0 [cG 101 nb nt hs ro gv, cI 40 f] [.ref 100, .int x] (fun w' v => v = none ∧ ∃ g, w' = [cG 101 nb (nt - 1) 0 ro gv, cI 40 g] ∧ (∀ i j, i < j → j < nt - 1 → g i < g j) ∧ ∀ y, (∃ i, i < nt - 1 ∧ g i = y) ↔ y ≠ x ∧ ∃ i, i < nt ∧ f i = y) := by
  refine Con.of (ab_okc rfl (by decide)) (Nat.le_of_ble_eq_true rfl) ?_
  show G ab_x0 mX0_remove (d + 1) 0 0 _ 0 [some (.ref 100), some (.int x), none] [] _
  refine G_iload_n dX0_remove_0 rfl ?_
  refine G_aload_n dX0_remove_1 rfl ?_
  refine G_get (f := 0) kc1 dX0_remove_2 fX0_9 (by decide) rfl rfl ?_
  refine G_aload_n dX0_remove_5 rfl ?_
  refine G_get (f := 2) kc1 dX0_remove_6 fX0_19 (by decide) rfl rfl ?_
  refine G_SN (is := [1]) (fo := []) (as := [.int x, .ref 100, .int (nI nt)]) (as' := [.int x, .ref 101, .int (nI nt)]) (st := []) (k := 0) (n := 0) cX0_remove_9 (con_placeFor d x f 40 nt (by omega) (by decide)) ab_pfx rfl (by decide) rfl rfl rfl rfl (Nat.le_of_ble_eq_true rfl) dX0_remove_9 (fun w' v h => by rw [h.1]) (fun w2 v2 hq => ?_)
  obtain ⟨rfl, q, hq, rfl, h1, h2⟩ := hq
  obtain ⟨i0, hi0, he0⟩ := hx
  have hqi : q = i0 := by
    rcases Nat.lt_trichotomy q i0 with h | h | h
    · have h5 := h2 (by omega)
      have h6 := hf q i0 h hi0
      rw [he0] at h6
      exact absurd (Int32.lt_of_le_of_lt h5 h6) (fun h => Int32.lt_irrefl h)
    · exact h
    · have := h1 i0 h
      rw [he0] at this
      exact absurd this (fun h => Int32.lt_irrefl h)
  subst hqi
  refine G_iconst (v := 1) dX0_remove_12 (by decide) ?_
  refine G_iadd dX0_remove_13 ?_
  refine G_topi (nI_1 q) ?_
  refine G_istore_n (L' := [_, _, _]) dX0_remove_14 (Nat.le_of_ble_eq_true rfl) rfl ?_
  have loop : ∀ (i : Nat) (cur : Nat → Int32), q + 1 ≤ i → i ≤ nt → (∀ j, cur j = if q ≤ j ∧ j + 1 < i then f (j + 1) else f j) → G ab_x0 mX0_remove (d + 1) 0 0 (fun w' v => v = none ∧ ∃ g, w' = [cG 101 nb (nt - 1) 0 ro gv, cI 40 g] ∧ (∀ i j, i < j → j < nt - 1 → g i < g j) ∧ ∀ y, (∃ i, i < nt - 1 ∧ g i = y) ↔ y ≠ x ∧ ∃ i, i < nt ∧ f i = y) 15 [some (.ref 100), some (.int x), some (.int (nI i))] [] [cG 101 nb nt hs ro gv, cI 40 cur] := by
    intro i
    induction hm : nt - i using Nat.strongRecOn generalizing i with
    | ind m ih =>
      subst hm
      intro cur hqi hi hc
      refine G_iload_n dX0_remove_15 rfl ?_
      refine G_aload_n dX0_remove_16 rfl ?_
      refine G_get (f := 2) kc1 dX0_remove_17 fX0_19 (by decide) rfl rfl ?_
      refine G_icmp_geN (tgt := 43) i nt dX0_remove_20 (by decide) rfl rfl (by omega) (by omega) (fun hge => ?_) (fun hlt => ?_)
      · refine G_aload_n dX0_remove_43 rfl ?_
        refine G_dup dX0_remove_44 rfl ?_
        refine G_get (f := 2) kc1 dX0_remove_45 fX0_19 (by decide) rfl rfl ?_
        refine G_iconst (v := 1) dX0_remove_48 (by decide) ?_
        refine G_isub dX0_remove_49 ?_
        refine G_topi (y := nI (nt - 1)) (pk_sub (a := nt) (b := 1) (by omega)) ?_
        refine G_put (w' := [_, _]) (f := 2) kc1 dX0_remove_50 fX0_19 (by decide) rfl rfl rfl rfl (Nat.le_of_ble_eq_true rfl) rfl ?_
        refine G_aload_n dX0_remove_53 rfl ?_
        refine G_iconst (v := 0) dX0_remove_54 (by decide) ?_
        refine G_put (w' := [_, _]) (f := 3) kc1 dX0_remove_55 fX0_22 (by decide) rfl (by decide) (by decide) rfl (Nat.le_of_ble_eq_true rfl) rfl ?_
        exact G_ret (v := none) ⟨dX0_remove_58, rfl⟩ ⟨rfl, _, rfl, remF_ok (by omega) he0 hf (fun j hj => by
          rw [hc]
          repeat' split
          all_goals first | rfl | omega)⟩
      refine G_aload_n dX0_remove_23 rfl ?_
      refine G_get (f := 0) kc1 dX0_remove_24 fX0_9 (by decide) rfl rfl ?_
      refine G_iload_n dX0_remove_27 rfl ?_
      refine G_iconst (v := 1) dX0_remove_28 (by decide) ?_
      refine G_isub dX0_remove_29 ?_
      refine G_aload_n dX0_remove_30 rfl ?_
      refine G_get (f := 0) kc1 dX0_remove_31 fX0_9 (by decide) rfl rfl ?_
      refine G_iload_n dX0_remove_34 rfl ?_
      refine G_ialdN i dX0_remove_35 rfl rfl (by omega) (by omega) ?_
      refine G_iastN (w' := [_, _]) (i - 1) dX0_remove_36 rfl (pk_sub (a := i) (b := 1) (by omega)) (by omega) (by omega) rfl ?_
      refine G_iinc (L' := [_, _, _]) (v := nI (i + 1)) dX0_remove_37 rfl (nI_succ i).symm rfl ?_
      refine G_goto (tgt := 15) dX0_remove_40 (by decide) ?_
      refine ih (nt - (i + 1)) (by omega) (i + 1) rfl _ (by omega) (by omega) (fun j => ?_)
      by_cases a : j = i - 1
      · rw [a, pk_us, hc, if_neg (by omega), if_pos (by omega), show i - 1 + 1 = i by omega]
      · rw [pk_un a, hc]
        repeat' split
        all_goals first | rfl | omega
  exact loop (q + 1) f (Nat.le_refl _) (by omega) (fun j => by rw [if_neg (by omega)])
end
section
/-! Groups: sizeOf, compareHashes, hasHashesOf, namings. A hash is ONE number of 256 bits. -/
def uw (x : Int32) : Nat := x.toBitVec.toNat
theorem uw_lt (x : Int32) : uw x < 2 ^ 32 := x.toBitVec.isLt
theorem uw_inj {x y : Int32} (h : uw x = uw y) : x = y := Int32.toBitVec_inj.mp (BitVec.eq_of_toNat_eq h)
/-- the first i words, the first one highest -/
def pw (F : Nat → Nat) : Nat → Nat
  | 0 => 0
  | i + 1 => pw F i * 2 ^ 32 + F i
theorem pw_lt {F F' : Nat → Nat} {i : Nat} (h : pw F i < pw F' i) : ∀ k, (∀ j, F j < 2 ^ 32) → pw F (i + k) < pw F' (i + k)
  | 0, _ => h
  | k + 1, hF => by
    have h1 := pw_lt h k hF
    have h2 := hF (i + k)
    show pw F (i + k) * 2 ^ 32 + F (i + k) < pw F' (i + k) * 2 ^ 32 + F' (i + k)
    omega
theorem pw_eq {F F' : Nat → Nat} (hF : ∀ j, F j < 2 ^ 32) (hF' : ∀ j, F' j < 2 ^ 32) : ∀ n, pw F n = pw F' n ↔ ∀ j, j < n → F j = F' j
  | 0 => ⟨fun _ j hj => by omega, fun _ => rfl⟩
  | n + 1 => by
    have ih := pw_eq hF hF' n
    have h1 := hF n
    have h2 := hF' n
    show pw F n * 2 ^ 32 + F n = pw F' n * 2 ^ 32 + F' n ↔ _
    constructor
    · intro h j hj
      have e1 : pw F n = pw F' n := by omega
      rcases Nat.lt_or_ge j n with q | q
      · exact ih.mp e1 j q
      · rw [show j = n by omega]; omega
    · intro h
      rw [ih.mpr (fun j hj => h j (by omega)), h n (by omega)]
/-- the hash of blank b -/
def hv (F : Nat → Int32) (b : Nat) : Nat := pw (fun i => uw (F (b * 8 + i))) 8
def cmpN (x y : Nat) : Int32 := if x < y then -1 else if x = y then 0 else 1
theorem xor_lt (x y : Int32) : x ^^^ (-2147483648) < y ^^^ (-2147483648) ↔ uw x < uw y := by
  have key : ∀ z : Int32, (z ^^^ (-2147483648)).toInt = (uw z : Int) - 2147483648 := by
    intro z
    have h1 : (z ^^^ (-2147483648)).toBitVec = z.toBitVec ^^^ 0x80000000#32 := rfl
    show (z ^^^ (-2147483648)).toBitVec.toInt = _
    rw [h1, BitVec.toInt_eq_toNat_cond, BitVec.toNat_xor]
    have h2 := uw_lt z
    unfold uw at *
    generalize z.toBitVec.toNat = n at *
    have h3 : (2147483648#32).toNat = 2147483648 := rfl
    rw [h3]
    by_cases h : n < 2147483648
    · have e : n ^^^ 2147483648 = n + 2147483648 := by
        have := Nat.two_pow_add_eq_or_of_lt (i := 31) (b := n) (by omega) 1
        have e2 : (n ^^^ 2147483648) = (2 ^ 31 * 1 ||| n) := by
          apply Nat.eq_of_testBit_eq
          intro i
          rw [Nat.testBit_xor, Nat.testBit_or, show 2147483648 = 2 ^ 31 from rfl, Nat.mul_one, Nat.testBit_two_pow]
          by_cases hi : 31 = i
          · subst hi
            have : n.testBit 31 = false := Nat.testBit_lt_two_pow (by omega)
            simp [this]
          · simp [hi]
        rw [e2, ← this]
        omega
      rw [e]
      omega
    · have e : n ^^^ 2147483648 = n - 2147483648 := by
        have hn : n = 2 ^ 31 * 1 ||| (n - 2147483648) := by
          rw [← Nat.two_pow_add_eq_or_of_lt (by omega)]
          omega
        apply Nat.eq_of_testBit_eq
        intro i
        rw [Nat.testBit_xor, show 2147483648 = 2 ^ 31 from rfl, Nat.testBit_two_pow]
        conv => lhs; rw [hn]
        rw [Nat.testBit_or, Nat.mul_one, Nat.testBit_two_pow]
        by_cases hi : 31 = i
        · subst hi
          have : (n - 2147483648).testBit 31 = false := Nat.testBit_lt_two_pow (by omega)
          have h4 : (n - 2 ^ 31).testBit 31 = false := this
          simp [this, h4]
        · simp [hi]
      rw [e]
      omega
  rw [Int32.lt_iff_toInt_lt, key, key]
  omega
theorem xor_eq (x y : Int32) : x ^^^ (-2147483648) = y ^^^ (-2147483648) ↔ x = y := by
  constructor
  · intro h
    rcases Nat.lt_trichotomy (uw x) (uw y) with q | q | q
    · have := (xor_lt x y).mpr q
      rw [h] at this
      exact absurd this (fun h => Int32.lt_irrefl h)
    · exact uw_inj q
    · have := (xor_lt y x).mpr q
      rw [h] at this
      exact absurd this (fun h => Int32.lt_irrefl h)
  · intro h
    rw [h]
set_option maxRecDepth 20000 in
theorem con_compareHashes (d a b : Nat) (ha : a < 8) (hb : b < 8) (F : Nat → Int32) (ov rv sv cv : Value) : Con mX1_compareHashes d 0 0 [.inr (2, [.ref 101, ov, rv, sv, cv]), cI 64 F] [.ref 100, .int (nI a), .int (nI b)] (fun w' v => w' = [.inr (2, [.ref 101, ov, rv, sv, cv]), cI 64 F] ∧ v = some (.int (cmpN (hv F a) (hv F b)))) := by
  refine Con.of (ab_okc rfl (by decide)) (Nat.le_of_ble_eq_true rfl) ?_
  show G ab_x0 mX1_compareHashes d 0 0 _ 0 [some (.ref 100), some (.int (nI a)), some (.int (nI b)), none, none, none] [] _
  refine G_iconst (v := 0) dX1_compareHashes_0 (by decide) ?_
  refine G_istore_n (L' := [_, _, _, _, _, _]) dX1_compareHashes_1 (Nat.le_of_ble_eq_true rfl) rfl ?_
  have hFa : ∀ j, uw (F (a * 8 + j)) < 2 ^ 32 := fun j => uw_lt _
  have hFb : ∀ j, uw (F (b * 8 + j)) < 2 ^ 32 := fun j => uw_lt _
  have loop : ∀ (i : Nat) (z1 z2 : Option Value), i ≤ 8 → pw (fun i => uw (F (a * 8 + i))) i = pw (fun i => uw (F (b * 8 + i))) i → G ab_x0 mX1_compareHashes d 0 0 (fun w' v => w' = [.inr (2, [.ref 101, ov, rv, sv, cv]), cI 64 F] ∧ v = some (.int (cmpN (hv F a) (hv F b)))) 2 [some (.ref 100), some (.int (nI a)), some (.int (nI b)), some (.int (nI i)), z1, z2] [] [.inr (2, [.ref 101, ov, rv, sv, cv]), cI 64 F] := by
    intro i
    induction hm : 8 - i using Nat.strongRecOn generalizing i with
    | ind m ih =>
      subst hm
      intro z1 z2 hi he
      refine G_iload_n dX1_compareHashes_2 rfl ?_
      refine G_bipush (v := 8) dX1_compareHashes_3 (by decide) ?_
      refine G_icmp_geN (tgt := 66) i 8 dX1_compareHashes_5 (by decide) rfl rfl (by omega) (by omega) (fun hge => ?_) (fun hlt => ?_)
      · refine G_iconst (v := 0) dX1_compareHashes_66 (by decide) ?_
        refine G_ret (v := some (.int _)) ⟨dX1_compareHashes_67, _, rfl, rfl⟩ ⟨rfl, ?_⟩
        have e : i = 8 := by omega
        subst e
        have e : hv F a = hv F b := he
        rw [e]
        simp [cmpN]
      refine G_aload_n dX1_compareHashes_8 rfl ?_
      refine G_get (f := 0) kc2 dX1_compareHashes_9 fX1_9 (by decide) rfl rfl ?_
      refine G_iload_n dX1_compareHashes_12 rfl ?_
      refine G_bipush (v := 8) dX1_compareHashes_13 (by decide) ?_
      refine G_imul dX1_compareHashes_15 ?_
      refine G_iload_n dX1_compareHashes_16 rfl ?_
      refine G_iadd dX1_compareHashes_17 ?_
      refine G_ialdN (a * 8 + i) dX1_compareHashes_18 rfl (by rw [show (8 : Int32) = nI 8 from rfl, pk_mul, nI_add]) (by omega) (by omega) ?_
      refine G_ldc dX1_compareHashes_19 kX1_32 ?_
      refine G_ixor dX1_compareHashes_21 ?_
      refine G_istore (L' := [_, _, _, _, _, _]) dX1_compareHashes_22 (Nat.le_of_ble_eq_true rfl) rfl ?_
      refine G_aload_n dX1_compareHashes_24 rfl ?_
      refine G_get (f := 0) kc2 dX1_compareHashes_25 fX1_9 (by decide) rfl rfl ?_
      refine G_iload_n dX1_compareHashes_28 rfl ?_
      refine G_bipush (v := 8) dX1_compareHashes_29 (by decide) ?_
      refine G_imul dX1_compareHashes_31 ?_
      refine G_iload_n dX1_compareHashes_32 rfl ?_
      refine G_iadd dX1_compareHashes_33 ?_
      refine G_ialdN (b * 8 + i) dX1_compareHashes_34 rfl (by rw [show (8 : Int32) = nI 8 from rfl, pk_mul, nI_add]) (by omega) (by omega) ?_
      refine G_ldc dX1_compareHashes_35 kX1_32 ?_
      refine G_ixor dX1_compareHashes_37 ?_
      refine G_istore (L' := [_, _, _, _, _, _]) dX1_compareHashes_38 (Nat.le_of_ble_eq_true rfl) rfl ?_
      refine G_iload dX1_compareHashes_40 rfl ?_
      refine G_iload dX1_compareHashes_42 rfl ?_
      refine G_icmp_eq (tgt := 60) dX1_compareHashes_44 (by decide) (fun h1 => ?_) (fun h1 => ?_)
      · refine G_iinc (L' := [_, _, _, _, _, _]) (v := nI (i + 1)) dX1_compareHashes_60 rfl (nI_succ i).symm rfl ?_
        refine G_goto (tgt := 2) dX1_compareHashes_63 (by decide) ?_
        refine ih (8 - (i + 1)) (by omega) (i + 1) rfl _ _ (by omega) ?_
        show pw _ i * 2 ^ 32 + uw (F (a * 8 + i)) = pw _ i * 2 ^ 32 + uw (F (b * 8 + i))
        rw [he, (xor_eq _ _).mp h1]
      refine G_iload dX1_compareHashes_47 rfl ?_
      refine G_iload dX1_compareHashes_49 rfl ?_
      refine G_icmp_ge (tgt := 58) dX1_compareHashes_51 (by decide) (fun h2 => ?_) (fun h2 => ?_)
      · refine G_iconst (v := 1) dX1_compareHashes_58 (by decide) ?_
        refine G_ret (v := some (.int _)) ⟨dX1_compareHashes_59, _, rfl, rfl⟩ ⟨rfl, ?_⟩
        have h3 : uw (F (b * 8 + i)) < uw (F (a * 8 + i)) := by
          rcases Int32.lt_or_eq_of_le h2 with q | q
          · exact (xor_lt _ _).mp q
          · exact absurd q.symm h1
        have h4 : hv F b < hv F a := by
          have := pw_lt (F := fun i => uw (F (b * 8 + i))) (F' := fun i => uw (F (a * 8 + i))) (i := i + 1) (by show pw _ i * 2 ^ 32 + uw (F (b * 8 + i)) < pw _ i * 2 ^ 32 + uw (F (a * 8 + i)); rw [he]; omega) (8 - (i + 1)) hFb
          rw [show i + 1 + (8 - (i + 1)) = 8 by omega] at this
          exact this
        unfold cmpN
        rw [if_neg (by omega), if_neg (by omega)]
      refine G_iconst (v := (-1)) dX1_compareHashes_54 (by decide) ?_
      refine G_goto (tgt := 59) dX1_compareHashes_55 (by decide) ?_
      refine G_ret (v := some (.int _)) ⟨dX1_compareHashes_59, _, rfl, rfl⟩ ⟨rfl, ?_⟩
      have h3 : uw (F (a * 8 + i)) < uw (F (b * 8 + i)) := (xor_lt _ _).mp (Int32.not_le.mp h2)
      have h4 : hv F a < hv F b := by
        have := pw_lt (F := fun i => uw (F (a * 8 + i))) (F' := fun i => uw (F (b * 8 + i))) (i := i + 1) (by show pw _ i * 2 ^ 32 + uw (F (a * 8 + i)) < pw _ i * 2 ^ 32 + uw (F (b * 8 + i)); rw [he]; omega) (8 - (i + 1)) hFa
        rw [show i + 1 + (8 - (i + 1)) = 8 by omega] at this
        exact this
      unfold cmpN
      rw [if_pos h4]
  exact loop 0 _ _ (by omega) rfl
set_option maxRecDepth 20000 in
theorem con_sizeOf (d g : Nat) (hg : g < 8) (f : Nat → Int32) (hv ov rv cv : Value) : Con mX1_sizeOf d 0 0 [.inr (2, [hv, ov, rv, .ref 101, cv]), cI 9 f] [.ref 100, .int (nI g)] (fun w' v => w' = [.inr (2, [hv, ov, rv, .ref 101, cv]), cI 9 f] ∧ v = some (.int (f (g + 1) - f g))) := by
  refine Con.of (ab_okc rfl (by decide)) (Nat.le_of_ble_eq_true rfl) ?_
  show G ab_x0 mX1_sizeOf d 0 0 _ 0 [some (.ref 100), some (.int (nI g))] [] _
  refine G_aload_n dX1_sizeOf_0 rfl ?_
  refine G_get (f := 3) kc2 dX1_sizeOf_1 fX1_21 (by decide) rfl rfl ?_
  refine G_iload_n dX1_sizeOf_4 rfl ?_
  refine G_iconst (v := 1) dX1_sizeOf_5 (by decide) ?_
  refine G_iadd dX1_sizeOf_6 ?_
  refine G_ialdN (g + 1) dX1_sizeOf_7 rfl (nI_1 g) (by omega) (by omega) ?_
  refine G_aload_n dX1_sizeOf_8 rfl ?_
  refine G_get (f := 3) kc2 dX1_sizeOf_9 fX1_21 (by decide) rfl rfl ?_
  refine G_iload_n dX1_sizeOf_12 rfl ?_
  refine G_ialdN g dX1_sizeOf_13 rfl rfl (by omega) (by omega) ?_
  refine G_isub dX1_sizeOf_14 ?_
  exact G_ret (v := some (.int _)) ⟨dX1_sizeOf_15, _, rfl, rfl⟩ ⟨rfl, rfl⟩
end
section
/-! Groups.arrange. -/
def updN (f : Nat → Nat) (k x : Nat) : Nat → Nat := fun j => if j = k then x else f j
theorem updN_s {f : Nat → Nat} {k x : Nat} : updN f k x k = x := by simp [updN]
theorem updN_n {f : Nat → Nat} {k j x : Nat} (h : j ≠ k) : updN f k x j = f j := by simp [updN, h]
/-- by hashes, then by numbers -/
def LX (H : Nat → Nat) (x y : Nat) : Prop := H x < H y ∨ (H x = H y ∧ x < y)
/-- o: the n blanks in order; rk: their groups; st: where these start; cnt: how many there are -/
def GP (H : Nat → Nat) (n : Nat) (o rk st : Nat → Nat) (cnt : Nat) : Prop :=
  (∀ j, j < n → o j < n) ∧ (∀ i j, i < j → j < n → LX H (o i) (o j)) ∧ (∀ b c, b < n → c < n → (rk b ≤ rk c ↔ H b ≤ H c)) ∧ (∀ b, b < n → rk b < cnt) ∧
  (∀ j, j < n → st (rk (o j)) ≤ j ∧ j < st (rk (o j) + 1)) ∧ (∀ g, g < cnt → st g < st (g + 1) ∧ rk (o (st g)) = g) ∧ st cnt = n ∧ cnt ≤ n ∧ st 0 = 0
theorem cmpN_gt {x y : Nat} : 0 < cmpN x y ↔ y < x := by
  unfold cmpN
  split
  · exact ⟨fun h => absurd h (by decide), fun h => by omega⟩
  · split
    · exact ⟨fun h => absurd h (by decide), fun h => by omega⟩
    · exact ⟨fun h => by omega, fun h => by decide⟩
theorem cmpN_0 {x y : Nat} : cmpN x y = 0 ↔ x = y := by
  unfold cmpN
  split
  · exact ⟨fun h => absurd h (by decide), fun h => by omega⟩
  · split
    · exact ⟨fun h => by omega, fun h => by rfl⟩
    · exact ⟨fun h => absurd h (by decide), fun h => by omega⟩
/-- what the second loop has made of the first k places: p their groups, s where these start, c how many -/
def GL (H : Nat → Nat) (o : Nat → Nat) (k : Nat) (p s : Nat → Nat) (c : Nat) : Prop :=
  (∀ j, j < k → p j < c) ∧ (∀ i j, i ≤ j → j < k → p i ≤ p j ∧ (p i = p j ↔ H (o i) = H (o j))) ∧ (∀ g, g < c → s g < k ∧ p (s g) = g) ∧ (∀ j, j < k → s (p j) ≤ j ∧ (p j + 1 < c → j < s (p j + 1))) ∧ c ≤ k ∧ (0 < k → 0 < c ∧ p (k - 1) + 1 = c ∧ s 0 = 0)
theorem GL_same {H o p s : Nat → Nat} {k c : Nat} (h : GL H o k p s c) (hk : 0 < k) (hs : ∀ i j, i < j → j < k + 1 → LX H (o i) (o j)) (he : H (o (k - 1)) = H (o k)) : GL H o (k + 1) (updN p k (c - 1)) s c := by
  obtain ⟨h1, h2, h3, h4, h5, h6⟩ := h
  obtain ⟨h6, h7, h8⟩ := h6 hk
  refine ⟨fun j hj => ?_, fun i j hij hj => ?_, fun g hg => ?_, fun j hj => ?_, by omega, fun _ => ⟨h6, ?_, h8⟩⟩
  · by_cases e : j = k
    · rw [e, updN_s]; omega
    · rw [updN_n e]; exact h1 j (by omega)
  · by_cases e : j = k
    · subst e
      by_cases e2 : i = j
      · subst e2; exact ⟨Nat.le_refl _, iff_of_true rfl rfl⟩
      · rw [updN_s, updN_n e2]
        have := h2 i (j - 1) (by omega) (by omega)
        rw [← he]
        have h9 : p (j - 1) = c - 1 := by omega
        rw [h9] at this
        exact this
    · rw [updN_n e, updN_n (by omega)]; exact h2 i j hij (by omega)
  · obtain ⟨a, b⟩ := h3 g hg
    exact ⟨by omega, by rw [updN_n (by omega)]; exact b⟩
  · by_cases e : j = k
    · subst e
      rw [updN_s]
      have := (h3 (c - 1) (by omega)).1
      exact ⟨by omega, fun h => by omega⟩
    · rw [updN_n e]; exact h4 j (by omega)
  · rw [show k + 1 - 1 = k by omega, updN_s]; omega
theorem GL_new {H o p s : Nat → Nat} {k c : Nat} (h : GL H o k p s c) (hs : ∀ i j, i < j → j < k + 1 → LX H (o i) (o j)) (he : k = 0 ∨ H (o (k - 1)) ≠ H (o k)) : GL H o (k + 1) (updN p k c) (updN s c k) (c + 1) := by
  obtain ⟨h1, h2, h3, h4, h5, h6⟩ := h
  have mono : ∀ i, i < k → H (o i) ≠ H (o k) := fun i hi hh => by
    rcases he with he | he
    · omega
    · have a := hs (k - 1) k (by omega) (by omega)
      rcases Nat.lt_or_ge i (k - 1) with q | q
      · have b := hs i (k - 1) q (by omega)
        unfold LX at a b
        omega
      · rw [show i = k - 1 by omega] at hh; exact he hh
  refine ⟨fun j hj => ?_, fun i j hij hj => ?_, fun g hg => ?_, fun j hj => ?_, by omega, fun _ => ⟨by omega, by rw [show k + 1 - 1 = k by omega, updN_s], ?_⟩⟩
  · by_cases e : j = k
    · rw [e, updN_s]; omega
    · rw [updN_n e]; have := h1 j (by omega); omega
  · by_cases e : j = k
    · subst e
      by_cases e2 : i = j
      · subst e2; exact ⟨Nat.le_refl _, iff_of_true rfl rfl⟩
      · rw [updN_s, updN_n e2]
        have := h1 i (by omega)
        exact ⟨by omega, ⟨fun h => by omega, fun h => absurd h (mono i (by omega))⟩⟩
    · rw [updN_n e, updN_n (by omega)]; exact h2 i j hij (by omega)
  · by_cases e : g = c
    · rw [e, updN_s, updN_s]; exact ⟨by omega, rfl⟩
    · obtain ⟨a, b⟩ := h3 g (by omega)
      rw [updN_n e]
      exact ⟨by omega, by rw [updN_n (by omega)]; exact b⟩
  · by_cases e : j = k
    · subst e
      rw [updN_s, updN_s]
      exact ⟨Nat.le_refl _, fun h => by omega⟩
    · rw [updN_n e]
      have a := h1 j (by omega)
      obtain ⟨b1, b2⟩ := h4 j (by omega)
      rw [updN_n (by omega)]
      refine ⟨b1, fun h => ?_⟩
      by_cases e2 : p j + 1 = c
      · rw [e2, updN_s]; omega
      · rw [updN_n e2]; exact b2 (by omega)
  · by_cases e : 0 = c
    · rw [← e, updN_s]
      rcases Nat.eq_zero_or_pos k with q | q
      · exact q
      · have := (h6 q).1; omega
    · rw [updN_n e]
      exact (h6 (by omega)).2.2
theorem GL_end {H o p s rk : Nat → Nat} {n c : Nat} (h : GL H o n p s c) (h1 : ∀ j, j < n → o j < n) (hsur : ∀ b, b < n → ∃ j, j < n ∧ o j = b) (hs : ∀ i j, i < j → j < n → LX H (o i) (o j)) (hr : ∀ j, j < n → rk (o j) = p j) (hn : n = 0 → c = 0) : GP H n o rk (updN s c n) c := by
  obtain ⟨g1, g2, g3, g4, g5, g6⟩ := h
  have le : ∀ i j, i < n → j < n → (p i ≤ p j ↔ H (o i) ≤ H (o j)) := fun i j hi hj => by
    have key : ∀ i j, i ≤ j → j < n → H (o i) ≤ H (o j) := fun i j hij hj => by
      rcases Nat.lt_or_ge i j with q | q
      · have := hs i j q hj; unfold LX at this; omega
      · rw [show i = j by omega]; exact Nat.le_refl _
    rcases Nat.le_total i j with q | q
    · exact iff_of_true (g2 i j q hj).1 (key i j q hj)
    · have a := g2 j i q hi
      have b := key j i q hi
      constructor
      · intro h
        have := a.2.mp (by omega)
        omega
      · intro h
        have := a.2.mpr (by omega)
        omega
  refine ⟨h1, hs, fun b d hb hd => ?_, fun b hb => ?_, fun j hj => ?_, fun g hg => ?_, updN_s, g5, ?_⟩
  · obtain ⟨i, hi, rfl⟩ := hsur b hb
    obtain ⟨j, hj, rfl⟩ := hsur d hd
    rw [hr i hi, hr j hj]
    exact le i j hi hj
  · obtain ⟨i, hi, rfl⟩ := hsur b hb
    rw [hr i hi]
    exact g1 i hi
  · rw [hr j hj]
    have a := g1 j hj
    obtain ⟨b1, b2⟩ := g4 j hj
    rw [updN_n (by omega)]
    refine ⟨b1, ?_⟩
    by_cases e : p j + 1 = c
    · rw [e, updN_s]; exact hj
    · rw [updN_n e]; exact b2 (by omega)
  · obtain ⟨a1, a2⟩ := g3 g hg
    rw [updN_n (by omega), hr _ a1]
    refine ⟨?_, a2⟩
    by_cases e : g + 1 = c
    · rw [e, updN_s]; exact a1
    · rw [updN_n e]
      have := (g4 (s g) a1).2
      rw [a2] at this
      exact this (by omega)
  · by_cases e : 0 = c
    · rw [← e, updN_s]
      rcases Nat.eq_zero_or_pos n with q | q
      · exact q
      · have := (g6 q).1; omega
    · rw [updN_n e]
      exact (g6 (by omega)).2.2
/-- n different numbers below n are all of them -/
theorem sur_of_inj : ∀ (n : Nat) (o : Nat → Nat), (∀ j, j < n → o j < n) → (∀ i j, i < j → j < n → o i ≠ o j) → ∀ b, b < n → ∃ j, j < n ∧ o j = b
  | 0, _, _, _, b, hb => by omega
  | n + 1, o, h1, h2, b, hb => by
    by_cases e : o n = b
    · exact ⟨n, by omega, e⟩
    · have hon := h1 n (by omega)
      -- the numbers above o n go down by one
      have := sur_of_inj n (fun j => if o j < o n then o j else o j - 1) (fun j hj => by
        have a := h1 j (by omega)
        have c := h2 j n hj (by omega)
        show (if o j < o n then o j else o j - 1) < n
        split <;> omega) (fun i j hij hj => by
        have a := h2 i j hij (by omega)
        have c1 := h2 i n (by omega) (by omega)
        have c2 := h2 j n (by omega) (by omega)
        show (if o i < o n then o i else o i - 1) ≠ (if o j < o n then o j else o j - 1)
        split <;> split <;> omega) (if b < o n then b else b - 1) (by split <;> omega)
      obtain ⟨j, hj, hjb⟩ := this
      have hjb : (if o j < o n then o j else o j - 1) = if b < o n then b else b - 1 := hjb
      have c2 := h2 j n hj (by omega)
      refine ⟨j, by omega, ?_⟩
      split at hjb <;> split at hjb <;> omega
set_option maxRecDepth 20000 in
theorem con_arrange (d n : Nat) (hn : n ≤ 8) (F f1 f2 f3 : Nat → Int32) (cv : Int32) : Con mX1_arrange (d + 1) 0 0 [.inr (2, [.ref 101, .ref 102, .ref 103, .ref 104, .int cv]), cI 64 F, cI 8 f1, cI 8 f2, cI 9 f3] [.ref 100, .int (nI n)] (fun w' v => v = none ∧ ∃ g1 g2 g3 cnt o rk st, w' = [.inr (2, [.ref 101, .ref 102, .ref 103, .ref 104, .int (nI cnt)]), cI 64 F, cI 8 g1, cI 8 g2, cI 9 g3] ∧ GP (hv F) n o rk st cnt ∧ (∀ j, j < n → g1 j = nI (o j)) ∧ (∀ j, j < n → g2 j = nI (rk j)) ∧ ∀ j, j ≤ cnt → g3 j = nI (st j)) := by
  refine Con.of (ab_okc rfl (by decide)) (Nat.le_of_ble_eq_true rfl) ?_
  show G ab_x0 mX1_arrange (d + 1) 0 0 _ 0 [some (.ref 100), some (.int (nI n)), none, none] [] _
  have second : ∀ (g1 : Nat → Int32) (o : Nat → Nat) (z : Option Value), (∀ j, j < n → g1 j = nI (o j)) → (∀ j, j < n → o j < n) → (∀ i j, i < j → j < n → LX (hv F) (o i) (o j)) →
      ∀ (k c : Nat) (p s : Nat → Nat) (f2 f3 : Nat → Int32), k ≤ n → GL (hv F) o k p s c → (∀ j, j < k → f2 (o j) = nI (p j)) → (∀ j, j < c → f3 j = nI (s j)) → (k = 0 → c = 0) → G ab_x0 mX1_arrange (d + 1) 0 0 (fun w' v => v = none ∧ ∃ g1 g2 g3 cnt o rk st, w' = [.inr (2, [.ref 101, .ref 102, .ref 103, .ref 104, .int (nI cnt)]), cI 64 F, cI 8 g1, cI 8 g2, cI 9 g3] ∧ GP (hv F) n o rk st cnt ∧ (∀ j, j < n → g1 j = nI (o j)) ∧ (∀ j, j < n → g2 j = nI (rk j)) ∧ ∀ j, j ≤ cnt → g3 j = nI (st j)) 69 [some (.ref 100), some (.int (nI n)), some (.int (nI k)), z] [] [.inr (2, [.ref 101, .ref 102, .ref 103, .ref 104, .int (nI c)]), cI 64 F, cI 8 g1, cI 8 f2, cI 9 f3] := by
    intro g1 o z hg ho hs k
    induction hm : n - k using Nat.strongRecOn generalizing k with
    | ind m ih =>
      subst hm
      intro c p s f2 f3 hk hG h2 h3 h0
      have inj : ∀ i j, i < j → j < n → o i ≠ o j := fun i j hij hj he => by
        have := hs i j hij hj
        unfold LX at this
        rw [he] at this
        omega
      have hck : c ≤ k := hG.2.2.2.2.1
      refine G_iload_n dX1_arrange_69 rfl ?_
      refine G_iload_n dX1_arrange_70 rfl ?_
      refine G_icmp_geN (tgt := 142) k n dX1_arrange_71 (by decide) rfl rfl (by omega) (by omega) (fun hge => ?_) (fun hlt => ?_)
      · have e : k = n := by omega
        subst e
        refine G_aload_n dX1_arrange_142 rfl ?_
        refine G_get (f := 3) kc2 dX1_arrange_143 fX1_21 (by decide) rfl rfl ?_
        refine G_aload_n dX1_arrange_146 rfl ?_
        refine G_get (f := 4) kc2 dX1_arrange_147 fX1_24 (by decide) rfl rfl ?_
        refine G_iload_n dX1_arrange_150 rfl ?_
        refine G_iastN (w' := [_, _, _, _, _]) c dX1_arrange_151 rfl rfl (by omega) (by omega) rfl ?_
        have hsur := sur_of_inj k o ho inj
        have hrk : ∃ rk : Nat → Nat, ∀ j, j < k → rk (o j) = p j ∧ f2 (o j) = nI (rk (o j)) := by
          refine ⟨fun b => uw (f2 b), fun j hj => ?_⟩
          have a := hG.1 j hj
          show uw (f2 (o j)) = p j ∧ f2 (o j) = nI (uw (f2 (o j)))
          rw [h2 j hj]
          have e : uw (nI (p j)) = p j := pk_tn (by omega)
          rw [e]
          exact ⟨rfl, rfl⟩
        obtain ⟨rk, hrk⟩ := hrk
        refine G_ret (v := none) ⟨dX1_arrange_152, rfl⟩ ⟨rfl, g1, f2, _, c, o, rk, updN s c k, rfl, GL_end hG ho hsur hs (fun j hj => (hrk j hj).1) h0, hg, fun b hb => ?_, fun j hj => ?_⟩
        · obtain ⟨j, hj, rfl⟩ := hsur b hb
          exact (hrk j hj).2
        · by_cases e : j = c
          · rw [e, pk_us, updN_s]
          · rw [pk_un e, updN_n e]; exact h3 j (by omega)
      have tail : ∀ (c' : Nat) (p' s' : Nat → Nat) (f3' : Nat → Int32), c' ≤ k + 1 → 0 < c' → GL (hv F) o (k + 1) p' s' c' → p' k + 1 = c' → (∀ j, j < k → p' j = p j) → (∀ j, j < c' → f3' j = nI (s' j)) → G ab_x0 mX1_arrange (d + 1) 0 0 (fun w' v => v = none ∧ ∃ g1 g2 g3 cnt o rk st, w' = [.inr (2, [.ref 101, .ref 102, .ref 103, .ref 104, .int (nI cnt)]), cI 64 F, cI 8 g1, cI 8 g2, cI 9 g3] ∧ GP (hv F) n o rk st cnt ∧ (∀ j, j < n → g1 j = nI (o j)) ∧ (∀ j, j < n → g2 j = nI (rk j)) ∧ ∀ j, j ≤ cnt → g3 j = nI (st j)) 119 [some (.ref 100), some (.int (nI n)), some (.int (nI k)), z] [] [.inr (2, [.ref 101, .ref 102, .ref 103, .ref 104, .int (nI c')]), cI 64 F, cI 8 g1, cI 8 f2, cI 9 f3'] := by
        intro c' p' s' f3' hc' hc0 hG' hpk hpj hf3
        refine G_aload_n dX1_arrange_119 rfl ?_
        refine G_get (f := 2) kc2 dX1_arrange_120 fX1_18 (by decide) rfl rfl ?_
        refine G_aload_n dX1_arrange_123 rfl ?_
        refine G_get (f := 1) kc2 dX1_arrange_124 fX1_15 (by decide) rfl rfl ?_
        refine G_iload_n dX1_arrange_127 rfl ?_
        refine G_ialdN k dX1_arrange_128 rfl rfl (by omega) (by omega) ?_
        refine G_aload_n dX1_arrange_129 rfl ?_
        refine G_get (f := 4) kc2 dX1_arrange_130 fX1_24 (by decide) rfl rfl ?_
        refine G_iconst (v := 1) dX1_arrange_133 (by decide) ?_
        refine G_isub dX1_arrange_134 ?_
        refine G_topi (y := nI (c' - 1)) (pk_sub (a := c') (b := 1) (by omega)) ?_
        have hok := ho k hlt
        refine G_iastN (w' := [_, _, _, _, _]) (o k) dX1_arrange_135 rfl (hg k hlt) (by omega) (by omega) rfl ?_
        refine G_iinc (L' := [_, _, _, _]) (v := nI (k + 1)) dX1_arrange_136 rfl (nI_succ k).symm rfl ?_
        refine G_goto (tgt := 69) dX1_arrange_139 (by decide) ?_
        refine ih (n - (k + 1)) (by omega) (k + 1) rfl c' p' s' _ f3' (by omega) hG' (fun j hj => ?_) hf3 (fun h => by omega)
        by_cases e : j = k
        · rw [e, pk_us, show c' - 1 = p' k by omega]
        · rw [pk_un (inj j k (by omega) hlt), hpj j (by omega)]
          exact h2 j (by omega)
      have fresh : (k = 0 ∨ hv F (o (k - 1)) ≠ hv F (o k)) → G ab_x0 mX1_arrange (d + 1) 0 0 (fun w' v => v = none ∧ ∃ g1 g2 g3 cnt o rk st, w' = [.inr (2, [.ref 101, .ref 102, .ref 103, .ref 104, .int (nI cnt)]), cI 64 F, cI 8 g1, cI 8 g2, cI 9 g3] ∧ GP (hv F) n o rk st cnt ∧ (∀ j, j < n → g1 j = nI (o j)) ∧ (∀ j, j < n → g2 j = nI (rk j)) ∧ ∀ j, j ≤ cnt → g3 j = nI (st j)) 99 [some (.ref 100), some (.int (nI n)), some (.int (nI k)), z] [] [.inr (2, [.ref 101, .ref 102, .ref 103, .ref 104, .int (nI c)]), cI 64 F, cI 8 g1, cI 8 f2, cI 9 f3] := by
        intro he
        refine G_aload_n dX1_arrange_99 rfl ?_
        refine G_get (f := 3) kc2 dX1_arrange_100 fX1_21 (by decide) rfl rfl ?_
        refine G_aload_n dX1_arrange_103 rfl ?_
        refine G_get (f := 4) kc2 dX1_arrange_104 fX1_24 (by decide) rfl rfl ?_
        refine G_iload_n dX1_arrange_107 rfl ?_
        refine G_iastN (w' := [_, _, _, _, _]) c dX1_arrange_108 rfl rfl (by omega) (by omega) rfl ?_
        refine G_aload_n dX1_arrange_109 rfl ?_
        refine G_dup dX1_arrange_110 rfl ?_
        refine G_get (f := 4) kc2 dX1_arrange_111 fX1_24 (by decide) rfl rfl ?_
        refine G_iconst (v := 1) dX1_arrange_114 (by decide) ?_
        refine G_iadd dX1_arrange_115 ?_
        refine G_topi (nI_1 c) ?_
        refine G_put (w' := [_, _, _, _, _]) (f := 4) kc2 dX1_arrange_116 fX1_24 (by decide) rfl rfl rfl rfl (Nat.le_of_ble_eq_true rfl) rfl ?_
        refine tail (c + 1) (updN p k c) (updN s c k) _ (by omega) (by omega) (GL_new hG (fun i j h1 h2 => hs i j h1 (by omega)) he) (by rw [updN_s]) (fun j hj => updN_n (by omega)) (fun j hj => ?_)
        by_cases e : j = c
        · rw [e, pk_us, updN_s]
        · rw [pk_un e, updN_n e]; exact h3 j (by omega)
      refine G_iload_n dX1_arrange_74 rfl ?_
      refine G_if_eq (tgt := 99) dX1_arrange_75 (by decide) (fun h => ?_) (fun h => ?_)
      · refine fresh (Or.inl ?_)
        rcases Nat.eq_zero_or_pos k with q | q
        · exact q
        · exact absurd h (nI_ne0 q (by omega))
      have hk0 : 0 < k := by
        rcases Nat.eq_zero_or_pos k with q | q
        · subst q; exact absurd nI_0 h
        · exact q
      refine G_aload_n dX1_arrange_78 rfl ?_
      refine G_aload_n dX1_arrange_79 rfl ?_
      refine G_get (f := 1) kc2 dX1_arrange_80 fX1_15 (by decide) rfl rfl ?_
      refine G_iload_n dX1_arrange_83 rfl ?_
      refine G_iconst (v := 1) dX1_arrange_84 (by decide) ?_
      refine G_isub dX1_arrange_85 ?_
      refine G_ialdN (k - 1) dX1_arrange_86 rfl (pk_sub (a := k) (b := 1) (by omega)) (by omega) (by omega) ?_
      refine G_aload_n dX1_arrange_87 rfl ?_
      refine G_get (f := 1) kc2 dX1_arrange_88 fX1_15 (by decide) rfl rfl ?_
      refine G_iload_n dX1_arrange_91 rfl ?_
      refine G_ialdN k dX1_arrange_92 rfl rfl (by omega) (by omega) ?_
      rw [hg k hlt, hg (k - 1) (by omega)]
      have b1 := ho k hlt
      have b2 := ho (k - 1) (by omega)
      refine G_V (is := [0, 1]) (fo := [102, 103, 104]) (as := [.ref 100, .int (nI (o (k - 1))), .int (nI (o k))]) (as' := [.int (nI (o (k - 1))), .int (nI (o k))]) (st := []) (k := 0) (n := 0) cX1_arrange_93 (con_compareHashes d (o (k - 1)) (o k) (by omega) (by omega) F (.ref 4) (.ref 5) (.ref 6) (.int (nI c))) ab_pfx rfl (by decide) rfl rfl rfl rfl rfl rfl (Nat.le_of_ble_eq_true rfl) dX1_arrange_93 (fun w' v h => by rw [h.1]) (fun w2 v2 hq => ?_)
      obtain ⟨rfl, rfl⟩ := hq
      refine G_if_eq (tgt := 119) dX1_arrange_96 (by decide) (fun h => ?_) (fun h => ?_)
      · have he := cmpN_0.mp h
        have hG' := GL_same hG hk0 (fun i j h1 h2 => hs i j h1 (by omega)) he
        have hc0 := (hG.2.2.2.2.2 hk0).1
        exact tail c (updN p k (c - 1)) s f3 (by omega) hc0 hG' (by rw [updN_s]; omega) (fun j hj => updN_n (by omega)) h3
      · exact fresh (Or.inr (fun he => h (cmpN_0.mpr he)))
  refine G_iconst (v := 0) dX1_arrange_0 (by decide) ?_
  refine G_istore_n (L' := [_, _, _, _]) dX1_arrange_1 (Nat.le_of_ble_eq_true rfl) rfl ?_
  have first : ∀ (b : Nat) (cur : Nat → Int32) (o : Nat → Nat) (z : Option Value), b ≤ n → (∀ j, j < b → cur j = nI (o j)) → (∀ j, j < b → o j < b) → (∀ i j, i < j → j < b → LX (hv F) (o i) (o j)) → G ab_x0 mX1_arrange (d + 1) 0 0 (fun w' v => v = none ∧ ∃ g1 g2 g3 cnt o rk st, w' = [.inr (2, [.ref 101, .ref 102, .ref 103, .ref 104, .int (nI cnt)]), cI 64 F, cI 8 g1, cI 8 g2, cI 9 g3] ∧ GP (hv F) n o rk st cnt ∧ (∀ j, j < n → g1 j = nI (o j)) ∧ (∀ j, j < n → g2 j = nI (rk j)) ∧ ∀ j, j ≤ cnt → g3 j = nI (st j)) 2 [some (.ref 100), some (.int (nI n)), some (.int (nI b)), z] [] [.inr (2, [.ref 101, .ref 102, .ref 103, .ref 104, .int cv]), cI 64 F, cI 8 cur, cI 8 f2, cI 9 f3] := by
    intro b
    induction hm : n - b using Nat.strongRecOn generalizing b with
    | ind m ih =>
      subst hm
      intro cur o z hb h1 h2 h3
      refine G_iload_n dX1_arrange_2 rfl ?_
      refine G_iload_n dX1_arrange_3 rfl ?_
      refine G_icmp_geN (tgt := 62) b n dX1_arrange_4 (by decide) rfl rfl (by omega) (by omega) (fun hge => ?_) (fun hlt => ?_)
      · have e : b = n := by omega
        subst e
        refine G_aload_n dX1_arrange_62 rfl ?_
        refine G_iconst (v := 0) dX1_arrange_63 (by decide) ?_
        refine G_put (w' := [_, _, _, _, _]) (f := 4) kc2 dX1_arrange_64 fX1_24 (by decide) rfl rfl rfl rfl (Nat.le_of_ble_eq_true rfl) rfl ?_
        refine G_iconst (v := 0) dX1_arrange_67 (by decide) ?_
        refine G_istore_n (L' := [_, _, _, _]) dX1_arrange_68 (Nat.le_of_ble_eq_true rfl) rfl ?_
        exact second cur o _ h1 h2 h3 0 0 (fun _ => 0) (fun _ => 0) f2 f3 (by omega) ⟨fun j hj => by omega, fun i j hi hj => by omega, fun g hg => by omega, fun j hj => by omega, by omega, fun h => by omega⟩ (fun j hj => by omega) (fun j hj => by omega) (fun _ => rfl)
      refine G_iload_n dX1_arrange_7 rfl ?_
      refine G_istore_n (L' := [_, _, _, _]) dX1_arrange_8 (Nat.le_of_ble_eq_true rfl) rfl ?_
      have inner : ∀ (a : Nat) (cur : Nat → Int32) (p : Nat → Nat), a ≤ b → (∀ j, j ≤ b → j ≠ a → cur j = nI (p j) ∧ p j < b) → (∀ i j, i < j → j ≤ b → i ≠ a → j ≠ a → LX (hv F) (p i) (p j)) → (∀ j, a < j → j ≤ b → hv F b < hv F (p j)) → G ab_x0 mX1_arrange (d + 1) 0 0 (fun w' v => v = none ∧ ∃ g1 g2 g3 cnt o rk st, w' = [.inr (2, [.ref 101, .ref 102, .ref 103, .ref 104, .int (nI cnt)]), cI 64 F, cI 8 g1, cI 8 g2, cI 9 g3] ∧ GP (hv F) n o rk st cnt ∧ (∀ j, j < n → g1 j = nI (o j)) ∧ (∀ j, j < n → g2 j = nI (rk j)) ∧ ∀ j, j ≤ cnt → g3 j = nI (st j)) 9 [some (.ref 100), some (.int (nI n)), some (.int (nI b)), some (.int (nI a))] [] [.inr (2, [.ref 101, .ref 102, .ref 103, .ref 104, .int cv]), cI 64 F, cI 8 cur, cI 8 f2, cI 9 f3] := by
        intro a
        induction a with
        | zero =>
          intro cur p ha g1 g2 g3
          refine G_iload_n dX1_arrange_9 rfl ?_
          refine G_if_le (tgt := 49) dX1_arrange_10 (by decide) (fun _ => ?_) (fun h => absurd (by decide) h)
          refine G_aload_n dX1_arrange_49 rfl ?_
          refine G_get (f := 1) kc2 dX1_arrange_50 fX1_15 (by decide) rfl rfl ?_
          refine G_iload_n dX1_arrange_53 rfl ?_
          refine G_iload_n dX1_arrange_54 rfl ?_
          refine G_iastN (w' := [_, _, _, _, _]) 0 dX1_arrange_55 rfl rfl (by omega) (by omega) rfl ?_
          refine G_iinc (L' := [_, _, _, _]) (v := nI (b + 1)) dX1_arrange_56 rfl (nI_succ b).symm rfl ?_
          refine G_goto (tgt := 2) dX1_arrange_59 (by decide) ?_
          refine ih (n - (b + 1)) (by omega) (b + 1) rfl _ (updN p 0 b) _ (by omega) (fun j hj => ?_) (fun j hj => ?_) (fun i j hij hj => ?_)
          · by_cases e : j = 0
            · rw [e, pk_us, updN_s]
            · rw [pk_un e, updN_n e]; exact (g1 j (by omega) e).1
          · by_cases e : j = 0
            · rw [e, updN_s]; omega
            · rw [updN_n e]; have := (g1 j (by omega) e).2; omega
          · rw [updN_n (j := j) (by omega)]
            by_cases e : i = 0
            · rw [e, updN_s]; exact Or.inl (g3 j (by omega) (by omega))
            · rw [updN_n e]; exact g2 i j hij (by omega) e (by omega)
        | succ a iha =>
          intro cur p ha g1 g2 g3
          obtain ⟨e1, e2⟩ := g1 a (by omega) (by omega)
          refine G_iload_n dX1_arrange_9 rfl ?_
          refine G_if_le (tgt := 49) dX1_arrange_10 (by decide) (fun h => absurd h (nI_nle (by omega) (by omega))) (fun _ => ?_)
          refine G_aload_n dX1_arrange_13 rfl ?_
          refine G_aload_n dX1_arrange_14 rfl ?_
          refine G_get (f := 1) kc2 dX1_arrange_15 fX1_15 (by decide) rfl rfl ?_
          refine G_iload_n dX1_arrange_18 rfl ?_
          refine G_iconst (v := 1) dX1_arrange_19 (by decide) ?_
          refine G_isub dX1_arrange_20 ?_
          refine G_ialdN a dX1_arrange_21 rfl (nI_pred a) (by omega) (by omega) ?_
          rw [e1]
          refine G_iload_n dX1_arrange_22 rfl ?_
          refine G_V (is := [0, 1]) (fo := [102, 103, 104]) (as := [.ref 100, .int (nI (p a)), .int (nI (b))]) (as' := [.int (nI (p a)), .int (nI (b))]) (st := []) (k := 0) (n := 0) cX1_arrange_23 (con_compareHashes d (p a) (b) (by omega) (by omega) F (.ref 4) (.ref 5) (.ref 6) (.int cv)) ab_pfx rfl (by decide) rfl rfl rfl rfl rfl rfl (Nat.le_of_ble_eq_true rfl) dX1_arrange_23 (fun w' v h => by rw [h.1]) (fun w2 v2 hq => ?_)
          obtain ⟨rfl, rfl⟩ := hq
          refine G_if_le (tgt := 49) dX1_arrange_26 (by decide) (fun h => ?_) (fun h => ?_)
          · have hle : hv F (p a) ≤ hv F b := Nat.not_lt.mp (fun q => Int32.not_lt.mpr h (cmpN_gt.mpr q))
            refine G_aload_n dX1_arrange_49 rfl ?_
            refine G_get (f := 1) kc2 dX1_arrange_50 fX1_15 (by decide) rfl rfl ?_
            refine G_iload_n dX1_arrange_53 rfl ?_
            refine G_iload_n dX1_arrange_54 rfl ?_
            refine G_iastN (w' := [_, _, _, _, _]) (a + 1) dX1_arrange_55 rfl rfl (by omega) (by omega) rfl ?_
            refine G_iinc (L' := [_, _, _, _]) (v := nI (b + 1)) dX1_arrange_56 rfl (nI_succ b).symm rfl ?_
            refine G_goto (tgt := 2) dX1_arrange_59 (by decide) ?_
            refine ih (n - (b + 1)) (by omega) (b + 1) rfl _ (updN p (a + 1) b) _ (by omega) (fun j hj => ?_) (fun j hj => ?_) (fun i j hij hj => ?_)
            · by_cases e : j = a + 1
              · rw [e, pk_us, updN_s]
              · rw [pk_un e, updN_n e]; exact (g1 j (by omega) e).1
            · by_cases e : j = a + 1
              · rw [e, updN_s]; omega
              · rw [updN_n e]; have := (g1 j (by omega) e).2; omega
            · by_cases e : j = a + 1
              · subst e
                rw [updN_s, updN_n (by omega)]
                have hpi := (g1 i (by omega) (by omega)).2
                rcases Nat.lt_or_ge i a with q | q
                · have := g2 i a q (by omega) (by omega) (by omega)
                  unfold LX at *
                  omega
                · rw [show i = a by omega]
                  unfold LX
                  omega
              · rw [updN_n e]
                by_cases e3 : i = a + 1
                · rw [e3, updN_s]; exact Or.inl (g3 j (by omega) (by omega))
                · rw [updN_n e3]; exact g2 i j hij (by omega) e3 e
          · have hgt : hv F b < hv F (p a) := cmpN_gt.mp (Int32.not_le.mp h)
            refine G_aload_n dX1_arrange_29 rfl ?_
            refine G_get (f := 1) kc2 dX1_arrange_30 fX1_15 (by decide) rfl rfl ?_
            refine G_iload_n dX1_arrange_33 rfl ?_
            refine G_aload_n dX1_arrange_34 rfl ?_
            refine G_get (f := 1) kc2 dX1_arrange_35 fX1_15 (by decide) rfl rfl ?_
            refine G_iload_n dX1_arrange_38 rfl ?_
            refine G_iconst (v := 1) dX1_arrange_39 (by decide) ?_
            refine G_isub dX1_arrange_40 ?_
            refine G_ialdN a dX1_arrange_41 rfl (nI_pred a) (by omega) (by omega) ?_
            refine G_iastN (w' := [_, _, _, _, _]) (a + 1) dX1_arrange_42 rfl rfl (by omega) (by omega) rfl ?_
            refine G_iinc (L' := [_, _, _, _]) (v := nI a) dX1_arrange_43 rfl (pk_m1 a) rfl ?_
            refine G_goto (tgt := 9) dX1_arrange_46 (by decide) ?_
            refine iha _ (updN p (a + 1) (p a)) (by omega) (fun j hj hja => ?_) (fun i j hij hj hi2 hj2 => ?_) (fun j hj1 hj2 => ?_)
            · by_cases e : j = a + 1
              · rw [e, pk_us, updN_s]; exact ⟨e1, e2⟩
              · rw [pk_un e, updN_n e]; exact g1 j hj e
            · by_cases e : j = a + 1
              · subst e
                rw [updN_s, updN_n (by omega)]; exact g2 i a (by omega) (by omega) (by omega) (by omega)
              · rw [updN_n e]
                by_cases e3 : i = a + 1
                · rw [e3, updN_s]; exact g2 a j (by omega) hj (by omega) e
                · rw [updN_n e3]; exact g2 i j hij hj e3 e
            · by_cases e : j = a + 1
              · rw [e, updN_s]; exact hgt
              · rw [updN_n e]; exact g3 j (by omega) hj2
      exact inner b cur o (Nat.le_refl _) (fun j hj hjb => ⟨h1 j (by omega), h2 j (by omega)⟩) (fun i j hij hj hi2 hj2 => h3 i j hij (by omega)) (fun j hj1 hj2 => by omega)
  exact first 0 f1 (fun _ => 0) _ (by omega) (fun j hj => by omega) (fun j hj => by omega) (fun i j _ hj => by omega)
end
section
/-! Sha.mix: the schedule and the sixty-four steps, in the class's own words. -/
def us (x k : Int32) : Int32 := (x.toUInt32 >>> (k.toUInt32 &&& Int32.toUInt32 31)).toInt32
def ls (x k : Int32) : Int32 := x <<< (k &&& 31)
def rr (x a b : Int32) : Int32 := us x a ||| ls x b
def q0 (x : Int32) : Int32 := rr x 7 25 ^^^ rr x 18 14 ^^^ us x 3
def q1 (x : Int32) : Int32 := rr x 17 15 ^^^ rr x 19 13 ^^^ us x 10
def p1 (x : Int32) : Int32 := rr x 6 26 ^^^ rr x 11 21 ^^^ rr x 25 7
def p0 (x : Int32) : Int32 := rr x 2 30 ^^^ rr x 13 19 ^^^ rr x 22 10
def cho (e f g : Int32) : Int32 := (e &&& f) ^^^ ((e ^^^ (-1)) &&& g)
def maj (a b c : Int32) : Int32 := (a &&& b) ^^^ (a &&& c) ^^^ (b &&& c)
def sc1 (g : Nat → Int32) (i : Nat) : Int32 := g (i - 16) + q0 (g (i - 15)) + g (i - 7) + q1 (g (i - 2))
def scN : Nat → (Nat → Int32) → Nat → Int32
  | 0, g => g
  | n + 1, g => upd (scN n g) (16 + n) (sc1 (scN n g) (16 + n))
abbrev S8 : Type := Int32 × Int32 × Int32 × Int32 × Int32 × Int32 × Int32 × Int32
def rd (k w : Int32) (s : S8) : S8 := match s with
  | (a, b, c, d, e, f, g, h) => (h + p1 e + cho e f g + k + w + (p0 a + maj a b c), a, b, c, d + (h + p1 e + cho e f g + k + w), e, f, g)
def rdN : Nat → (Nat → Int32) → S8 → S8
  | 0, _, s => s
  | n + 1, w, s => rd (ab_l ab_steps n) (w n) (rdN n w s)
def ini (st : Nat → Int32) : S8 := (st 0, st 1, st 2, st 3, st 4, st 5, st 6, st 7)
def add8 (st : Nat → Int32) (s : S8) : Nat → Int32 := match s with
  | (a, b, c, d, e, f, g, h) =>
    let t0 := upd st 0 (st 0 + a)
    let t1 := upd t0 1 (t0 1 + b)
    let t2 := upd t1 2 (t1 2 + c)
    let t3 := upd t2 3 (t2 3 + d)
    let t4 := upd t3 4 (t3 4 + e)
    let t5 := upd t4 5 (t4 5 + f)
    let t6 := upd t5 6 (t5 6 + g)
    upd t6 7 (t6 7 + h)
def mixS (st ws : Nat → Int32) : Nat → Int32 := add8 st (rdN 64 (scN 48 ws) (ini st))
set_option maxRecDepth 20000 in
set_option maxHeartbeats 4000000 in
theorem con_mix (d : Nat) (st ws : Nat → Int32) (fv lv : Value) : Con mX6_mix d 0 0 [.inr (7, [.ref 101, .ref 102, fv, lv]), cI 8 st, cI 64 ws] [.ref 100] (fun w' v => v = none ∧ w' = [.inr (7, [.ref 101, .ref 102, fv, lv]), cI 8 (mixS st ws), cI 64 (scN 48 ws)]) := by
  refine Con.of (ab_okc rfl (by decide)) (Nat.le_of_ble_eq_true rfl) ?_
  show G ab_x0 mX6_mix d 0 0 _ 0 [some (.ref 100), none, none, none, none, none, none, none, none, none, none, none, none] [] _
  have rounds : ∀ (i : Nat) (a b c e f g h j : Int32) (z10 z11 z12 : Option Value), i ≤ 64 → rdN i (scN 48 ws) (ini st) = (a, b, c, e, f, g, h, j) → G ab_x0 mX6_mix d 0 0 (fun w' v => v = none ∧ w' = [.inr (7, [.ref 101, .ref 102, fv, lv]), cI 8 (mixS st ws), cI 64 (scN 48 ws)]) 182 [some (.ref 100), some (.int a), some (.int b), some (.int c), some (.int e), some (.int f), some (.int g), some (.int h), some (.int j), some (.int (nI i)), z10, z11, z12] [] [.inr (7, [.ref 101, .ref 102, fv, lv]), cI 8 st, cI 64 (scN 48 ws)] := by
    intro i
    induction hm : 64 - i using Nat.strongRecOn generalizing i with
    | ind m ih =>
      subst hm
      intro a b c e f g h j z10 z11 z12 hi hr
      refine G_iload dX6_mix_182 rfl ?_
      refine G_bipush (v := 64) dX6_mix_184 (by decide) ?_
      refine G_icmp_geN (tgt := 346) i 64 dX6_mix_186 (by decide) rfl rfl (by omega) (by omega) (fun hge => ?_) (fun hlt => ?_)
      · have e64 : i = 64 := by omega
        subst e64
        refine G_aload_n dX6_mix_346 rfl ?_
        refine G_get (f := 0) kc7 dX6_mix_347 fX6_9 (by decide) rfl rfl ?_
        refine G_iconst (v := 0) dX6_mix_350 (by decide) ?_
        refine G_dup2 dX6_mix_351 rfl rfl ?_
        refine G_ialdN 0 dX6_mix_352 rfl rfl (by decide) (by decide) ?_
        refine G_iload_n dX6_mix_353 rfl ?_
        refine G_iadd dX6_mix_354 ?_
        refine G_iastN (w' := [_, _, _]) 0 dX6_mix_355 rfl rfl (by decide) (by decide) rfl ?_
        refine G_aload_n dX6_mix_356 rfl ?_
        refine G_get (f := 0) kc7 dX6_mix_357 fX6_9 (by decide) rfl rfl ?_
        refine G_iconst (v := 1) dX6_mix_360 (by decide) ?_
        refine G_dup2 dX6_mix_361 rfl rfl ?_
        refine G_ialdN 1 dX6_mix_362 rfl rfl (by decide) (by decide) ?_
        refine G_iload_n dX6_mix_363 rfl ?_
        refine G_iadd dX6_mix_364 ?_
        refine G_iastN (w' := [_, _, _]) 1 dX6_mix_365 rfl rfl (by decide) (by decide) rfl ?_
        refine G_aload_n dX6_mix_366 rfl ?_
        refine G_get (f := 0) kc7 dX6_mix_367 fX6_9 (by decide) rfl rfl ?_
        refine G_iconst (v := 2) dX6_mix_370 (by decide) ?_
        refine G_dup2 dX6_mix_371 rfl rfl ?_
        refine G_ialdN 2 dX6_mix_372 rfl rfl (by decide) (by decide) ?_
        refine G_iload_n dX6_mix_373 rfl ?_
        refine G_iadd dX6_mix_374 ?_
        refine G_iastN (w' := [_, _, _]) 2 dX6_mix_375 rfl rfl (by decide) (by decide) rfl ?_
        refine G_aload_n dX6_mix_376 rfl ?_
        refine G_get (f := 0) kc7 dX6_mix_377 fX6_9 (by decide) rfl rfl ?_
        refine G_iconst (v := 3) dX6_mix_380 (by decide) ?_
        refine G_dup2 dX6_mix_381 rfl rfl ?_
        refine G_ialdN 3 dX6_mix_382 rfl rfl (by decide) (by decide) ?_
        refine G_iload dX6_mix_383 rfl ?_
        refine G_iadd dX6_mix_385 ?_
        refine G_iastN (w' := [_, _, _]) 3 dX6_mix_386 rfl rfl (by decide) (by decide) rfl ?_
        refine G_aload_n dX6_mix_387 rfl ?_
        refine G_get (f := 0) kc7 dX6_mix_388 fX6_9 (by decide) rfl rfl ?_
        refine G_iconst (v := 4) dX6_mix_391 (by decide) ?_
        refine G_dup2 dX6_mix_392 rfl rfl ?_
        refine G_ialdN 4 dX6_mix_393 rfl rfl (by decide) (by decide) ?_
        refine G_iload dX6_mix_394 rfl ?_
        refine G_iadd dX6_mix_396 ?_
        refine G_iastN (w' := [_, _, _]) 4 dX6_mix_397 rfl rfl (by decide) (by decide) rfl ?_
        refine G_aload_n dX6_mix_398 rfl ?_
        refine G_get (f := 0) kc7 dX6_mix_399 fX6_9 (by decide) rfl rfl ?_
        refine G_iconst (v := 5) dX6_mix_402 (by decide) ?_
        refine G_dup2 dX6_mix_403 rfl rfl ?_
        refine G_ialdN 5 dX6_mix_404 rfl rfl (by decide) (by decide) ?_
        refine G_iload dX6_mix_405 rfl ?_
        refine G_iadd dX6_mix_407 ?_
        refine G_iastN (w' := [_, _, _]) 5 dX6_mix_408 rfl rfl (by decide) (by decide) rfl ?_
        refine G_aload_n dX6_mix_409 rfl ?_
        refine G_get (f := 0) kc7 dX6_mix_410 fX6_9 (by decide) rfl rfl ?_
        refine G_bipush (v := 6) dX6_mix_413 (by decide) ?_
        refine G_dup2 dX6_mix_415 rfl rfl ?_
        refine G_ialdN 6 dX6_mix_416 rfl rfl (by decide) (by decide) ?_
        refine G_iload dX6_mix_417 rfl ?_
        refine G_iadd dX6_mix_419 ?_
        refine G_iastN (w' := [_, _, _]) 6 dX6_mix_420 rfl rfl (by decide) (by decide) rfl ?_
        refine G_aload_n dX6_mix_421 rfl ?_
        refine G_get (f := 0) kc7 dX6_mix_422 fX6_9 (by decide) rfl rfl ?_
        refine G_bipush (v := 7) dX6_mix_425 (by decide) ?_
        refine G_dup2 dX6_mix_427 rfl rfl ?_
        refine G_ialdN 7 dX6_mix_428 rfl rfl (by decide) (by decide) ?_
        refine G_iload dX6_mix_429 rfl ?_
        refine G_iadd dX6_mix_431 ?_
        refine G_iastN (w' := [_, _, _]) 7 dX6_mix_432 rfl rfl (by decide) (by decide) rfl ?_
        refine G_ret (v := none) ⟨dX6_mix_433, rfl⟩ ⟨rfl, ?_⟩
        have e9 : mixS st ws = add8 st (a, b, c, e, f, g, h, j) := by
          unfold mixS
          rw [hr]
        rw [e9]
        rfl
      refine G_iload dX6_mix_189 rfl ?_
      refine G_bipush (v := 6) dX6_mix_191 (by decide) ?_
      refine G_iushr dX6_mix_193 ?_
      refine G_iload dX6_mix_194 rfl ?_
      refine G_bipush (v := 26) dX6_mix_196 (by decide) ?_
      refine G_ishl dX6_mix_198 ?_
      refine G_ior dX6_mix_199 ?_
      refine G_iload dX6_mix_200 rfl ?_
      refine G_bipush (v := 11) dX6_mix_202 (by decide) ?_
      refine G_iushr dX6_mix_204 ?_
      refine G_iload dX6_mix_205 rfl ?_
      refine G_bipush (v := 21) dX6_mix_207 (by decide) ?_
      refine G_ishl dX6_mix_209 ?_
      refine G_ior dX6_mix_210 ?_
      refine G_ixor dX6_mix_211 ?_
      refine G_iload dX6_mix_212 rfl ?_
      refine G_bipush (v := 25) dX6_mix_214 (by decide) ?_
      refine G_iushr dX6_mix_216 ?_
      refine G_iload dX6_mix_217 rfl ?_
      refine G_bipush (v := 7) dX6_mix_219 (by decide) ?_
      refine G_ishl dX6_mix_221 ?_
      refine G_ior dX6_mix_222 ?_
      refine G_ixor dX6_mix_223 ?_
      refine G_istore (L' := [_, _, _, _, _, _, _, _, _, _, _, _, _]) dX6_mix_224 (Nat.le_of_ble_eq_true rfl) rfl ?_
      refine G_iload dX6_mix_226 rfl ?_
      refine G_iload dX6_mix_228 rfl ?_
      refine G_iadd dX6_mix_230 ?_
      refine G_iload dX6_mix_231 rfl ?_
      refine G_iload dX6_mix_233 rfl ?_
      refine G_iand dX6_mix_235 ?_
      refine G_iload dX6_mix_236 rfl ?_
      refine G_iconst (v := (-1)) dX6_mix_238 (by decide) ?_
      refine G_ixor dX6_mix_239 ?_
      refine G_iload dX6_mix_240 rfl ?_
      refine G_iand dX6_mix_242 ?_
      refine G_ixor dX6_mix_243 ?_
      refine G_iadd dX6_mix_244 ?_
      refine G_gets (j := 2) dX6_mix_245 rfl fX6_41 ?_
      refine G_iload dX6_mix_248 rfl ?_
      refine G_xaldN (N := 64) (f := ab_l ab_steps) i dX6_mix_250 rfl rfl (by omega) (by omega) ?_
      refine G_iadd dX6_mix_251 ?_
      refine G_aload_n dX6_mix_252 rfl ?_
      refine G_get (f := 1) kc7 dX6_mix_253 fX6_15 (by decide) rfl rfl ?_
      refine G_iload dX6_mix_256 rfl ?_
      refine G_ialdN i dX6_mix_258 rfl rfl (by omega) (by omega) ?_
      refine G_iadd dX6_mix_259 ?_
      refine G_istore (L' := [_, _, _, _, _, _, _, _, _, _, _, _, _]) dX6_mix_260 (Nat.le_of_ble_eq_true rfl) rfl ?_
      refine G_iload_n dX6_mix_262 rfl ?_
      refine G_iconst (v := 2) dX6_mix_263 (by decide) ?_
      refine G_iushr dX6_mix_264 ?_
      refine G_iload_n dX6_mix_265 rfl ?_
      refine G_bipush (v := 30) dX6_mix_266 (by decide) ?_
      refine G_ishl dX6_mix_268 ?_
      refine G_ior dX6_mix_269 ?_
      refine G_iload_n dX6_mix_270 rfl ?_
      refine G_bipush (v := 13) dX6_mix_271 (by decide) ?_
      refine G_iushr dX6_mix_273 ?_
      refine G_iload_n dX6_mix_274 rfl ?_
      refine G_bipush (v := 19) dX6_mix_275 (by decide) ?_
      refine G_ishl dX6_mix_277 ?_
      refine G_ior dX6_mix_278 ?_
      refine G_ixor dX6_mix_279 ?_
      refine G_iload_n dX6_mix_280 rfl ?_
      refine G_bipush (v := 22) dX6_mix_281 (by decide) ?_
      refine G_iushr dX6_mix_283 ?_
      refine G_iload_n dX6_mix_284 rfl ?_
      refine G_bipush (v := 10) dX6_mix_285 (by decide) ?_
      refine G_ishl dX6_mix_287 ?_
      refine G_ior dX6_mix_288 ?_
      refine G_ixor dX6_mix_289 ?_
      refine G_istore (L' := [_, _, _, _, _, _, _, _, _, _, _, _, _]) dX6_mix_290 (Nat.le_of_ble_eq_true rfl) rfl ?_
      refine G_iload dX6_mix_292 rfl ?_
      refine G_iload_n dX6_mix_294 rfl ?_
      refine G_iload_n dX6_mix_295 rfl ?_
      refine G_iand dX6_mix_296 ?_
      refine G_iload_n dX6_mix_297 rfl ?_
      refine G_iload_n dX6_mix_298 rfl ?_
      refine G_iand dX6_mix_299 ?_
      refine G_ixor dX6_mix_300 ?_
      refine G_iload_n dX6_mix_301 rfl ?_
      refine G_iload_n dX6_mix_302 rfl ?_
      refine G_iand dX6_mix_303 ?_
      refine G_ixor dX6_mix_304 ?_
      refine G_iadd dX6_mix_305 ?_
      refine G_istore (L' := [_, _, _, _, _, _, _, _, _, _, _, _, _]) dX6_mix_306 (Nat.le_of_ble_eq_true rfl) rfl ?_
      refine G_iload dX6_mix_308 rfl ?_
      refine G_istore (L' := [_, _, _, _, _, _, _, _, _, _, _, _, _]) dX6_mix_310 (Nat.le_of_ble_eq_true rfl) rfl ?_
      refine G_iload dX6_mix_312 rfl ?_
      refine G_istore (L' := [_, _, _, _, _, _, _, _, _, _, _, _, _]) dX6_mix_314 (Nat.le_of_ble_eq_true rfl) rfl ?_
      refine G_iload dX6_mix_316 rfl ?_
      refine G_istore (L' := [_, _, _, _, _, _, _, _, _, _, _, _, _]) dX6_mix_318 (Nat.le_of_ble_eq_true rfl) rfl ?_
      refine G_iload dX6_mix_320 rfl ?_
      refine G_iload dX6_mix_322 rfl ?_
      refine G_iadd dX6_mix_324 ?_
      refine G_istore (L' := [_, _, _, _, _, _, _, _, _, _, _, _, _]) dX6_mix_325 (Nat.le_of_ble_eq_true rfl) rfl ?_
      refine G_iload_n dX6_mix_327 rfl ?_
      refine G_istore (L' := [_, _, _, _, _, _, _, _, _, _, _, _, _]) dX6_mix_328 (Nat.le_of_ble_eq_true rfl) rfl ?_
      refine G_iload_n dX6_mix_330 rfl ?_
      refine G_istore_n (L' := [_, _, _, _, _, _, _, _, _, _, _, _, _]) dX6_mix_331 (Nat.le_of_ble_eq_true rfl) rfl ?_
      refine G_iload_n dX6_mix_332 rfl ?_
      refine G_istore_n (L' := [_, _, _, _, _, _, _, _, _, _, _, _, _]) dX6_mix_333 (Nat.le_of_ble_eq_true rfl) rfl ?_
      refine G_iload dX6_mix_334 rfl ?_
      refine G_iload dX6_mix_336 rfl ?_
      refine G_iadd dX6_mix_338 ?_
      refine G_istore_n (L' := [_, _, _, _, _, _, _, _, _, _, _, _, _]) dX6_mix_339 (Nat.le_of_ble_eq_true rfl) rfl ?_
      refine G_iinc (L' := [_, _, _, _, _, _, _, _, _, _, _, _, _]) (v := nI (i + 1)) dX6_mix_340 rfl (nI_succ i).symm rfl ?_
      refine G_goto (tgt := 182) dX6_mix_343 (by decide) ?_
      refine ih (64 - (i + 1)) (by omega) (i + 1) rfl _ _ _ _ _ _ _ _ _ _ _ (by omega) ?_
      show rd (ab_l ab_steps i) (scN 48 ws i) (rdN i (scN 48 ws) (ini st)) = _
      rw [hr]
      rfl
  refine G_bipush (v := 16) dX6_mix_0 (by decide) ?_
  refine G_istore_n (L' := [_, _, _, _, _, _, _, _, _, _, _, _, _]) dX6_mix_2 (Nat.le_of_ble_eq_true rfl) rfl ?_
  have sched : ∀ (n : Nat) (z2 z3 z4 z5 z6 z7 z8 z9 z10 z11 z12 : Option Value), n ≤ 48 → G ab_x0 mX6_mix d 0 0 (fun w' v => v = none ∧ w' = [.inr (7, [.ref 101, .ref 102, fv, lv]), cI 8 (mixS st ws), cI 64 (scN 48 ws)]) 3 [some (.ref 100), some (.int (nI (16 + n))), z2, z3, z4, z5, z6, z7, z8, z9, z10, z11, z12] [] [.inr (7, [.ref 101, .ref 102, fv, lv]), cI 8 st, cI 64 (scN n ws)] := by
    intro n
    induction hm : 48 - n using Nat.strongRecOn generalizing n with
    | ind m ih =>
      subst hm
      intro z2 z3 z4 z5 z6 z7 z8 z9 z10 z11 z12 hn
      generalize hi : 16 + n = i
      refine G_iload_n dX6_mix_3 rfl ?_
      refine G_bipush (v := 64) dX6_mix_4 (by decide) ?_
      refine G_icmp_geN (tgt := 116) i 64 dX6_mix_6 (by decide) rfl rfl (by omega) (by omega) (fun hge => ?_) (fun hlt => ?_)
      · have e48 : n = 48 := by omega
        subst e48
        refine G_aload_n dX6_mix_116 rfl ?_
        refine G_get (f := 0) kc7 dX6_mix_117 fX6_9 (by decide) rfl rfl ?_
        refine G_iconst (v := 0) dX6_mix_120 (by decide) ?_
        refine G_ialdN 0 dX6_mix_121 rfl rfl (by decide) (by decide) ?_
        refine G_istore_n (L' := [_, _, _, _, _, _, _, _, _, _, _, _, _]) dX6_mix_122 (Nat.le_of_ble_eq_true rfl) rfl ?_
        refine G_aload_n dX6_mix_123 rfl ?_
        refine G_get (f := 0) kc7 dX6_mix_124 fX6_9 (by decide) rfl rfl ?_
        refine G_iconst (v := 1) dX6_mix_127 (by decide) ?_
        refine G_ialdN 1 dX6_mix_128 rfl rfl (by decide) (by decide) ?_
        refine G_istore_n (L' := [_, _, _, _, _, _, _, _, _, _, _, _, _]) dX6_mix_129 (Nat.le_of_ble_eq_true rfl) rfl ?_
        refine G_aload_n dX6_mix_130 rfl ?_
        refine G_get (f := 0) kc7 dX6_mix_131 fX6_9 (by decide) rfl rfl ?_
        refine G_iconst (v := 2) dX6_mix_134 (by decide) ?_
        refine G_ialdN 2 dX6_mix_135 rfl rfl (by decide) (by decide) ?_
        refine G_istore_n (L' := [_, _, _, _, _, _, _, _, _, _, _, _, _]) dX6_mix_136 (Nat.le_of_ble_eq_true rfl) rfl ?_
        refine G_aload_n dX6_mix_137 rfl ?_
        refine G_get (f := 0) kc7 dX6_mix_138 fX6_9 (by decide) rfl rfl ?_
        refine G_iconst (v := 3) dX6_mix_141 (by decide) ?_
        refine G_ialdN 3 dX6_mix_142 rfl rfl (by decide) (by decide) ?_
        refine G_istore (L' := [_, _, _, _, _, _, _, _, _, _, _, _, _]) dX6_mix_143 (Nat.le_of_ble_eq_true rfl) rfl ?_
        refine G_aload_n dX6_mix_145 rfl ?_
        refine G_get (f := 0) kc7 dX6_mix_146 fX6_9 (by decide) rfl rfl ?_
        refine G_iconst (v := 4) dX6_mix_149 (by decide) ?_
        refine G_ialdN 4 dX6_mix_150 rfl rfl (by decide) (by decide) ?_
        refine G_istore (L' := [_, _, _, _, _, _, _, _, _, _, _, _, _]) dX6_mix_151 (Nat.le_of_ble_eq_true rfl) rfl ?_
        refine G_aload_n dX6_mix_153 rfl ?_
        refine G_get (f := 0) kc7 dX6_mix_154 fX6_9 (by decide) rfl rfl ?_
        refine G_iconst (v := 5) dX6_mix_157 (by decide) ?_
        refine G_ialdN 5 dX6_mix_158 rfl rfl (by decide) (by decide) ?_
        refine G_istore (L' := [_, _, _, _, _, _, _, _, _, _, _, _, _]) dX6_mix_159 (Nat.le_of_ble_eq_true rfl) rfl ?_
        refine G_aload_n dX6_mix_161 rfl ?_
        refine G_get (f := 0) kc7 dX6_mix_162 fX6_9 (by decide) rfl rfl ?_
        refine G_bipush (v := 6) dX6_mix_165 (by decide) ?_
        refine G_ialdN 6 dX6_mix_167 rfl rfl (by decide) (by decide) ?_
        refine G_istore (L' := [_, _, _, _, _, _, _, _, _, _, _, _, _]) dX6_mix_168 (Nat.le_of_ble_eq_true rfl) rfl ?_
        refine G_aload_n dX6_mix_170 rfl ?_
        refine G_get (f := 0) kc7 dX6_mix_171 fX6_9 (by decide) rfl rfl ?_
        refine G_bipush (v := 7) dX6_mix_174 (by decide) ?_
        refine G_ialdN 7 dX6_mix_176 rfl rfl (by decide) (by decide) ?_
        refine G_istore (L' := [_, _, _, _, _, _, _, _, _, _, _, _, _]) dX6_mix_177 (Nat.le_of_ble_eq_true rfl) rfl ?_
        refine G_iconst (v := 0) dX6_mix_179 (by decide) ?_
        refine G_istore (L' := [_, _, _, _, _, _, _, _, _, _, _, _, _]) dX6_mix_180 (Nat.le_of_ble_eq_true rfl) rfl ?_
        exact rounds 0 _ _ _ _ _ _ _ _ _ _ _ (by omega) rfl
      refine G_aload_n dX6_mix_9 rfl ?_
      refine G_get (f := 1) kc7 dX6_mix_10 fX6_15 (by decide) rfl rfl ?_
      refine G_iload_n dX6_mix_13 rfl ?_
      refine G_bipush (v := 15) dX6_mix_14 (by decide) ?_
      refine G_isub dX6_mix_16 ?_
      refine G_ialdN (i - 15) dX6_mix_17 rfl (pk_sub (a := i) (b := 15) (by omega)) (by omega) (by omega) ?_
      refine G_istore_n (L' := [_, _, _, _, _, _, _, _, _, _, _, _, _]) dX6_mix_18 (Nat.le_of_ble_eq_true rfl) rfl ?_
      refine G_aload_n dX6_mix_19 rfl ?_
      refine G_get (f := 1) kc7 dX6_mix_20 fX6_15 (by decide) rfl rfl ?_
      refine G_iload_n dX6_mix_23 rfl ?_
      refine G_iconst (v := 2) dX6_mix_24 (by decide) ?_
      refine G_isub dX6_mix_25 ?_
      refine G_ialdN (i - 2) dX6_mix_26 rfl (pk_sub (a := i) (b := 2) (by omega)) (by omega) (by omega) ?_
      refine G_istore_n (L' := [_, _, _, _, _, _, _, _, _, _, _, _, _]) dX6_mix_27 (Nat.le_of_ble_eq_true rfl) rfl ?_
      refine G_iload_n dX6_mix_28 rfl ?_
      refine G_bipush (v := 7) dX6_mix_29 (by decide) ?_
      refine G_iushr dX6_mix_31 ?_
      refine G_iload_n dX6_mix_32 rfl ?_
      refine G_bipush (v := 25) dX6_mix_33 (by decide) ?_
      refine G_ishl dX6_mix_35 ?_
      refine G_ior dX6_mix_36 ?_
      refine G_iload_n dX6_mix_37 rfl ?_
      refine G_bipush (v := 18) dX6_mix_38 (by decide) ?_
      refine G_iushr dX6_mix_40 ?_
      refine G_iload_n dX6_mix_41 rfl ?_
      refine G_bipush (v := 14) dX6_mix_42 (by decide) ?_
      refine G_ishl dX6_mix_44 ?_
      refine G_ior dX6_mix_45 ?_
      refine G_ixor dX6_mix_46 ?_
      refine G_iload_n dX6_mix_47 rfl ?_
      refine G_iconst (v := 3) dX6_mix_48 (by decide) ?_
      refine G_iushr dX6_mix_49 ?_
      refine G_ixor dX6_mix_50 ?_
      refine G_istore (L' := [_, _, _, _, _, _, _, _, _, _, _, _, _]) dX6_mix_51 (Nat.le_of_ble_eq_true rfl) rfl ?_
      refine G_iload_n dX6_mix_53 rfl ?_
      refine G_bipush (v := 17) dX6_mix_54 (by decide) ?_
      refine G_iushr dX6_mix_56 ?_
      refine G_iload_n dX6_mix_57 rfl ?_
      refine G_bipush (v := 15) dX6_mix_58 (by decide) ?_
      refine G_ishl dX6_mix_60 ?_
      refine G_ior dX6_mix_61 ?_
      refine G_iload_n dX6_mix_62 rfl ?_
      refine G_bipush (v := 19) dX6_mix_63 (by decide) ?_
      refine G_iushr dX6_mix_65 ?_
      refine G_iload_n dX6_mix_66 rfl ?_
      refine G_bipush (v := 13) dX6_mix_67 (by decide) ?_
      refine G_ishl dX6_mix_69 ?_
      refine G_ior dX6_mix_70 ?_
      refine G_ixor dX6_mix_71 ?_
      refine G_iload_n dX6_mix_72 rfl ?_
      refine G_bipush (v := 10) dX6_mix_73 (by decide) ?_
      refine G_iushr dX6_mix_75 ?_
      refine G_ixor dX6_mix_76 ?_
      refine G_istore (L' := [_, _, _, _, _, _, _, _, _, _, _, _, _]) dX6_mix_77 (Nat.le_of_ble_eq_true rfl) rfl ?_
      refine G_aload_n dX6_mix_79 rfl ?_
      refine G_get (f := 1) kc7 dX6_mix_80 fX6_15 (by decide) rfl rfl ?_
      refine G_iload_n dX6_mix_83 rfl ?_
      refine G_aload_n dX6_mix_84 rfl ?_
      refine G_get (f := 1) kc7 dX6_mix_85 fX6_15 (by decide) rfl rfl ?_
      refine G_iload_n dX6_mix_88 rfl ?_
      refine G_bipush (v := 16) dX6_mix_89 (by decide) ?_
      refine G_isub dX6_mix_91 ?_
      refine G_ialdN (i - 16) dX6_mix_92 rfl (pk_sub (a := i) (b := 16) (by omega)) (by omega) (by omega) ?_
      refine G_iload dX6_mix_93 rfl ?_
      refine G_iadd dX6_mix_95 ?_
      refine G_aload_n dX6_mix_96 rfl ?_
      refine G_get (f := 1) kc7 dX6_mix_97 fX6_15 (by decide) rfl rfl ?_
      refine G_iload_n dX6_mix_100 rfl ?_
      refine G_bipush (v := 7) dX6_mix_101 (by decide) ?_
      refine G_isub dX6_mix_103 ?_
      refine G_ialdN (i - 7) dX6_mix_104 rfl (pk_sub (a := i) (b := 7) (by omega)) (by omega) (by omega) ?_
      refine G_iadd dX6_mix_105 ?_
      refine G_iload dX6_mix_106 rfl ?_
      refine G_iadd dX6_mix_108 ?_
      refine G_iastN (w' := [_, _, _]) i dX6_mix_109 rfl rfl (by omega) (by omega) rfl ?_
      refine G_iinc (L' := [_, _, _, _, _, _, _, _, _, _, _, _, _]) (v := nI (16 + (n + 1))) dX6_mix_110 rfl (by rw [← Nat.add_assoc, hi]; exact (nI_succ i).symm) rfl ?_
      refine G_goto (tgt := 3) dX6_mix_113 (by decide) ?_
      subst hi
      exact ih (48 - (n + 1)) (by omega) (n + 1) rfl _ _ _ _ _ _ _ _ _ _ _ (by omega)
  exact sched 0 _ _ _ _ _ _ _ _ _ _ _ (by omega)
end
section
/-! Sha.begin, put, end. -/
abbrev SS : Type := (Nat → Int32) × (Nat → Int32) × Nat
/-- a byte more -/
def absorb (s : SS) (b : Int32) : SS :=
  if s.2.2 + 1 = 64 then (mixS s.1 (upd s.2.1 (s.2.2 / 4) (ls (s.2.1 (s.2.2 / 4)) 8 ||| b)), scN 48 (upd s.2.1 (s.2.2 / 4) (ls (s.2.1 (s.2.2 / 4)) 8 ||| b)), 0)
  else (s.1, upd s.2.1 (s.2.2 / 4) (ls (s.2.1 (s.2.2 / 4)) 8 ||| b), s.2.2 + 1)
def putF : Nat → Int32 → SS → SS
  | 0, _, s => s
  | k + 1, x, s => putF k x (absorb s (us x (8 * nI k) &&& 255))
theorem absorb_lt {s : SS} {b : Int32} (h : s.2.2 < 64) : (absorb s b).2.2 < 64 := by
  unfold absorb
  split
  · show 0 < 64; omega
  · show s.2.2 + 1 < 64; omega
theorem putF_lt : ∀ (k : Nat) (x : Int32) (s : SS), s.2.2 < 64 → (putF k x s).2.2 < 64
  | 0, _, _, h => h
  | k + 1, x, s, h => putF_lt k x _ (absorb_lt h)
abbrev cS (fl : Nat) (len : Int32) : ab_C := .inr (7, [.ref 101, .ref 102, .int (nI fl), .int len])
abbrev wS (s : SS) (len : Int32) : List ab_C := [cS s.2.2 len, cI 8 s.1, cI 64 s.2.1]
theorem nI_sub1 (x : Int32) : x + Int32.ofInt (-1) = x - 1 := by rw [Int32.sub_eq_add_neg]; rfl
set_option maxRecDepth 20000 in
theorem con_put (d k : Nat) (hk : k ≤ 4) (x len : Int32) (s : SS) (hs : s.2.2 < 64) : Con mX6_put (d + 1) 0 0 (wS s len) [.ref 100, .int x, .int (nI k)] (fun w' v => v = none ∧ w' = wS (putF k x s) (len + nI k)) := by
  refine Con.of (ab_okc rfl (by decide)) (Nat.le_of_ble_eq_true rfl) ?_
  show G ab_x0 mX6_put (d + 1) 0 0 _ 0 [some (.ref 100), some (.int x), some (.int (nI k)), none, none] [] _
  refine G_iload_n dX6_put_0 rfl ?_
  refine G_iconst (v := 1) dX6_put_1 (by decide) ?_
  refine G_isub dX6_put_2 ?_
  refine G_istore_n (L' := [_, _, _, _, _]) dX6_put_3 (Nat.le_of_ble_eq_true rfl) rfl ?_
  have loop : ∀ (j fl : Nat) (st ws : Nat → Int32) (z : Option Value), j ≤ 4 → fl < 64 → putF j x (st, ws, fl) = putF k x s → G ab_x0 mX6_put (d + 1) 0 0 (fun w' v => v = none ∧ w' = wS (putF k x s) (len + nI k)) 4 [some (.ref 100), some (.int x), some (.int (nI k)), some (.int (nI j - 1)), z] [] (wS (st, ws, fl) len) := by
    intro j
    induction j with
    | zero =>
      intro fl st ws z hj hfl he
      refine G_iload_n dX6_put_4 rfl ?_
      refine G_if_lt (tgt := 78) dX6_put_5 (by decide) (fun _ => ?_) (fun h => absurd (by decide) h)
      refine G_aload_n dX6_put_78 rfl ?_
      refine G_dup dX6_put_79 rfl ?_
      refine G_get (f := 3) kc7 dX6_put_80 fX6_22 (by decide) rfl rfl ?_
      refine G_iload_n dX6_put_83 rfl ?_
      refine G_iadd dX6_put_84 ?_
      refine G_put (w' := [_, _, _]) (f := 3) kc7 dX6_put_85 fX6_22 (by decide) rfl rfl rfl rfl (Nat.le_of_ble_eq_true rfl) rfl ?_
      exact G_ret (v := none) ⟨dX6_put_88, rfl⟩ ⟨rfl, by rw [← he]; rfl⟩
    | succ j ih =>
      intro fl st ws z hj hfl he
      rw [nI_pred j]
      refine G_iload_n dX6_put_4 rfl ?_
      refine G_if_lt (tgt := 78) dX6_put_5 (by decide) (fun h => absurd h (nI_pos (by omega))) (fun _ => ?_)
      refine G_aload_n dX6_put_8 rfl ?_
      refine G_get (f := 2) kc7 dX6_put_9 fX6_18 (by decide) rfl rfl ?_
      refine G_iconst (v := 2) dX6_put_12 (by decide) ?_
      refine G_ishr dX6_put_13 ?_
      refine G_topi (y := nI (fl / 4)) (pk_shrN (n := fl) (by omega) _ 2 (by decide)) ?_
      refine G_istore (L' := [_, _, _, _, _]) dX6_put_14 (Nat.le_of_ble_eq_true rfl) rfl ?_
      refine G_aload_n dX6_put_16 rfl ?_
      refine G_get (f := 1) kc7 dX6_put_17 fX6_15 (by decide) rfl rfl ?_
      refine G_iload dX6_put_20 rfl ?_
      refine G_aload_n dX6_put_22 rfl ?_
      refine G_get (f := 1) kc7 dX6_put_23 fX6_15 (by decide) rfl rfl ?_
      refine G_iload dX6_put_26 rfl ?_
      refine G_ialdN (fl / 4) dX6_put_28 rfl rfl (by omega) (by omega) ?_
      refine G_bipush (v := 8) dX6_put_29 (by decide) ?_
      refine G_ishl dX6_put_31 ?_
      refine G_iload_n dX6_put_32 rfl ?_
      refine G_bipush (v := 8) dX6_put_33 (by decide) ?_
      refine G_iload_n dX6_put_35 rfl ?_
      refine G_imul dX6_put_36 ?_
      refine G_iushr dX6_put_37 ?_
      refine G_sipush (v := 255) dX6_put_38 (by decide) ?_
      refine G_iand dX6_put_41 ?_
      refine G_ior dX6_put_42 ?_
      refine G_iastN (w' := [_, _, _]) (fl / 4) dX6_put_43 rfl rfl (by omega) (by omega) rfl ?_
      refine G_aload_n dX6_put_44 rfl ?_
      refine G_dup dX6_put_45 rfl ?_
      refine G_get (f := 2) kc7 dX6_put_46 fX6_18 (by decide) rfl rfl ?_
      refine G_iconst (v := 1) dX6_put_49 (by decide) ?_
      refine G_iadd dX6_put_50 ?_
      refine G_topi (nI_1 fl) ?_
      refine G_put (w' := [_, _, _]) (f := 2) kc7 dX6_put_51 fX6_18 (by decide) rfl rfl rfl rfl (Nat.le_of_ble_eq_true rfl) rfl ?_
      refine G_aload_n dX6_put_54 rfl ?_
      refine G_get (f := 2) kc7 dX6_put_55 fX6_18 (by decide) rfl rfl ?_
      refine G_bipush (v := 64) dX6_put_58 (by decide) ?_
      have tail : ∀ (s' : SS), s' = absorb (st, ws, fl) (us x (8 * nI j) &&& 255) → G ab_x0 mX6_put (d + 1) 0 0 (fun w' v => v = none ∧ w' = wS (putF k x s) (len + nI k)) 72 [some (.ref 100), some (.int x), some (.int (nI k)), some (.int (nI j)), some (.int (nI (fl / 4)))] [] (wS s' len) := by
        intro s' hs'
        refine G_iinc (L' := [_, _, _, _, _]) (v := nI j - 1) dX6_put_72 rfl (nI_sub1 _) rfl ?_
        refine G_goto (tgt := 4) dX6_put_75 (by decide) ?_
        obtain ⟨st', ws', fl'⟩ := s'
        refine ih fl' st' ws' _ (by omega) ?_ ?_
        · have := absorb_lt (s := (st, ws, fl)) (b := us x (8 * nI j) &&& 255) hfl
          rw [← hs'] at this
          exact this
        · rw [← he, hs']; rfl
      refine G_icmp_neN (tgt := 72) (fl + 1) 64 dX6_put_60 (by decide) rfl rfl (by omega) (by omega) (fun hne => ?_) (fun heq => ?_)
      · refine tail (st, _, fl + 1) ?_
        unfold absorb
        rw [if_neg (by exact hne)]
        rfl
      refine G_aload_n dX6_put_63 rfl ?_
      refine G_V (is := [0, 1, 2]) (fo := []) (as := [.ref 100]) (as' := []) (st := []) (k := 0) (n := 0) cX6_put_64 (con_mix d st _ (.int (nI (fl + 1))) (.int len)) ab_pfx rfl (by decide) rfl rfl rfl rfl rfl rfl (Nat.le_of_ble_eq_true rfl) dX6_put_64 (fun w' v h => by rw [h.2]; rfl) (fun w2 v2 hq => ?_)
      obtain ⟨rfl, rfl⟩ := hq
      refine G_aload_n dX6_put_67 rfl ?_
      refine G_iconst (v := 0) dX6_put_68 (by decide) ?_
      refine G_put (w' := [_, _, _]) (f := 2) kc7 dX6_put_69 fX6_18 (by decide) rfl rfl rfl rfl (Nat.le_of_ble_eq_true rfl) rfl ?_
      refine tail (mixS st _, scN 48 _, 0) ?_
      unfold absorb
      rw [if_pos (by exact heq)]
      rfl
  exact loop k s.2.2 s.1 s.2.1 _ hk hs rfl
set_option maxRecDepth 20000 in
theorem con_begin (d fl : Nat) (len : Int32) (st ws : Nat → Int32) : Con mX6_begin (d + 1) 0 0 [cS fl len, cI 8 st, cI 64 ws] [.ref 100] (fun w' v => v = none ∧ w' = wS (va_cpy (ab_l ab_start) st 0 0 8, ws, 0) 0) := by
  refine Con.of (ab_okc rfl (by decide)) (Nat.le_of_ble_eq_true rfl) ?_
  show G ab_x0 mX6_begin (d + 1) 0 0 _ 0 [some (.ref 100)] [] _
  refine G_gets (j := 1) dX6_begin_0 rfl fX6_25 ?_
  refine G_iconst (v := 0) dX6_begin_3 (by decide) ?_
  refine G_aload_n dX6_begin_4 rfl ?_
  refine G_get (f := 0) kc7 dX6_begin_5 fX6_9 (by decide) rfl rfl ?_
  refine G_iconst (v := 0) dX6_begin_8 (by decide) ?_
  refine G_bipush (v := 8) dX6_begin_9 (by decide) ?_
  refine G_copyX (i := 1) (n0 := 8) (f := ab_l ab_start) (w1 := [_, _, _]) dX6_begin_11 uX6_28 rfl (Nat.le_of_ble_eq_true rfl) rfl rfl (by decide) (by decide) (by decide) (by decide) (by decide) rfl ?_
  refine G_aload_n dX6_begin_14 rfl ?_
  refine G_iconst (v := 0) dX6_begin_15 (by decide) ?_
  refine G_put (w' := [_, _, _]) (f := 2) kc7 dX6_begin_16 fX6_18 (by decide) rfl rfl rfl rfl (Nat.le_of_ble_eq_true rfl) rfl ?_
  refine G_aload_n dX6_begin_19 rfl ?_
  refine G_iconst (v := 0) dX6_begin_20 (by decide) ?_
  refine G_put (w' := [_, _, _]) (f := 3) kc7 dX6_begin_21 fX6_22 (by decide) rfl rfl rfl rfl (Nat.le_of_ble_eq_true rfl) rfl ?_
  exact G_ret (v := none) ⟨dX6_begin_24, rfl⟩ ⟨rfl, rfl⟩
/-- noughts up to place 56 -/
def padF : Nat → SS → SS
  | 0, s => s
  | i + 1, s => if s.2.2 = 56 then s else padF i (putF 1 0 s)
def endF (s : SS) (len : Int32) : SS := putF 4 (8 * len) (putF 4 0 (padF 64 (putF 1 128 s)))
theorem padF_lt : ∀ (k : Nat) (s : SS), s.2.2 < 64 → (padF k s).2.2 < 64
  | 0, _, h => h
  | k + 1, s, h => by
    unfold padF
    split
    · exact h
    · exact padF_lt k _ (putF_lt 1 0 s h)
set_option maxRecDepth 20000 in
theorem con_end (d at_ N : Nat) (hN : at_ + 8 ≤ N) (hN2 : N < 2 ^ 31) (len : Int32) (s : SS) (hs : s.2.2 < 64) (g : Nat → Int32) : Con mX6_end (d + 2) 0 0 [cS s.2.2 len, cI 8 s.1, cI 64 s.2.1, cI N g] [.ref 100, .ref 103, .int (nI at_)] (fun w' v => v = none ∧ ∃ len', w' = [cS (endF s len).2.2 len', cI 8 (endF s len).1, cI 64 (endF s len).2.1, cI N (va_cpy (endF s len).1 g 0 at_ 8)]) := by
  refine Con.of (ab_okc rfl (by decide)) (Nat.le_of_ble_eq_true rfl) ?_
  show G ab_x0 mX6_end (d + 2) 0 0 _ 0 [some (.ref 100), some (.ref 103), some (.int (nI at_)), none, none] [] _
  refine G_bipush (v := 8) dX6_end_0 (by decide) ?_
  refine G_aload_n dX6_end_2 rfl ?_
  refine G_get (f := 3) kc7 dX6_end_3 fX6_22 (by decide) rfl rfl ?_
  refine G_imul dX6_end_6 ?_
  refine G_istore_n (L' := [_, _, _, _, _]) dX6_end_7 (Nat.le_of_ble_eq_true rfl) rfl ?_
  refine G_aload_n dX6_end_8 rfl ?_
  refine G_sipush (v := 128) dX6_end_9 (by decide) ?_
  refine G_iconst (v := 1) dX6_end_12 (by decide) ?_
  refine G_V (is := [0, 1, 2]) (fo := []) (as := [.ref 100, .int 128, .int (nI 1)]) (as' := [.int 128, .int (nI 1)]) (st := []) (k := 0) (n := 0) cX6_end_13 (con_put d 1 (by decide) 128 len s (by exact hs)) ab_pfx rfl (by decide) rfl rfl rfl rfl rfl rfl (Nat.le_of_ble_eq_true rfl) dX6_end_13 (fun w' v h => by rw [h.2]; rfl) (fun w2 v2 hq => ?_)
  obtain ⟨rfl, hw2⟩ := hq
  obtain ⟨s0, hs0⟩ : ∃ z, z = putF 1 128 s := ⟨_, rfl⟩
  have hs0l : s0.2.2 < 64 := by rw [hs0]; exact putF_lt 1 128 s hs
  rw [← hs0] at hw2
  subst hw2
  refine G_iconst (v := 0) dX6_end_16 (by decide) ?_
  refine G_istore (L' := [_, _, _, _, _]) dX6_end_17 (Nat.le_of_ble_eq_true rfl) rfl ?_
  have loop : ∀ (i : Nat) (s1 : SS) (l1 : Int32), i ≤ 64 → s1.2.2 < 64 → padF (64 - i) s1 = padF 64 s0 → G ab_x0 mX6_end (d + 2) 0 0 (fun w' v => v = none ∧ ∃ len', w' = [cS (endF s len).2.2 len', cI 8 (endF s len).1, cI 64 (endF s len).2.1, cI N (va_cpy (endF s len).1 g 0 at_ 8)]) 19 [some (.ref 100), some (.ref 103), some (.int (nI at_)), some (.int (8 * len)), some (.int (nI i))] [] [cS s1.2.2 l1, cI 8 s1.1, cI 64 s1.2.1, cI N g] := by
    intro i
    induction hm : 64 - i using Nat.strongRecOn generalizing i with
    | ind m ih =>
      subst hm
      intro s1 l1 hi hs1 hp
      have fin : padF 64 s0 = s1 → G ab_x0 mX6_end (d + 2) 0 0 (fun w' v => v = none ∧ ∃ len', w' = [cS (endF s len).2.2 len', cI 8 (endF s len).1, cI 64 (endF s len).2.1, cI N (va_cpy (endF s len).1 g 0 at_ 8)]) 47 [some (.ref 100), some (.ref 103), some (.int (nI at_)), some (.int (8 * len)), some (.int (nI i))] [] [cS s1.2.2 l1, cI 8 s1.1, cI 64 s1.2.1, cI N g] := by
        intro he
        refine G_aload_n dX6_end_47 rfl ?_
        refine G_iconst (v := 0) dX6_end_48 (by decide) ?_
        refine G_iconst (v := 4) dX6_end_49 (by decide) ?_
        refine G_V (is := [0, 1, 2]) (fo := []) (as := [.ref 100, .int 0, .int (nI 4)]) (as' := [.int 0, .int (nI 4)]) (st := []) (k := 0) (n := 0) cX6_end_50 (con_put d 4 (by decide) 0 l1 s1 (by exact hs1)) ab_pfx rfl (by decide) rfl rfl rfl rfl rfl rfl (Nat.le_of_ble_eq_true rfl) dX6_end_50 (fun w' v h => by rw [h.2]; rfl) (fun w2 v2 hq => ?_)
        obtain ⟨rfl, hw2⟩ := hq
        obtain ⟨s2, hs2⟩ : ∃ z, z = putF 4 0 s1 := ⟨_, rfl⟩
        have hs2l : s2.2.2 < 64 := by rw [hs2]; exact putF_lt 4 0 s1 hs1
        rw [← hs2] at hw2
        subst hw2
        refine G_aload_n dX6_end_53 rfl ?_
        refine G_iload_n dX6_end_54 rfl ?_
        refine G_iconst (v := 4) dX6_end_55 (by decide) ?_
        refine G_V (is := [0, 1, 2]) (fo := []) (as := [.ref 100, .int (8 * len), .int (nI 4)]) (as' := [.int (8 * len), .int (nI 4)]) (st := []) (k := 0) (n := 0) cX6_end_56 (con_put d 4 (by decide) (8 * len) (l1 + nI 4) s2 (by exact hs2l)) ab_pfx rfl (by decide) rfl rfl rfl rfl rfl rfl (Nat.le_of_ble_eq_true rfl) dX6_end_56 (fun w' v h => by rw [h.2]; rfl) (fun w2 v2 hq => ?_)
        obtain ⟨rfl, hw2⟩ := hq
        obtain ⟨s3, hs3⟩ : ∃ z, z = putF 4 (8 * len) s2 := ⟨_, rfl⟩
        rw [← hs3] at hw2
        subst hw2
        refine G_aload_n dX6_end_59 rfl ?_
        refine G_get (f := 0) kc7 dX6_end_60 fX6_9 (by decide) rfl rfl ?_
        refine G_iconst (v := 0) dX6_end_63 (by decide) ?_
        refine G_aload_n dX6_end_64 rfl ?_
        refine G_iload_n dX6_end_65 rfl ?_
        refine G_bipush (v := 8) dX6_end_66 (by decide) ?_
        have e1 : (nI at_).toNatClampNeg = at_ := nI_clamp (by omega)
        have e2 : (8 : Int32).toNatClampNeg = 8 := by decide
        have e0 : (0 : Int32).toNatClampNeg = 0 := by decide
        refine G_copy (j0 := 1) (j1 := 3) (w1 := [_, _, _, _]) dX6_end_68 uX6_28 rfl (Nat.le_of_ble_eq_true rfl) rfl rfl (by decide) (nI_pos (by omega)) (by decide) (by decide) (by rw [e1, e2]; exact hN) rfl ?_
        rw [e1, e2, e0]
        refine G_ret (v := none) ⟨dX6_end_71, rfl⟩ ⟨rfl, l1 + nI 4 + nI 4, ?_⟩
        have e9 : endF s len = s3 := by
          unfold endF
          rw [← hs0, he, ← hs2, ← hs3]
        rw [e9]
        rfl
      refine G_iload dX6_end_19 rfl ?_
      refine G_bipush (v := 64) dX6_end_21 (by decide) ?_
      refine G_icmp_geN (tgt := 47) i 64 dX6_end_23 (by decide) rfl rfl (by omega) (by omega) (fun hge => ?_) (fun hlt => ?_)
      · refine fin ?_
        rw [← hp, show 64 - i = 0 by omega]
        rfl
      refine G_aload_n dX6_end_26 rfl ?_
      refine G_get (f := 2) kc7 dX6_end_27 fX6_18 (by decide) rfl rfl ?_
      refine G_bipush (v := 56) dX6_end_30 (by decide) ?_
      refine G_icmp_eqN (tgt := 47) s1.2.2 56 dX6_end_32 (by decide) rfl rfl (by omega) (by omega) (fun heq => ?_) (fun hne => ?_)
      · refine fin ?_
        rw [← hp, show 64 - i = (63 - i) + 1 by omega, padF, if_pos heq]
      refine G_aload_n dX6_end_35 rfl ?_
      refine G_iconst (v := 0) dX6_end_36 (by decide) ?_
      refine G_iconst (v := 1) dX6_end_37 (by decide) ?_
      refine G_V (is := [0, 1, 2]) (fo := []) (as := [.ref 100, .int 0, .int (nI 1)]) (as' := [.int 0, .int (nI 1)]) (st := []) (k := 0) (n := 0) cX6_end_38 (con_put d 1 (by decide) 0 l1 s1 (by exact hs1)) ab_pfx rfl (by decide) rfl rfl rfl rfl rfl rfl (Nat.le_of_ble_eq_true rfl) dX6_end_38 (fun w' v h => by rw [h.2]; rfl) (fun w2 v2 hq => ?_)
      obtain ⟨rfl, hw2⟩ := hq
      obtain ⟨s2, hs2⟩ : ∃ z, z = putF 1 0 s1 := ⟨_, rfl⟩
      have hs2l : s2.2.2 < 64 := by rw [hs2]; exact putF_lt 1 0 s1 hs1
      rw [← hs2] at hw2
      subst hw2
      refine G_iinc (L' := [_, _, _, _, _]) (v := nI (i + 1)) dX6_end_41 rfl (nI_succ i).symm rfl ?_
      refine G_goto (tgt := 19) dX6_end_44 (by decide) ?_
      refine ih (64 - (i + 1)) (by omega) (i + 1) rfl s2 (l1 + nI 1) (by omega) hs2l ?_
      rw [← hp, show 64 - i = (64 - (i + 1)) + 1 by omega, padF, if_neg hne, hs2]
  exact loop 0 s0 _ (by omega) hs0l rfl
end
section
/-! Hasher: takeRound, partFor, putContent; what is put, as a list of bytes. -/
def bys : Nat → Int32 → List Int32
  | 0, _ => []
  | k + 1, x => (us x (8 * nI k) &&& 255) :: bys k x
theorem bys_len : ∀ (k : Nat) (x : Int32), (bys k x).length = k
  | 0, _ => rfl
  | k + 1, x => by rw [bys, List.length_cons, bys_len k x]
theorem putF_bys : ∀ (k : Nat) (x : Int32) (s : SS), putF k x s = (bys k x).foldl absorb s
  | 0, _, _ => rfl
  | k + 1, x, s => by rw [putF, bys, List.foldl_cons, putF_bys k x]
def eat (s : SS) (l : List Int32) : SS := l.foldl absorb s
theorem eat_app (s : SS) (a b : List Int32) : eat s (a ++ b) = eat (eat s a) b := List.foldl_append
theorem eat_lt : ∀ (l : List Int32) (s : SS), s.2.2 < 64 → (eat s l).2.2 < 64
  | [], _, h => h
  | b :: l, s, h => eat_lt l _ (absorb_lt h)
theorem con_eat (d k : Nat) (hk : k ≤ 4) (x len : Int32) (s : SS) (hs : s.2.2 < 64) : Con mX6_put (d + 1) 0 0 (wS s len) [.ref 100, .int x, .int (nI k)] (fun w' v => v = none ∧ w' = wS (eat s (bys k x)) (len + nI k)) := by
  have h := con_put d k hk x len s hs
  rw [putF_bys] at h
  exact h
/-- the words of a hash from word i on -/
def hbs (F : Nat → Int32) (b : Nat) : Nat → Nat → List Int32
  | 0, _ => []
  | k + 1, i => bys 4 (F (b * 8 + i)) ++ hbs F b k (i + 1)
theorem hbs_len (F : Nat → Int32) (b : Nat) : ∀ (k i : Nat), (hbs F b k i).length = 4 * k
  | 0, _ => rfl
  | k + 1, i => by rw [hbs, List.length_append, bys_len, hbs_len F b k (i + 1)]; omega
/-- what a part puts; bl: the blank that stands for a rank -/
def pcB (F : Nat → Int32) (bl : Nat → Nat) (p : Nat) : List Int32 := if p < 1001 then bys 4 (nI p) else if p = 1001 then [] else hbs F (bl (p - 1002)) 8 0
/-- a place of a description: P the key's place, b the blank, rk the ranks -/
def dp (b : Nat) (rk : Nat → Nat) (P : Nat) : Nat := if 8 ≤ P then P - 8 else if 7 - P = b then 1001 else 1002 + rk (7 - P)
set_option maxRecDepth 20000 in
theorem con_takeRound (d g1 g2 : Nat) (v1 v2 v3 v4 v5 v6 v7 : Value) : Con mX2_takeRound d 0 0 [.inr (3, [v1, v2, .ref g2]), .inr (1, [v3, v4, v5, v6, v7, .ref g1])] [.ref 100, .ref 101] (fun w' v => v = none ∧ w' = [.inr (3, [v1, v2, .ref g1]), .inr (1, [v3, v4, v5, v6, v7, .ref g2])]) := by
  refine Con.of (ab_okc rfl (by decide)) (Nat.le_of_ble_eq_true rfl) ?_
  show G ab_x0 mX2_takeRound d 0 0 _ 0 [some (.ref 100), some (.ref 101), none] [] _
  refine G_aload_n dX2_takeRound_0 rfl ?_
  refine G_get (f := 5) kc1 dX2_takeRound_1 fX2_39 (by decide) rfl rfl ?_
  refine G_astore_n (L' := [_, _, _]) dX2_takeRound_4 (Nat.le_of_ble_eq_true rfl) rfl ?_
  refine G_aload_n dX2_takeRound_5 rfl ?_
  refine G_aload_n dX2_takeRound_6 rfl ?_
  refine G_get (f := 2) kc3 dX2_takeRound_7 fX2_18 (by decide) rfl rfl ?_
  refine G_put (w' := [_, _]) (f := 5) kc1 dX2_takeRound_10 fX2_39 (by decide) rfl rfl rfl rfl (Nat.le_of_ble_eq_true rfl) rfl ?_
  refine G_aload_n dX2_takeRound_13 rfl ?_
  refine G_aload_n dX2_takeRound_14 rfl ?_
  refine G_put (w' := [_, _]) (f := 2) kc3 dX2_takeRound_15 fX2_18 (by decide) rfl rfl rfl rfl (Nat.le_of_ble_eq_true rfl) rfl ?_
  exact G_ret (v := none) ⟨dX2_takeRound_18, rfl⟩ ⟨rfl, rfl⟩
set_option maxRecDepth 20000 in
theorem con_partFor (d P b : Nat) (hP : P < 1024) (hb : b < 8) (f : Nat → Int32) (rk : Nat → Nat) (hr : P < 8 → f (7 - P) = nI (rk (7 - P))) (hv ov sv cv : Value) : Con mX2_partFor d 0 0 [.inr (2, [hv, ov, .ref 101, sv, cv]), cI 8 f] [.ref 100, .int (nI P - 8), .int (nI b)] (fun w' v => w' = [.inr (2, [hv, ov, .ref 101, sv, cv]), cI 8 f] ∧ v = some (.int (nI (dp b rk P)))) := by
  refine Con.of (ab_okc rfl (by decide)) (Nat.le_of_ble_eq_true rfl) ?_
  show G ab_x0 mX2_partFor d 0 0 _ 0 [some (.ref 100), some (.int (nI P - 8)), some (.int (nI b))] [] _
  by_cases h8 : 8 ≤ P
  · have e : nI P - 8 = nI (P - 8) := pk_sub (a := P) (b := 8) h8
    rw [e]
    refine G_iload_n dX2_partFor_0 rfl ?_
    refine G_if_lt (tgt := 6) dX2_partFor_1 (by decide) (fun h => absurd h (nI_pos (by omega))) (fun _ => ?_)
    refine G_iload_n dX2_partFor_4 rfl ?_
    refine G_ret (v := some (.int _)) ⟨dX2_partFor_5, _, rfl, rfl⟩ ⟨rfl, ?_⟩
    unfold dp
    rw [if_pos h8]
  · have hneg : ∀ q, q < 8 → nI q - 8 < 0 := by decide
    have hidx : ∀ q, q < 8 → (-1) - (nI q - 8) = nI (7 - q) := by decide
    have heq : ∀ q, q < 8 → ∀ c, c < 8 → (nI q - 8 = (-1) - nI c ↔ 7 - q = c) := by decide
    refine G_iload_n dX2_partFor_0 rfl ?_
    refine G_if_lt (tgt := 6) dX2_partFor_1 (by decide) (fun _ => ?_) (fun h => absurd (hneg P (by omega)) h)
    refine G_iload_n dX2_partFor_6 rfl ?_
    refine G_iconst (v := (-1)) dX2_partFor_7 (by decide) ?_
    refine G_iload_n dX2_partFor_8 rfl ?_
    refine G_isub dX2_partFor_9 ?_
    refine G_icmp_ne (tgt := 19) dX2_partFor_10 (by decide) (fun h => ?_) (fun h => ?_)
    · have h7 : ¬ 7 - P = b := fun q => h ((heq P (by omega) b hb).mpr q)
      refine G_sipush (v := 1002) dX2_partFor_19 (by decide) ?_
      refine G_aload_n dX2_partFor_22 rfl ?_
      refine G_get (f := 2) kc2 dX2_partFor_23 fX2_82 (by decide) rfl rfl ?_
      refine G_iconst (v := (-1)) dX2_partFor_26 (by decide) ?_
      refine G_iload_n dX2_partFor_27 rfl ?_
      refine G_isub dX2_partFor_28 ?_
      refine G_ialdN (7 - P) dX2_partFor_29 rfl (hidx P (by omega)) (by omega) (by omega) ?_
      rw [hr (by omega)]
      refine G_iadd dX2_partFor_30 ?_
      refine G_ret (v := some (.int _)) ⟨dX2_partFor_31, _, rfl, rfl⟩ ⟨rfl, ?_⟩
      unfold dp
      rw [if_neg h8, if_neg h7, show (1002 : Int32) = nI 1002 from rfl, nI_add]
    · have h7 : 7 - P = b := (heq P (by omega) b hb).mp h
      refine G_sipush (v := 1001) dX2_partFor_13 (by decide) ?_
      refine G_goto (tgt := 31) dX2_partFor_16 (by decide) ?_
      refine G_ret (v := some (.int _)) ⟨dX2_partFor_31, _, rfl, rfl⟩ ⟨rfl, ?_⟩
      unfold dp
      rw [if_neg h8, if_pos h7]
      rfl
set_option maxRecDepth 20000 in
theorem con_putContent (d p : Nat) (hp : p < 1024) (s : SS) (hs : s.2.2 < 64) (len : Int32) (F f1 f3 : Nat → Int32) (bl : Nat → Nat) (q : Nat) (hq : 1002 ≤ p → q < 8 ∧ f3 (p - 1002) = nI q ∧ f1 q = nI (bl (p - 1002)) ∧ bl (p - 1002) < 8 ∧ p < 1011) (dv nv rv cv : Value) : Con mX2_putContent (d + 2) 0 0 [.inr (3, [.ref 101, dv, nv]), .inr (7, [.ref 102, .ref 103, .int (nI s.2.2), .int len]), cI 8 s.1, cI 64 s.2.1, .inr (2, [.ref 105, .ref 106, rv, .ref 107, cv]), cI 64 F, cI 8 f1, cI 9 f3] [.ref 100, .ref 104, .int (nI p)] (fun w' v => v = none ∧ w' = [.inr (3, [.ref 101, dv, nv]), .inr (7, [.ref 102, .ref 103, .int (nI (eat s (pcB F bl p)).2.2), .int (len + nI (pcB F bl p).length)]), cI 8 (eat s (pcB F bl p)).1, cI 64 (eat s (pcB F bl p)).2.1, .inr (2, [.ref 105, .ref 106, rv, .ref 107, cv]), cI 64 F, cI 8 f1, cI 9 f3]) := by
  refine Con.of (ab_okc rfl (by decide)) (Nat.le_of_ble_eq_true rfl) ?_
  show G ab_x0 mX2_putContent (d + 2) 0 0 _ 0 [some (.ref 100), some (.ref 104), some (.int (nI p)), none, none] [] _
  refine G_iload_n dX2_putContent_0 rfl ?_
  refine G_sipush (v := 1001) dX2_putContent_1 (by decide) ?_
  refine G_icmp_geN (tgt := 16) p 1001 dX2_putContent_4 (by decide) rfl rfl (by omega) (by omega) (fun hge => ?_) (fun hlt => ?_)
  · refine G_iload_n dX2_putContent_16 rfl ?_
    refine G_sipush (v := 1002) dX2_putContent_17 (by decide) ?_
    refine G_icmp_ltN (tgt := 75) p 1002 dX2_putContent_20 (by decide) rfl rfl (by omega) (by omega) (fun h1 => ?_) (fun h1 => ?_)
    · have e : pcB F bl p = [] := by
        unfold pcB
        rw [if_neg (by omega), if_pos (by omega)]
      refine G_ret (v := none) ⟨dX2_putContent_75, rfl⟩ ⟨rfl, ?_⟩
      rw [e]
      show _ = [.inr (3, [.ref 101, dv, nv]), .inr (7, [.ref 102, .ref 103, .int (nI s.2.2), .int (len + 0)]), cI 8 s.1, cI 64 s.2.1, .inr (2, [.ref 105, .ref 106, rv, .ref 107, cv]), cI 64 F, cI 8 f1, cI 9 f3]
      rw [Int32.add_zero]
    · obtain ⟨q1, q2, q3, q4, q5⟩ := hq h1
      have e : pcB F bl p = hbs F (bl (p - 1002)) 8 0 := by
        unfold pcB
        rw [if_neg (by omega), if_neg (by omega)]
      generalize bl (p - 1002) = b at q3 q4 e
      refine G_aload_n dX2_putContent_23 rfl ?_
      refine G_get (f := 1) kc2 dX2_putContent_24 fX2_113 (by decide) rfl rfl ?_
      refine G_aload_n dX2_putContent_27 rfl ?_
      refine G_get (f := 3) kc2 dX2_putContent_28 fX2_116 (by decide) rfl rfl ?_
      refine G_iload_n dX2_putContent_31 rfl ?_
      refine G_sipush (v := 1002) dX2_putContent_32 (by decide) ?_
      refine G_isub dX2_putContent_35 ?_
      refine G_ialdN (p - 1002) dX2_putContent_36 rfl (pk_sub (a := p) (b := 1002) h1) (by omega) (by omega) ?_
      rw [q2]
      refine G_ialdN q dX2_putContent_37 rfl rfl (by omega) (by omega) ?_
      rw [q3]
      refine G_istore_n (L' := [_, _, _, _, _]) dX2_putContent_38 (Nat.le_of_ble_eq_true rfl) rfl ?_
      refine G_iconst (v := 0) dX2_putContent_39 (by decide) ?_
      refine G_istore (L' := [_, _, _, _, _]) dX2_putContent_40 (Nat.le_of_ble_eq_true rfl) rfl ?_
      have loop : ∀ (k i : Nat) (s1 : SS) (l1 : Int32), i + k = 8 → s1.2.2 < 64 → eat s1 (hbs F b k i) = eat s (pcB F bl p) → l1 + nI (4 * k) = len + nI (pcB F bl p).length → G ab_x0 mX2_putContent (d + 2) 0 0 (fun w' v => v = none ∧ w' = [.inr (3, [.ref 101, dv, nv]), .inr (7, [.ref 102, .ref 103, .int (nI (eat s (pcB F bl p)).2.2), .int (len + nI (pcB F bl p).length)]), cI 8 (eat s (pcB F bl p)).1, cI 64 (eat s (pcB F bl p)).2.1, .inr (2, [.ref 105, .ref 106, rv, .ref 107, cv]), cI 64 F, cI 8 f1, cI 9 f3]) 42 [some (.ref 100), some (.ref 104), some (.int (nI p)), some (.int (nI b)), some (.int (nI i))] [] [.inr (3, [.ref 101, dv, nv]), .inr (7, [.ref 102, .ref 103, .int (nI s1.2.2), .int l1]), cI 8 s1.1, cI 64 s1.2.1, .inr (2, [.ref 105, .ref 106, rv, .ref 107, cv]), cI 64 F, cI 8 f1, cI 9 f3] := by
        intro k
        induction k with
        | zero =>
          intro i s1 l1 hi hs1 he hl
          refine G_iload dX2_putContent_42 rfl ?_
          refine G_bipush (v := 8) dX2_putContent_44 (by decide) ?_
          refine G_icmp_geN (tgt := 75) i 8 dX2_putContent_46 (by decide) rfl rfl (by omega) (by omega) (fun _ => ?_) (fun h => by omega)
          refine G_ret (v := none) ⟨dX2_putContent_75, rfl⟩ ⟨rfl, ?_⟩
          rw [← he, ← hl]
          show _ = [.inr (3, [.ref 101, dv, nv]), .inr (7, [.ref 102, .ref 103, .int (nI s1.2.2), .int (l1 + 0)]), cI 8 s1.1, cI 64 s1.2.1, .inr (2, [.ref 105, .ref 106, rv, .ref 107, cv]), cI 64 F, cI 8 f1, cI 9 f3]
          rw [Int32.add_zero]
        | succ k ih =>
          intro i s1 l1 hi hs1 he hl
          refine G_iload dX2_putContent_42 rfl ?_
          refine G_bipush (v := 8) dX2_putContent_44 (by decide) ?_
          refine G_icmp_geN (tgt := 75) i 8 dX2_putContent_46 (by decide) rfl rfl (by omega) (by omega) (fun h => by omega) (fun _ => ?_)
          refine G_aload_n dX2_putContent_49 rfl ?_
          refine G_get (f := 0) kc3 dX2_putContent_50 fX2_22 (by decide) rfl rfl ?_
          refine G_aload_n dX2_putContent_53 rfl ?_
          refine G_get (f := 0) kc2 dX2_putContent_54 fX2_42 (by decide) rfl rfl ?_
          refine G_iload_n dX2_putContent_57 rfl ?_
          refine G_bipush (v := 8) dX2_putContent_58 (by decide) ?_
          refine G_imul dX2_putContent_60 ?_
          refine G_iload dX2_putContent_61 rfl ?_
          refine G_iadd dX2_putContent_63 ?_
          refine G_ialdN (b * 8 + i) dX2_putContent_64 rfl (by rw [show (8 : Int32) = nI 8 from rfl, pk_mul, nI_add]) (by omega) (by omega) ?_
          refine G_iconst (v := 4) dX2_putContent_65 (by decide) ?_
          refine G_V (is := [1, 2, 3]) (fo := []) (as := [.ref 100, .int (F (b * 8 + i)), .int (nI 4)]) (as' := [.int (F (b * 8 + i)), .int (nI 4)]) (st := []) (k := 0) (n := 0) cX2_putContent_66 (con_eat d 4 (by decide) (F (b * 8 + i)) l1 s1 (by exact hs1)) ab_pfx rfl (by decide) rfl rfl rfl rfl rfl rfl (Nat.le_of_ble_eq_true rfl) dX2_putContent_66 (fun w' v h => by rw [h.2]; rfl) (fun w2 v2 hq => ?_)
          obtain ⟨rfl, hw2⟩ := hq
          obtain ⟨s2, hs2⟩ : ∃ z, z = eat s1 (bys 4 (F (b * 8 + i))) := ⟨_, rfl⟩
          rw [← hs2] at hw2
          subst hw2
          refine G_iinc (L' := [_, _, _, _, _]) (v := nI (i + 1)) dX2_putContent_69 rfl (nI_succ i).symm rfl ?_
          refine G_goto (tgt := 42) dX2_putContent_72 (by decide) ?_
          refine ih (i + 1) s2 (l1 + nI 4) (by omega) (by rw [hs2]; exact eat_lt _ _ hs1) ?_ ?_
          · rw [← he, hs2, ← eat_app]; rfl
          · rw [← hl, Int32.add_assoc, nI_add, show 4 + 4 * k = 4 * (k + 1) by omega]
      exact loop 8 0 s len rfl hs (by rw [e]) (by rw [e, hbs_len])
  · have e : pcB F bl p = bys 4 (nI p) := by
      unfold pcB
      rw [if_pos hlt]
    refine G_aload_n dX2_putContent_7 rfl ?_
    refine G_get (f := 0) kc3 dX2_putContent_8 fX2_22 (by decide) rfl rfl ?_
    refine G_iload_n dX2_putContent_11 rfl ?_
    refine G_iconst (v := 4) dX2_putContent_12 (by decide) ?_
    refine G_V (is := [1, 2, 3]) (fo := []) (as := [.ref 100, .int (nI p), .int (nI 4)]) (as' := [.int (nI p), .int (nI 4)]) (st := []) (k := 0) (n := 0) cX2_putContent_13 (con_eat d 4 (by decide) (nI p) len s (by exact hs)) ab_pfx rfl (by decide) rfl rfl rfl rfl rfl rfl (Nat.le_of_ble_eq_true rfl) dX2_putContent_13 (fun w' v h => by rw [h.2]; rfl) (fun w2 v2 hq => ?_)
    obtain ⟨rfl, hw2⟩ := hq
    obtain ⟨s2, hs2⟩ : ∃ z, z = eat s (bys 4 (nI p)) := ⟨_, rfl⟩
    rw [← hs2] at hw2
    subst hw2
    refine G_iload_n dX2_putContent_16 rfl ?_
    refine G_sipush (v := 1002) dX2_putContent_17 (by decide) ?_
    refine G_icmp_ltN (tgt := 75) p 1002 dX2_putContent_20 (by decide) rfl rfl (by omega) (by omega) (fun _ => ?_) (fun h => by omega)
    refine G_ret (v := none) ⟨dX2_putContent_75, rfl⟩ ⟨rfl, ?_⟩
    rw [e, ← hs2, bys_len]
    rfl
end
section
/-! A digest by the class's words doesn't hang on what stood in its rows before. -/
def ub (x : Int32) (i : Nat) : Bool := (uw x).testBit i
theorem ub_ext {x y : Int32} (h : ∀ i, i < 32 → ub x i = ub y i) : x = y := by
  apply uw_inj
  apply Nat.eq_of_testBit_eq
  intro i
  by_cases hi : i < 32
  · exact h i hi
  · rw [Nat.testBit_lt_two_pow (Nat.lt_of_lt_of_le (uw_lt x) (Nat.pow_le_pow_right (by decide) (by omega))), Nat.testBit_lt_two_pow (Nat.lt_of_lt_of_le (uw_lt y) (Nat.pow_le_pow_right (by decide) (by omega)))]
theorem ub_or (x y : Int32) (i : Nat) : ub (x ||| y) i = (ub x i || ub y i) := by
  unfold ub uw
  rw [show (x ||| y).toBitVec = x.toBitVec ||| y.toBitVec from rfl, BitVec.toNat_or, Nat.testBit_or]
theorem ub_ls8 (x : Int32) {i : Nat} (hi : i < 32) : ub (ls x 8) i = (decide (8 ≤ i) && ub x (i - 8)) := by
  unfold ub uw ls
  rw [pk_shl _ _ 8 (by decide), Nat.testBit_mod_two_pow, Nat.mul_comm, Nat.testBit_two_pow_mul]
  simp [hi]
/-- alike as far as it counts -/
def RS (s t : SS) : Prop := s.2.2 = t.2.2 ∧ s.2.2 < 64 ∧ (∀ j, j < 8 → s.1 j = t.1 j) ∧ (∀ q, q < s.2.2 / 4 → s.2.1 q = t.2.1 q) ∧ ∀ i, i < 8 * (s.2.2 % 4) → ub (s.2.1 (s.2.2 / 4)) i = ub (t.2.1 (s.2.2 / 4)) i
theorem sc_alike {g g' : Nat → Int32} (h : ∀ q, q < 16 → g q = g' q) : ∀ n q, q < 16 + n → scN n g q = scN n g' q
  | 0, q, hq => h q (by omega)
  | n + 1, q, hq => by
    have ih := sc_alike h n
    show upd _ _ _ q = upd _ _ _ q
    by_cases e : q = 16 + n
    · rw [e, pk_us, pk_us]
      unfold sc1
      rw [ih (16 + n - 16) (by omega), ih (16 + n - 15) (by omega), ih (16 + n - 7) (by omega), ih (16 + n - 2) (by omega)]
    · rw [pk_un e, pk_un e]
      exact ih q (by omega)
theorem rd_alike {w w' : Nat → Int32} (s : S8) : ∀ n, (∀ q, q < n → w q = w' q) → rdN n w s = rdN n w' s
  | 0, _ => rfl
  | n + 1, h => by
    show rd _ (w n) (rdN n w s) = rd _ (w' n) (rdN n w' s)
    rw [rd_alike s n (fun q hq => h q (by omega)), h n (by omega)]
theorem add8_at (st : Nat → Int32) (a b c d e f g h : Int32) : add8 st (a, b, c, d, e, f, g, h) 0 = st 0 + a ∧ add8 st (a, b, c, d, e, f, g, h) 1 = st 1 + b ∧ add8 st (a, b, c, d, e, f, g, h) 2 = st 2 + c ∧ add8 st (a, b, c, d, e, f, g, h) 3 = st 3 + d ∧ add8 st (a, b, c, d, e, f, g, h) 4 = st 4 + e ∧ add8 st (a, b, c, d, e, f, g, h) 5 = st 5 + f ∧ add8 st (a, b, c, d, e, f, g, h) 6 = st 6 + g ∧ add8 st (a, b, c, d, e, f, g, h) 7 = st 7 + h := by
  simp [add8, upd]
/-- word j of the eight -/
def s8 (s : S8) (j : Nat) : Int32 := match s, j with
  | (a, _, _, _, _, _, _, _), 0 => a
  | (_, b, _, _, _, _, _, _), 1 => b
  | (_, _, c, _, _, _, _, _), 2 => c
  | (_, _, _, d, _, _, _, _), 3 => d
  | (_, _, _, _, e, _, _, _), 4 => e
  | (_, _, _, _, _, f, _, _), 5 => f
  | (_, _, _, _, _, _, g, _), 6 => g
  | (_, _, _, _, _, _, _, h), _ => h
theorem add8_s8 (st : Nat → Int32) (s : S8) {j : Nat} (hj : j < 8) : add8 st s j = st j + s8 s j := by
  obtain ⟨a, b, c, d, e, f, g, h⟩ := s
  obtain ⟨h0, h1, h2, h3, h4, h5, h6, h7⟩ := add8_at st a b c d e f g h
  match j, hj with
  | 0, _ => exact h0
  | 1, _ => exact h1
  | 2, _ => exact h2
  | 3, _ => exact h3
  | 4, _ => exact h4
  | 5, _ => exact h5
  | 6, _ => exact h6
  | 7, _ => exact h7
theorem mix_alike {st st' ws ws' : Nat → Int32} (h1 : ∀ j, j < 8 → st j = st' j) (h2 : ∀ q, q < 16 → ws q = ws' q) {j : Nat} (hj : j < 8) : mixS st ws j = mixS st' ws' j := by
  unfold mixS
  have e1 : ini st = ini st' := by
    unfold ini
    rw [h1 0 (by decide), h1 1 (by decide), h1 2 (by decide), h1 3 (by decide), h1 4 (by decide), h1 5 (by decide), h1 6 (by decide), h1 7 (by decide)]
  rw [add8_s8 _ _ hj, add8_s8 _ _ hj, h1 j hj, e1, rd_alike (ini st') 64 (fun q hq => sc_alike h2 48 q (by omega))]
theorem RS_absorb {s t : SS} (h : RS s t) (b : Int32) : RS (absorb s b) (absorb t b) := by
  obtain ⟨st, ws, fl⟩ := s
  obtain ⟨st', ws', fl'⟩ := t
  obtain ⟨h1, h2, h3, h4, h5⟩ := h
  have h1 : fl = fl' := h1
  subst h1
  have h2 : fl < 64 := h2
  have h3 : ∀ j, j < 8 → st j = st' j := h3
  have h4 : ∀ q, q < fl / 4 → ws q = ws' q := h4
  have h5 : ∀ i, i < 8 * (fl % 4) → ub (ws (fl / 4)) i = ub (ws' (fl / 4)) i := h5
  have new : ∀ i, i < 8 * (fl % 4) + 8 → ub (ls (ws (fl / 4)) 8 ||| b) i = ub (ls (ws' (fl / 4)) 8 ||| b) i := fun i hi => by
    rw [ub_or, ub_or, ub_ls8 _ (by omega), ub_ls8 _ (by omega)]
    by_cases h8 : 8 ≤ i
    · rw [h5 (i - 8) (by omega)]
    · simp [h8]
  have whole : fl % 4 = 3 → ls (ws (fl / 4)) 8 ||| b = ls (ws' (fl / 4)) 8 ||| b := fun e => ub_ext fun i hi => new i (by omega)
  have old : fl % 4 = 3 → ∀ q, q < fl / 4 + 1 → upd ws (fl / 4) (ls (ws (fl / 4)) 8 ||| b) q = upd ws' (fl / 4) (ls (ws' (fl / 4)) 8 ||| b) q := fun e q hq => by
    by_cases e2 : q = fl / 4
    · rw [e2, pk_us, pk_us, whole e]
    · rw [pk_un e2, pk_un e2]; exact h4 q (by omega)
  unfold absorb
  by_cases hf : fl + 1 = 64
  · rw [if_pos (by exact hf), if_pos (by exact hf)]
    refine ⟨rfl, by show 0 < 64; omega, fun j hj => ?_, fun q hq => ?_, fun i hi => ?_⟩
    · dsimp only
      exact mix_alike h3 (fun q hq => old (by omega) q (by omega)) hj
    · have hq : q < 0 / 4 := hq
      omega
    · have hi : i < 8 * (0 % 4) := hi
      omega
  · rw [if_neg (by exact hf), if_neg (by exact hf)]
    refine ⟨rfl, by show fl + 1 < 64; omega, h3, fun q hq => ?_, fun i hi => ?_⟩
    · have hq : q < (fl + 1) / 4 := hq
      show upd ws (fl / 4) _ q = upd ws' (fl / 4) _ q
      by_cases e : fl % 4 = 3
      · exact old e q (by omega)
      · rw [pk_un (by omega), pk_un (by omega)]; exact h4 q (by omega)
    · have hi : i < 8 * ((fl + 1) % 4) := hi
      show ub (upd ws (fl / 4) _ ((fl + 1) / 4)) i = ub (upd ws' (fl / 4) _ ((fl + 1) / 4)) i
      rw [show (fl + 1) / 4 = fl / 4 by omega, pk_us, pk_us]
      exact new i (by omega)
theorem RS_eat : ∀ (l : List Int32) {s t : SS}, RS s t → RS (eat s l) (eat t l)
  | [], _, _, h => h
  | b :: l, s, t, h => RS_eat l (RS_absorb h b)
theorem RS_put (k : Nat) (x : Int32) {s t : SS} (h : RS s t) : RS (putF k x s) (putF k x t) := by
  rw [putF_bys, putF_bys]
  exact RS_eat _ h
theorem RS_pad : ∀ (k : Nat) {s t : SS}, RS s t → RS (padF k s) (padF k t)
  | 0, _, _, h => h
  | k + 1, s, t, h => by
    have e := h.1
    unfold padF
    rw [← e]
    split
    · exact h
    · exact RS_pad k (RS_put 1 0 h)
theorem RS_end {s t : SS} (h : RS s t) (len : Int32) : RS (endF s len) (endF t len) := RS_put 4 _ (RS_put 4 0 (RS_pad 64 (RS_put 1 128 h)))
/-- a digest, by what stood in the rows before -/
def dg (st ws : Nat → Int32) (msg : List Int32) : Nat → Int32 := (endF (eat (va_cpy (ab_l ab_start) st 0 0 8, ws, 0) msg) (nI msg.length)).1
/-- THE DIGEST of a list of bytes -/
def dig (msg : List Int32) : Nat → Int32 := dg (fun _ => 0) (fun _ => 0) msg
theorem dg_dig (st ws : Nat → Int32) (msg : List Int32) {j : Nat} (hj : j < 8) : dg st ws msg j = dig msg j := by
  have h : RS (va_cpy (ab_l ab_start) st 0 0 8, ws, 0) (va_cpy (ab_l ab_start) (fun _ => 0) 0 0 8, fun _ => 0, 0) := by
    refine ⟨rfl, by show 0 < 64; omega, fun j hj => ?_, fun q hq => ?_, fun i hi => ?_⟩
    · show va_cpy (ab_l ab_start) st 0 0 8 j = va_cpy (ab_l ab_start) (fun _ => 0) 0 0 8 j
      rw [pk_cpy_in (by omega) (by omega), pk_cpy_in (by omega) (by omega)]
    · have hq : q < 0 / 4 := hq
      omega
    · have hi : i < 8 * (0 % 4) := hi
      omega
  exact (RS_end (RS_eat msg h) _).2.2.1 j hj
end
section
/-! Hasher.describe. -/
theorem kp_lt (K p : Nat) : kp K p < 1024 := Nat.mod_lt _ (by decide)
/-- a description as a number -/
def dsc (b : Nat) (rk : Nat → Nat) (K : Nat) : Nat := (dp b rk (kp K 0) * 1024 + dp b rk (kp K 1)) * 1024 + dp b rk (kp K 2)
def isB (b P : Nat) : Bool := decide (P < 8 ∧ 7 - P = b)
def std_ (b K : Nat) : Bool := isB b (kp K 0) || isB b (kp K 1) || isB b (kp K 2)
/-- the descriptions of blank b in the first n triples -/
def dls (b : Nat) (rk k : Nat → Nat) : Nat → List Nat
  | 0 => []
  | n + 1 => if std_ b (k n) then dls b rk k n ++ [dsc b rk (k n)] else dls b rk k n
theorem dls_len (b : Nat) (rk k : Nat → Nat) : ∀ n, (dls b rk k n).length ≤ n
  | 0 => Nat.le_refl _
  | n + 1 => by
    have := dls_len b rk k n
    unfold dls
    split
    · rw [List.length_append, List.length_singleton]; omega
    · omega
theorem dp_lt {b : Nat} {rk : Nat → Nat} {P : Nat} (hP : P < 1024) (h : P < 8 → rk (7 - P) < 8) : dp b rk P < 1024 := by
  unfold dp
  split
  · omega
  · split
    · omega
    · have := h (by omega); omega
theorem pt_eq {P b : Nat} (hP : P < 1024) (hb : b < 8) : nI P - 8 = (-1) - nI b ↔ isB b P = true := by
  have h64 : ∀ q, q < 8 → ∀ c, c < 8 → (nI q - 8 = (-1) - nI c ↔ isB c q = true) := by decide
  by_cases h : P < 8
  · exact h64 P h b hb
  · have hneg : ∀ c, c < 8 → (-1) - nI c < 0 := by decide
    constructor
    · intro e
      have := hneg b hb
      rw [← e, show nI P - 8 = nI (P - 8) from pk_sub (a := P) (b := 8) (by omega)] at this
      exact absurd this (nI_pos (by omega))
    · intro e
      unfold isB at e
      simp [h] at e
set_option maxRecDepth 20000 in
theorem con_describe (d nt b : Nat) (hn : nt ≤ 40) (hb : b < 8) (D K f : Nat → Int32) (k rk : Nat → Nat) (hK : ∀ i, i < nt → K i = nI (k i) ∧ k i < 2 ^ 30) (hr : ∀ i p, i < nt → p < 3 → kp (k i) p < 8 → f (7 - kp (k i) p) = nI (rk (7 - kp (k i) p)) ∧ rk (7 - kp (k i) p) < 8) (bv hv ov cv : Int32) (t1 t2 t3 t4 t5 : Nat) : Con mX2_describe (d + 2) 0 0 [.inr (3, [.ref t1, .ref 101, .ref t2]), cI 40 D, .inr (1, [.ref 103, .int bv, .int (nI nt), .int hv, .int ov, .ref 104]), cI 40 K, .inr (2, [.ref t3, .ref t4, .ref 105, .ref t5, .int cv]), cI 8 f] [.ref 100, .ref 102, .int (nI b)] (fun w' v => v = some (.int (nI (dls b rk k nt).length)) ∧ ∃ g, w' = [.inr (3, [.ref t1, .ref 101, .ref t2]), cI 40 g, .inr (1, [.ref 103, .int bv, .int (nI nt), .int hv, .int ov, .ref 104]), cI 40 K, .inr (2, [.ref t3, .ref t4, .ref 105, .ref t5, .int cv]), cI 8 f] ∧ ∀ j x, (dls b rk k nt)[j]? = some x → g j = nI x) := by
  refine Con.of (ab_okc rfl (by decide)) (Nat.le_of_ble_eq_true rfl) ?_
  show G ab_x0 mX2_describe (d + 2) 0 0 _ 0 [some (.ref 100), some (.ref 102), some (.int (nI b)), none, none, none, none, none, none] [] _
  refine G_iconst (v := 0) dX2_describe_0 (by decide) ?_
  refine G_istore_n (L' := [_, _, _, _, _, _, _, _, _]) dX2_describe_1 (Nat.le_of_ble_eq_true rfl) rfl ?_
  refine G_iconst (v := 0) dX2_describe_2 (by decide) ?_
  refine G_istore (L' := [_, _, _, _, _, _, _, _, _]) dX2_describe_3 (Nat.le_of_ble_eq_true rfl) rfl ?_
  have outer : ∀ (i : Nat) (D : Nat → Int32) (z5 z6 z7 z8 : Option Value), i ≤ nt → (∀ j x, (dls b rk k i)[j]? = some x → D j = nI x) → G ab_x0 mX2_describe (d + 2) 0 0 (fun w' v => v = some (.int (nI (dls b rk k nt).length)) ∧ ∃ g, w' = [.inr (3, [.ref t1, .ref 101, .ref t2]), cI 40 g, .inr (1, [.ref 103, .int bv, .int (nI nt), .int hv, .int ov, .ref 104]), cI 40 K, .inr (2, [.ref t3, .ref t4, .ref 105, .ref t5, .int cv]), cI 8 f] ∧ ∀ j x, (dls b rk k nt)[j]? = some x → g j = nI x) 5 [some (.ref 100), some (.ref 102), some (.int (nI b)), some (.int (nI (dls b rk k i).length)), some (.int (nI i)), z5, z6, z7, z8] [] [.inr (3, [.ref t1, .ref 101, .ref t2]), cI 40 D, .inr (1, [.ref 103, .int bv, .int (nI nt), .int hv, .int ov, .ref 104]), cI 40 K, .inr (2, [.ref t3, .ref t4, .ref 105, .ref t5, .int cv]), cI 8 f] := by
    intro i
    induction hm : nt - i using Nat.strongRecOn generalizing i with
    | ind m ih =>
      subst hm
      intro D z5 z6 z7 z8 hi hD
      have hcl := dls_len b rk k i
      refine G_iload dX2_describe_5 rfl ?_
      refine G_aload_n dX2_describe_7 rfl ?_
      refine G_get (f := 2) kc1 dX2_describe_8 fX2_100 (by decide) rfl rfl ?_
      refine G_icmp_geN (tgt := 109) i nt dX2_describe_11 (by decide) rfl rfl (by omega) (by omega) (fun hge => ?_) (fun hlt => ?_)
      · have e : i = nt := by omega
        subst e
        refine G_iload_n dX2_describe_109 rfl ?_
        exact G_ret (v := some (.int _)) ⟨dX2_describe_110, _, rfl, rfl⟩ ⟨rfl, D, rfl, hD⟩
      obtain ⟨hK1, hK2⟩ := hK i hlt
      refine G_iconst (v := 0) dX2_describe_14 (by decide) ?_
      refine G_istore (L' := [_, _, _, _, _, _, _, _, _]) dX2_describe_15 (Nat.le_of_ble_eq_true rfl) rfl ?_
      refine G_iconst (v := 0) dX2_describe_17 (by decide) ?_
      refine G_istore (L' := [_, _, _, _, _, _, _, _, _]) dX2_describe_18 (Nat.le_of_ble_eq_true rfl) rfl ?_
      refine G_iconst (v := 0) dX2_describe_20 (by decide) ?_
      refine G_istore (L' := [_, _, _, _, _, _, _, _, _]) dX2_describe_21 (Nat.le_of_ble_eq_true rfl) rfl ?_
      have step : ∀ (p r : Nat) (sb : Bool) (z : Option Value), p < 3 → r < 2 ^ 20 → (∀ z', G ab_x0 mX2_describe (d + 2) 0 0 (fun w' v => v = some (.int (nI (dls b rk k nt).length)) ∧ ∃ g, w' = [.inr (3, [.ref t1, .ref 101, .ref t2]), cI 40 g, .inr (1, [.ref 103, .int bv, .int (nI nt), .int hv, .int ov, .ref 104]), cI 40 K, .inr (2, [.ref t3, .ref t4, .ref 105, .ref t5, .int cv]), cI 8 f] ∧ ∀ j x, (dls b rk k nt)[j]? = some x → g j = nI x) 23 [some (.ref 100), some (.ref 102), some (.int (nI b)), some (.int (nI (dls b rk k i).length)), some (.int (nI i)), some (.int (nI (r * 1024 + dp b rk (kp (k i) p)))), some (.int (bi (sb || isB b (kp (k i) p)))), some (.int (nI (p + 1))), z'] [] [.inr (3, [.ref t1, .ref 101, .ref t2]), cI 40 D, .inr (1, [.ref 103, .int bv, .int (nI nt), .int hv, .int ov, .ref 104]), cI 40 K, .inr (2, [.ref t3, .ref t4, .ref 105, .ref t5, .int cv]), cI 8 f]) → G ab_x0 mX2_describe (d + 2) 0 0 (fun w' v => v = some (.int (nI (dls b rk k nt).length)) ∧ ∃ g, w' = [.inr (3, [.ref t1, .ref 101, .ref t2]), cI 40 g, .inr (1, [.ref 103, .int bv, .int (nI nt), .int hv, .int ov, .ref 104]), cI 40 K, .inr (2, [.ref t3, .ref t4, .ref 105, .ref t5, .int cv]), cI 8 f] ∧ ∀ j x, (dls b rk k nt)[j]? = some x → g j = nI x) 23 [some (.ref 100), some (.ref 102), some (.int (nI b)), some (.int (nI (dls b rk k i).length)), some (.int (nI i)), some (.int (nI r)), some (.int (bi sb)), some (.int (nI p)), z] [] [.inr (3, [.ref t1, .ref 101, .ref t2]), cI 40 D, .inr (1, [.ref 103, .int bv, .int (nI nt), .int hv, .int ov, .ref 104]), cI 40 K, .inr (2, [.ref t3, .ref t4, .ref 105, .ref t5, .int cv]), cI 8 f] := by
        intro p r sb z hp hr2 kk
        have hP := kp_lt (k i) p
        have hrr := hr i p hlt hp
        have hdl := dp_lt (b := b) hP (fun h => (hrr h).2)
        refine G_iload dX2_describe_23 rfl ?_
        refine G_iconst (v := 3) dX2_describe_25 (by decide) ?_
        refine G_icmp_geN (tgt := 87) p 3 dX2_describe_26 (by decide) rfl rfl (by omega) (by omega) (fun h => by omega) (fun _ => ?_)
        refine G_aload_n dX2_describe_29 rfl ?_
        refine G_get (f := 0) kc1 dX2_describe_30 fX2_103 (by decide) rfl rfl ?_
        refine G_iload dX2_describe_33 rfl ?_
        refine G_ialdN i dX2_describe_35 rfl rfl (by omega) (by omega) ?_
        rw [hK1]
        refine G_iload dX2_describe_36 rfl ?_
        refine G_SN (is := []) (fo := []) (as := [.int (nI (k i)), .int (nI p)]) (as' := [.int (nI (k i)), .int (nI p)]) (st := []) (k := 0) (n := 0) cX2_describe_38 (con_pointAt d (k i) p hK2 hp) ab_pfx rfl (by decide) rfl rfl rfl rfl (Nat.le_of_ble_eq_true rfl) dX2_describe_38 (fun w' v h => by rw [h.1]) (fun w2 v2 hq => ?_)
        obtain ⟨rfl, rfl⟩ := hq
        refine G_istore (L' := [_, _, _, _, _, _, _, _, _]) dX2_describe_41 (Nat.le_of_ble_eq_true rfl) rfl ?_
        refine G_iload dX2_describe_43 rfl ?_
        have fin : G ab_x0 mX2_describe (d + 2) 0 0 (fun w' v => v = some (.int (nI (dls b rk k nt).length)) ∧ ∃ g, w' = [.inr (3, [.ref t1, .ref 101, .ref t2]), cI 40 g, .inr (1, [.ref 103, .int bv, .int (nI nt), .int hv, .int ov, .ref 104]), cI 40 K, .inr (2, [.ref t3, .ref t4, .ref 105, .ref t5, .int cv]), cI 8 f] ∧ ∀ j x, (dls b rk k nt)[j]? = some x → g j = nI x) 61 [some (.ref 100), some (.ref 102), some (.int (nI b)), some (.int (nI (dls b rk k i).length)), some (.int (nI i)), some (.int (nI r)), some (.int (bi sb)), some (.int (nI p)), some (.int (nI (kp (k i) p) - 8))] [.int (bi (sb || isB b (kp (k i) p)))] [.inr (3, [.ref t1, .ref 101, .ref t2]), cI 40 D, .inr (1, [.ref 103, .int bv, .int (nI nt), .int hv, .int ov, .ref 104]), cI 40 K, .inr (2, [.ref t3, .ref t4, .ref 105, .ref t5, .int cv]), cI 8 f] := by
          refine G_istore (L' := [_, _, _, _, _, _, _, _, _]) dX2_describe_61 (Nat.le_of_ble_eq_true rfl) rfl ?_
          refine G_iload dX2_describe_63 rfl ?_
          refine G_bipush (v := 10) dX2_describe_65 (by decide) ?_
          refine G_ishl dX2_describe_67 ?_
          refine G_aload_n dX2_describe_68 rfl ?_
          refine G_get (f := 5) kc1 dX2_describe_69 fX2_39 (by decide) rfl rfl ?_
          refine G_iload dX2_describe_72 rfl ?_
          refine G_iload_n dX2_describe_74 rfl ?_
          refine G_S (is := [4, 5]) (fo := [t3, t4, t5]) (as := [.ref 100, .int (nI (kp (k i) p) - 8), .int (nI b)]) (as' := [.ref 104, .int (nI (kp (k i) p) - 8), .int (nI b)]) (st := [.int (nI r <<< ((10 : Int32) &&& 31))]) (k := 0) (n := 0) cX2_describe_75 (con_partFor (d + 1) (kp (k i) p) b hP hb f rk (fun h => (hrr h).1) (.ref 4) (.ref 5) (.ref 6) (.int cv)) ab_pfx rfl (by decide) rfl rfl rfl rfl (Nat.le_of_ble_eq_true rfl) dX2_describe_75 (fun w' v h => by rw [h.1]) (fun w2 v2 hq => ?_)
          obtain ⟨rfl, rfl⟩ := hq
          refine G_ior dX2_describe_78 ?_
          refine G_topi (y := nI (r * 1024 + dp b rk (kp (k i) p))) ?_ ?_
          · rw [pk_shlN _ 10 (by decide) (by omega), show r * 2 ^ 10 = r * 1024 from rfl, nI_orA hdl]
          refine G_istore (L' := [_, _, _, _, _, _, _, _, _]) dX2_describe_79 (Nat.le_of_ble_eq_true rfl) rfl ?_
          refine G_iinc (L' := [_, _, _, _, _, _, _, _, _]) (v := nI (p + 1)) dX2_describe_81 rfl (nI_succ p).symm rfl ?_
          refine G_goto (tgt := 23) dX2_describe_84 (by decide) ?_
          exact kk _
        cases sb with
        | true =>
          refine G_if_ne (tgt := 56) dX2_describe_45 (by decide) (fun _ => ?_) (fun h => absurd h (by decide))
          refine G_iconst (v := 1) dX2_describe_56 (by decide) ?_
          refine G_goto (tgt := 61) dX2_describe_57 (by decide) ?_
          exact fin
        | false =>
          refine G_if_ne (tgt := 56) dX2_describe_45 (by decide) (fun h => absurd rfl h) (fun _ => ?_)
          refine G_iload dX2_describe_48 rfl ?_
          refine G_iconst (v := (-1)) dX2_describe_50 (by decide) ?_
          refine G_iload_n dX2_describe_51 rfl ?_
          refine G_isub dX2_describe_52 ?_
          refine G_icmp_ne (tgt := 60) dX2_describe_53 (by decide) (fun h => ?_) (fun h => ?_)
          · have e : isB b (kp (k i) p) = false := by
              cases hq : isB b (kp (k i) p)
              · rfl
              · exact absurd ((pt_eq hP hb).mpr hq) h
            rw [e] at fin
            refine G_iconst (v := 0) dX2_describe_60 (by decide) ?_
            exact fin
          · have e := (pt_eq hP hb).mp h
            rw [e] at fin
            refine G_iconst (v := 1) dX2_describe_56 (by decide) ?_
            refine G_goto (tgt := 61) dX2_describe_57 (by decide) ?_
            exact fin
      have b0 := dp_lt (b := b) (kp_lt (k i) 0) (fun h => (hr i 0 hlt (by omega) h).2)
      have b1 := dp_lt (b := b) (kp_lt (k i) 1) (fun h => (hr i 1 hlt (by omega) h).2)
      refine step 0 0 false _ (by omega) (by omega) (fun z => ?_)
      refine step 1 _ _ _ (by omega) (by omega) (fun z => ?_)
      refine step 2 _ _ _ (by omega) (by omega) (fun z => ?_)
      rw [show (0 * 1024 + dp b rk (kp (k i) 0)) * 1024 + dp b rk (kp (k i) 1) = dp b rk (kp (k i) 0) * 1024 + dp b rk (kp (k i) 1) by omega, show (((false || isB b (kp (k i) 0)) || isB b (kp (k i) 1)) || isB b (kp (k i) 2)) = std_ b (k i) by simp [std_]]
      have hds : (dp b rk (kp (k i) 0) * 1024 + dp b rk (kp (k i) 1)) * 1024 + dp b rk (kp (k i) 2) = dsc b rk (k i) := rfl
      rw [hds]
      refine G_iload dX2_describe_23 rfl ?_
      refine G_iconst (v := 3) dX2_describe_25 (by decide) ?_
      refine G_icmp_geN (tgt := 87) 3 3 dX2_describe_26 (by decide) rfl rfl (by omega) (by omega) (fun _ => ?_) (fun h => by omega)
      refine G_iload dX2_describe_87 rfl ?_
      cases hs : std_ b (k i) with
      | false =>
        refine G_if_eq (tgt := 103) dX2_describe_89 (by decide) (fun _ => ?_) (fun h => absurd rfl h)
        refine G_iinc (L' := [_, _, _, _, _, _, _, _, _]) (v := nI (i + 1)) dX2_describe_103 rfl (nI_succ i).symm rfl ?_
        refine G_goto (tgt := 5) dX2_describe_106 (by decide) ?_
        have e : dls b rk k (i + 1) = dls b rk k i := by
          show (if std_ b (k i) then _ else _) = _
          rw [hs]; rfl
        have := ih (nt - (i + 1)) (by omega) (i + 1) rfl D (some (.int (nI (dsc b rk (k i))))) (some (.int (bi false))) (some (.int (nI 3))) z (by omega) (by rw [e]; exact hD)
        rw [e] at this
        exact this
      | true =>
        refine G_if_eq (tgt := 103) dX2_describe_89 (by decide) (fun h => absurd h (by decide)) (fun _ => ?_)
        refine G_aload_n dX2_describe_92 rfl ?_
        refine G_get (f := 1) kc3 dX2_describe_93 fX2_9 (by decide) rfl rfl ?_
        refine G_iload_n dX2_describe_96 rfl ?_
        refine G_iload dX2_describe_97 rfl ?_
        refine G_iastN (w' := [_, _, _, _, _, _]) (dls b rk k i).length dX2_describe_99 rfl rfl (by omega) (by omega) rfl ?_
        refine G_iinc (L' := [_, _, _, _, _, _, _, _, _]) (v := nI ((dls b rk k i).length + 1)) dX2_describe_100 rfl (nI_succ _).symm rfl ?_
        refine G_iinc (L' := [_, _, _, _, _, _, _, _, _]) (v := nI (i + 1)) dX2_describe_103 rfl (nI_succ i).symm rfl ?_
        refine G_goto (tgt := 5) dX2_describe_106 (by decide) ?_
        have e : dls b rk k (i + 1) = dls b rk k i ++ [dsc b rk (k i)] := by
          show (if std_ b (k i) then _ else _) = _
          rw [hs]; rfl
        have := ih (nt - (i + 1)) (by omega) (i + 1) rfl (upd D (dls b rk k i).length (nI (dsc b rk (k i)))) (some (.int (nI (dsc b rk (k i))))) (some (.int (bi true))) (some (.int (nI 3))) z (by omega) (fun j x hx => by
          rw [e] at hx
          by_cases hj : j < (dls b rk k i).length
          · rw [List.getElem?_append_left hj] at hx
            rw [pk_un (by omega)]
            exact hD j x hx
          · rw [List.getElem?_append_right (by omega)] at hx
            have hz : j - (dls b rk k i).length < 1 := (List.getElem?_eq_some_iff.mp hx).1
            have hj2 : j = (dls b rk k i).length := by omega
            subst hj2
            rw [Nat.sub_self] at hx
            cases hx
            exact pk_us)
        rw [e, List.length_append, List.length_singleton] at this
        exact this
  exact outer 0 D _ _ _ _ (by omega) (fun j x hx => by simp [dls] at hx)
end
section
/-! Hasher.makesMore. -/
theorem perm_sorted_eq : ∀ (l1 l2 : List Nat), l1.Perm l2 → l1.Pairwise (· ≤ ·) → l2.Pairwise (· ≤ ·) → l1 = l2
  | [], l2, h, _, _ => (List.nil_perm.mp h).symm
  | a :: l1, [], h, _, _ => absurd (List.perm_nil.mp h) (by simp)
  | a :: l1, b :: l2, h, h1, h2 => by
    have h1' := List.pairwise_cons.mp h1
    have h2' := List.pairwise_cons.mp h2
    have ha : a ∈ b :: l2 := h.subset List.mem_cons_self
    have hb : b ∈ a :: l1 := h.symm.subset List.mem_cons_self
    have e : a = b := by
      rcases List.mem_cons.mp ha with q | q
      · exact q
      · rcases List.mem_cons.mp hb with r | r
        · exact r.symm
        · have := h1'.1 b r
          have := h2'.1 a q
          omega
    subst e
    rw [perm_sorted_eq l1 l2 (List.Perm.cons_inv h) h1'.2 h2'.2]
def srtN (l : List Nat) : List Nat := l.mergeSort (fun a b => decide (a ≤ b))
theorem srtN_perm (l : List Nat) : (srtN l).Perm l := List.mergeSort_perm l _
theorem srtN_sorted (l : List Nat) : (srtN l).Pairwise (· ≤ ·) := by
  have h := List.pairwise_mergeSort (le := fun a b => decide (a ≤ b)) (fun a b c h1 h2 => by simp at *; omega) (fun a b => by simp; omega) l
  exact h.imp (fun h => by simpa using h)
theorem nI_uw (x : Int32) : nI (uw x) = x := by
  apply uw_inj
  exact pk_tn (uw_lt x)
theorem srt_list {g g' : Nat → Int32} {c : Nat} {l : List Nat} (hl : l.length = c) (hg : ∀ j x, l[j]? = some x → g j = nI x) (hlt : ∀ x ∈ l, x < 2 ^ 31) (h : srt g g' c) : ∀ j x, (srtN l)[j]? = some x → g' j = nI x := by
  obtain ⟨h1, h2, -⟩ := h
  have e0 : arL g c = l.map nI := by
    unfold arL
    apply List.ext_getElem?
    intro j
    rw [List.getElem?_map, List.getElem?_map]
    by_cases hj : j < c
    · have hx : l[j]? = some l[j] := List.getElem?_eq_getElem (by omega)
      rw [hx, List.getElem?_range hj]
      show some (g j) = some (nI l[j])
      rw [hg j _ hx]
    · rw [List.getElem?_eq_none (by simp; omega), List.getElem?_eq_none (by omega)]
      rfl
  have e1 : ((arL g' c).map uw).Perm l := by
    have := h2.map uw
    rw [e0, List.map_map] at this
    have e2 : l.map (uw ∘ nI) = l := by
      have : l.map (uw ∘ nI) = l.map id := List.map_congr_left fun x hx => pk_tn (by have := hlt x hx; omega)
      rw [this, List.map_id]
    rw [e2] at this
    exact this
  have e3 : ((arL g' c).map uw).Pairwise (· ≤ ·) := by
    rw [List.pairwise_map]
    unfold arL
    rw [List.pairwise_map]
    have hp : (List.range c).Pairwise (· < ·) := List.pairwise_lt_range
    refine List.Pairwise.imp_of_mem (fun {a b} ha hb hab => ?_) hp
    have hb' := List.mem_range.mp hb
    have h3 := h1 a b hab hb'
    have mem : ∀ q, q < c → uw (g' q) < 2 ^ 31 := fun q hq => by
      have hm : uw (g' q) ∈ (arL g' c).map uw := List.mem_map_of_mem (List.mem_map_of_mem (List.mem_range.mpr hq))
      exact hlt _ (e1.subset hm)
    rw [← nI_uw (g' a), ← nI_uw (g' b)] at h3
    exact (nI_leI (mem a (by omega)) (mem b hb')).mp h3
  have e4 : (arL g' c).map uw = srtN l := perm_sorted_eq _ _ (e1.trans (srtN_perm l).symm) e3 (srtN_sorted l)
  intro j x hx
  rw [← e4, List.getElem?_map] at hx
  unfold arL at hx
  rw [List.getElem?_map] at hx
  by_cases hj : j < c
  · rw [List.getElem?_range hj] at hx
    have hx : some (uw (g' j)) = some x := hx
    rw [← Option.some.inj hx, nI_uw]
  · rw [List.getElem?_eq_none (by simp; omega)] at hx
    cases hx
def tag (P : Nat) : Int32 := if P < 1001 then 0 else if P = 1001 then 1 else 2
/-- the bytes of a place, of a description, of descriptions -/
def plB (F : Nat → Int32) (bl : Nat → Nat) (P : Nat) : List Int32 := bys 1 (tag P) ++ pcB F bl P
def dsB (F : Nat → Int32) (bl : Nat → Nat) (D : Nat) : List Int32 := plB F bl (kp D 0) ++ (plB F bl (kp D 1) ++ plB F bl (kp D 2))
/-- the message of blank b -/
def msgB (F : Nat → Int32) (bl rk k : Nat → Nat) (nt b : Nat) : List Int32 := pcB F bl (1002 + rk b) ++ (srtN (dls b rk k nt)).flatMap (dsB F bl)
theorem dsc_kp {b : Nat} {rk : Nat → Nat} {K : Nat} (h : ∀ p, p < 3 → dp b rk (kp K p) < 1024) : (∀ p, p < 3 → kp (dsc b rk K) p = dp b rk (kp K p)) ∧ dsc b rk K < 2 ^ 30 := by
  have h0 := h 0 (by omega)
  have h1 := h 1 (by omega)
  have h2 := h 2 (by omega)
  unfold dsc
  refine ⟨fun p hp => ?_, by omega⟩
  match p, hp with
  | 0, _ => show _ / 2 ^ 20 % 1024 = _; omega
  | 1, _ => show _ / 2 ^ 10 % 1024 = _; omega
  | 2, _ => show _ / 2 ^ 0 % 1024 = _; omega
theorem dls_mem {b : Nat} {rk k : Nat → Nat} : ∀ {n x : Nat}, x ∈ dls b rk k n → ∃ i, i < n ∧ x = dsc b rk (k i)
  | 0, x, h => by simp [dls] at h
  | n + 1, x, h => by
    unfold dls at h
    split at h
    · rcases List.mem_append.mp h with q | q
      · obtain ⟨i, hi, e⟩ := dls_mem q
        exact ⟨i, by omega, e⟩
      · exact ⟨n, by omega, by simpa using q⟩
    · obtain ⟨i, hi, e⟩ := dls_mem h
      exact ⟨i, by omega, e⟩
abbrev mW (s : SS) (len : Int32) (D F' g1 g2 g3 : Nat → Int32) (c' : Int32) (nb nt : Nat) (hs ro : Int32) (K F f1 f2 f3 : Nat → Int32) (cn : Nat) : List ab_C :=
  [.inr (3, [.ref 101, .ref 104, .ref 105]), .inr (7, [.ref 102, .ref 103, .int (nI s.2.2), .int len]), cI 8 s.1, cI 64 s.2.1, cI 40 D, .inr (2, [.ref 106, .ref 107, .ref 108, .ref 109, .int c']), cI 64 F', cI 8 g1, cI 8 g2, cI 9 g3,
   .inr (1, [.ref 111, .int (nI nb), .int (nI nt), .int hs, .int ro, .ref 112]), cI 40 K, .inr (2, [.ref 113, .ref 114, .ref 115, .ref 116, .int (nI cn)]), cI 64 F, cI 8 f1, cI 8 f2, cI 9 f3]
/-- keys of triples: their blanks are the graph's -/
def keysOk (K : Nat → Int32) (k : Nat → Nat) (nt nb : Nat) : Prop := ∀ i, i < nt → K i = nI (k i) ∧ k i < 2 ^ 30 ∧ ∀ p, p < 3 → (kp (k i) p < 8 → 7 - kp (k i) p < nb) ∧ kp (k i) p < 1009
/-- a Groups' rows hold groups -/
def grpOk (F f1 f2 f3 : Nat → Int32) (n : Nat) (o rk st : Nat → Nat) (cnt : Nat) : Prop := GP (hv F) n o rk st cnt ∧ (∀ j, j < n → f1 j = nI (o j)) ∧ (∀ j, j < n → f2 j = nI (rk j)) ∧ ∀ j, j ≤ cnt → f3 j = nI (st j)
set_option maxRecDepth 20000 in
set_option maxHeartbeats 4000000 in
theorem con_makesMore (d nb nt cn : Nat) (hnb : nb ≤ 8) (hnt : nt ≤ 40) (s : SS) (len c' hs ro : Int32) (D F' g1 g2 g3 K F f1 f2 f3 : Nat → Int32) (k o rk st : Nat → Nat) (hk : keysOk K k nt nb) (hg : grpOk F f1 f2 f3 nb o rk st cn) : Con mX2_makesMore (d + 3) 0 0 (mW s len D F' g1 g2 g3 c' nb nt hs ro K F f1 f2 f3 cn) [.ref 100, .ref 110] (fun w' v => (2 ≤ nb ∧ cn = nb ∧ v = some (.int 0) ∧ w' = mW s len D F' g1 g2 g3 c' nb nt hs ro K F f1 f2 f3 cn) ∨ (¬ (2 ≤ nb ∧ cn = nb) ∧ ∃ (s2 : SS) (len2 : Int32) (D2 F2 h1 h2 h3 : Nat → Int32) (o2 rk2 st2 : Nat → Nat) (cn2 : Nat), w' = mW s2 len2 D2 F2 h1 h2 h3 (nI cn2) nb nt hs ro K F f1 f2 f3 cn ∧ (∀ b j, b < nb → j < 8 → F2 (b * 8 + j) = dig (msgB F (fun g => o (st g)) rk k nt b) j) ∧ grpOk F2 h1 h2 h3 nb o2 rk2 st2 cn2 ∧ v = some (.int (bi (decide (cn < cn2)))))) := by
  obtain ⟨hG, hf1, hf2, hf3⟩ := id hg
  obtain ⟨gp1, gp2, gp3, gp4, gp5, gp6, gp7, gp8, gp9⟩ := id hG
  refine Con.of (ab_okc rfl (by decide)) (Nat.le_of_ble_eq_true rfl) ?_
  show G ab_x0 mX2_makesMore (d + 3) 0 0 _ 0 [some (.ref 100), some (.ref 110), none, none, none, none, none] [] _
  have main : ¬ (2 ≤ nb ∧ cn = nb) → ∀ (b : Nat) (s1 : SS) (l1 : Int32) (D1 F1 : Nat → Int32) (z3 z4 z5 z6 : Option Value), b ≤ nb → (∀ c j, c < b → j < 8 → F1 (c * 8 + j) = dig (msgB F (fun g => o (st g)) rk k nt c) j) → G ab_x0 mX2_makesMore (d + 3) 0 0 (fun w' v => (2 ≤ nb ∧ cn = nb ∧ v = some (.int 0) ∧ w' = mW s len D F' g1 g2 g3 c' nb nt hs ro K F f1 f2 f3 cn) ∨ (¬ (2 ≤ nb ∧ cn = nb) ∧ ∃ (s2 : SS) (len2 : Int32) (D2 F2 h1 h2 h3 : Nat → Int32) (o2 rk2 st2 : Nat → Nat) (cn2 : Nat), w' = mW s2 len2 D2 F2 h1 h2 h3 (nI cn2) nb nt hs ro K F f1 f2 f3 cn ∧ (∀ b j, b < nb → j < 8 → F2 (b * 8 + j) = dig (msgB F (fun g => o (st g)) rk k nt b) j) ∧ grpOk F2 h1 h2 h3 nb o2 rk2 st2 cn2 ∧ v = some (.int (bi (decide (cn < cn2)))))) 26 [some (.ref 100), some (.ref 110), some (.int (nI b)), z3, z4, z5, z6] [] (mW s1 l1 D1 F1 g1 g2 g3 c' nb nt hs ro K F f1 f2 f3 cn) := by
    intro hno b
    induction hm : nb - b using Nat.strongRecOn generalizing b with
    | ind m ih =>
      subst hm
      intro s1 l1 D1 F1 z3 z4 z5 z6 hb hF1
      refine G_iload_n dX2_makesMore_26 rfl ?_
      refine G_aload_n dX2_makesMore_27 rfl ?_
      refine G_get (f := 1) kc1 dX2_makesMore_28 fX2_32 (by decide) rfl rfl ?_
      refine G_icmp_geN (tgt := 188) b nb dX2_makesMore_31 (by decide) rfl rfl (by omega) (by omega) (fun hge => ?_) (fun hlt => ?_)
      · have e : b = nb := by omega
        subst e
        refine G_aload_n dX2_makesMore_188 rfl ?_
        refine G_get (f := 2) kc3 dX2_makesMore_189 fX2_18 (by decide) rfl rfl ?_
        refine G_aload_n dX2_makesMore_192 rfl ?_
        refine G_get (f := 1) kc1 dX2_makesMore_193 fX2_32 (by decide) rfl rfl ?_
        refine G_V (is := [5, 6, 7, 8, 9]) (fo := []) (as := [.ref 100, .int (nI b)]) (as' := [.int (nI b)]) (st := []) (k := 0) (n := 0) cX2_makesMore_196 (con_arrange (d + 1) b hnb F1 g1 g2 g3 c') ab_pfx rfl (by decide) rfl rfl rfl rfl rfl rfl (Nat.le_of_ble_eq_true rfl) dX2_makesMore_196 (fun w' v h => by obtain ⟨_, g1, g2, g3, cnt, o, rk, st, h, _⟩ := h; rw [h]; rfl) (fun w2 v2 hq => ?_)
        obtain ⟨rfl, h1, h2, h3, cn2, o2, rk2, st2, rfl, hGP, ho1, ho2, ho3⟩ := hq
        have hcn2 : cn2 ≤ b := hGP.2.2.2.2.2.2.2.1
        refine G_aload_n dX2_makesMore_199 rfl ?_
        refine G_get (f := 2) kc3 dX2_makesMore_200 fX2_18 (by decide) rfl rfl ?_
        refine G_get (f := 4) kc2 dX2_makesMore_203 fX2_66 (by decide) rfl rfl ?_
        refine G_aload_n dX2_makesMore_206 rfl ?_
        refine G_get (f := 5) kc1 dX2_makesMore_207 fX2_39 (by decide) rfl rfl ?_
        refine G_get (f := 4) kc2 dX2_makesMore_210 fX2_66 (by decide) rfl rfl ?_
        refine G_icmp_leN (tgt := 220) cn2 cn dX2_makesMore_213 (by decide) rfl rfl (by omega) (by omega) (fun hle => ?_) (fun hlt => ?_)
        · refine G_iconst (v := 0) dX2_makesMore_220 (by decide) ?_
          refine G_ret (v := some (.int _)) ⟨dX2_makesMore_221, _, rfl, rfl⟩ (Or.inr ⟨hno, s1, l1, D1, F1, h1, h2, h3, o2, rk2, st2, cn2, rfl, hF1, ⟨hGP, ho1, ho2, ho3⟩, ?_⟩)
          rw [decide_eq_false (by omega)]
          rfl
        refine G_iconst (v := 1) dX2_makesMore_216 (by decide) ?_
        refine G_goto (tgt := 221) dX2_makesMore_217 (by decide) ?_
        refine G_ret (v := some (.int _)) ⟨dX2_makesMore_221, _, rfl, rfl⟩ (Or.inr ⟨hno, s1, l1, D1, F1, h1, h2, h3, o2, rk2, st2, cn2, rfl, hF1, ⟨hGP, ho1, ho2, ho3⟩, ?_⟩)
        rw [decide_eq_true (by omega)]
        rfl
      have hrk : ∀ i p, i < nt → p < 3 → kp (k i) p < 8 → f2 (7 - kp (k i) p) = nI (rk (7 - kp (k i) p)) ∧ rk (7 - kp (k i) p) < 8 := fun i p hi hp h8 => by
        have a := ((hk i hi).2.2 p hp).1 h8
        have c := gp4 _ a
        exact ⟨hf2 _ a, by omega⟩
      have hdp : ∀ i p, i < nt → p < 3 → dp b rk (kp (k i) p) < 1024 := fun i p hi hp => dp_lt (kp_lt _ _) (fun h => (hrk i p hi hp h).2)
      refine G_aload_n dX2_makesMore_34 rfl ?_
      refine G_aload_n dX2_makesMore_35 rfl ?_
      refine G_iload_n dX2_makesMore_36 rfl ?_
      refine G_V (is := [0, 4, 10, 11, 12, 15]) (fo := [101, 105, 113, 114, 116]) (as := [.ref 100, .ref 102, .int (nI b)]) (as' := [.ref 110, .int (nI b)]) (st := []) (k := 0) (n := 0) cX2_makesMore_37 (con_describe d nt b hnt (by omega) D1 K f2 k rk (fun i hi => ⟨(hk i hi).1, (hk i hi).2.1⟩) hrk (nI nb) hs ro (nI cn) 4 5 6 7 8) ab_pfx rfl (by decide) rfl rfl rfl rfl rfl rfl (Nat.le_of_ble_eq_true rfl) dX2_makesMore_37 (fun w' v h => by obtain ⟨_, g, h, _⟩ := h; rw [h]; rfl) (fun w2 v2 hq => ?_)
      obtain ⟨rfl, D2, rfl, hD2⟩ := hq
      have hcl := dls_len b rk k nt
      refine G_istore_n (L' := [_, _, _, _, _, _, _]) dX2_makesMore_40 (Nat.le_of_ble_eq_true rfl) rfl ?_
      refine G_aload_n dX2_makesMore_41 rfl ?_
      refine G_get (f := 1) kc3 dX2_makesMore_42 fX2_9 (by decide) rfl rfl ?_
      refine G_iload_n dX2_makesMore_45 rfl ?_
      refine G_SN (is := [4]) (fo := []) (as := [.ref 100, .int (nI (dls b rk k nt).length)]) (as' := [.ref 104, .int (nI (dls b rk k nt).length)]) (st := []) (k := 0) (n := 0) cX2_makesMore_46 (con_sort (d + 2) D2 40 (dls b rk k nt).length (by omega) (by decide)) ab_pfx rfl (by decide) rfl rfl rfl rfl (Nat.le_of_ble_eq_true rfl) dX2_makesMore_46 (fun w' v h => by obtain ⟨_, g, h, _⟩ := h; rw [h]; rfl) (fun w2 v2 hq => ?_)
      obtain ⟨rfl, D3, rfl, hsrt⟩ := hq
      have hmem : ∀ x ∈ dls b rk k nt, ∃ i, i < nt ∧ x = dsc b rk (k i) := fun x hx => dls_mem hx
      have hD3 := srt_list rfl hD2 (fun x hx => by
        obtain ⟨i, hi, e⟩ := hmem x hx
        have := (dsc_kp (b := b) (rk := rk) (K := k i) (fun p hp => hdp i p hi hp)).2
        omega) hsrt
      have hlen : (srtN (dls b rk k nt)).length = (dls b rk k nt).length := (srtN_perm _).length_eq
      have hmem2 : ∀ j x, (srtN (dls b rk k nt))[j]? = some x → x < 2 ^ 30 ∧ ∀ p, p < 3 → kp x p < 1001 ∨ kp x p = 1001 ∨ ∃ c, c < nb ∧ kp x p = 1002 + rk c := fun j x hx => by
        obtain ⟨i, hi, e⟩ := hmem x ((srtN_perm _).subset (List.mem_of_getElem? hx))
        have a := dsc_kp (b := b) (rk := rk) (K := k i) (fun p hp => hdp i p hi hp)
        rw [← e] at a
        refine ⟨a.2, fun p hp => ?_⟩
        rw [a.1 p hp]
        unfold dp
        by_cases h8 : 8 ≤ kp (k i) p
        · rw [if_pos h8]
          have := ((hk i hi).2.2 p hp).2
          exact Or.inl (by omega)
        · rw [if_neg h8]
          split
          · exact Or.inr (Or.inl rfl)
          · exact Or.inr (Or.inr ⟨_, ((hk i hi).2.2 p hp).1 (by omega), rfl⟩)
      generalize hcd : (dls b rk k nt).length = cd at *
      refine G_aload_n dX2_makesMore_49 rfl ?_
      refine G_get (f := 0) kc3 dX2_makesMore_50 fX2_22 (by decide) rfl rfl ?_
      refine G_V (is := [1, 2, 3]) (fo := []) (as := [.ref 100]) (as' := []) (st := []) (k := 0) (n := 0) cX2_makesMore_53 (con_begin (d + 1) s1.2.2 l1 s1.1 s1.2.1) ab_pfx rfl (by decide) rfl rfl rfl rfl rfl rfl (Nat.le_of_ble_eq_true rfl) dX2_makesMore_53 (fun w' v h => by rw [h.2]; rfl) (fun w2 v2 hq => ?_)
      obtain ⟨rfl, hw2⟩ := hq
      obtain ⟨s2, hs2⟩ : ∃ z : SS, z = (va_cpy (ab_l ab_start) s1.1 0 0 8, s1.2.1, 0) := ⟨_, rfl⟩
      rw [← hs2] at hw2
      subst hw2
      have hs2l : s2.2.2 < 64 := by rw [hs2]; show 0 < 64; omega
      refine G_aload_n dX2_makesMore_56 rfl ?_
      refine G_aload_n dX2_makesMore_57 rfl ?_
      refine G_get (f := 5) kc1 dX2_makesMore_58 fX2_39 (by decide) rfl rfl ?_
      refine G_sipush (v := 1002) dX2_makesMore_61 (by decide) ?_
      refine G_aload_n dX2_makesMore_64 rfl ?_
      refine G_get (f := 5) kc1 dX2_makesMore_65 fX2_39 (by decide) rfl rfl ?_
      refine G_get (f := 2) kc2 dX2_makesMore_68 fX2_82 (by decide) rfl rfl ?_
      refine G_iload_n dX2_makesMore_71 rfl ?_
      refine G_ialdN b dX2_makesMore_72 rfl rfl (by omega) (by omega) ?_
      rw [hf2 b hlt]
      refine G_iadd dX2_makesMore_73 ?_
      refine G_topi (y := nI (1002 + rk b)) (by rw [show (1002 : Int32) = nI 1002 from rfl, nI_add]) ?_
      have pq : ∀ c, c < nb → 1002 ≤ 1002 + rk c → st (rk c) < 8 ∧ f3 (1002 + rk c - 1002) = nI (st (rk c)) ∧ f1 (st (rk c)) = nI (o (st (1002 + rk c - 1002))) ∧ o (st (1002 + rk c - 1002)) < 8 ∧ 1002 + rk c < 1011 := fun c hc _ => by
        have a := gp4 c hc
        have e1 : 1002 + rk c - 1002 = rk c := by omega
        have a2 := gp6 (rk c) a
        have a3 : st (rk c) < nb := by
          have h9 : ∀ q, rk c + 1 + q ≤ cn → st (rk c) < st (rk c + 1 + q) := fun q => by
            induction q with
            | zero => intro _; exact a2.1
            | succ q ihq => intro hq; have := ihq (by omega); have := (gp6 (rk c + 1 + q) (by omega)).1; show st (rk c) < st (rk c + 1 + q + 1); omega
          have := h9 (cn - (rk c + 1)) (by omega)
          rw [show rk c + 1 + (cn - (rk c + 1)) = cn by omega, gp7] at this
          exact this
        rw [e1]
        have a4 := gp1 _ a3
        exact ⟨by omega, hf3 _ (by omega), hf1 _ a3, by omega, by omega⟩
      have hrb := gp4 b hlt
      refine G_V (is := [0, 1, 2, 3, 12, 13, 14, 16]) (fo := [104, 105, 115]) (as := [.ref 100, .ref 104, .int (nI (1002 + rk b))]) (as' := [.ref 112, .int (nI (1002 + rk b))]) (st := []) (k := 0) (n := 0) cX2_makesMore_74 (con_putContent (d) (1002 + rk b) (by omega) s2 (by exact hs2l) 0 F f1 f3 (fun g => o (st g)) (st (rk b)) (by exact pq b hlt) (.ref 4) (.ref 5) (.ref 6) (.int (nI cn))) ab_pfx rfl (by decide) rfl rfl rfl rfl rfl rfl (Nat.le_of_ble_eq_true rfl) dX2_makesMore_74 (fun w' v h => by rw [h.2]; exact (rfl : (8 : Nat) = 8)) (fun w2 v2 hq => ?_)
      obtain ⟨rfl, hw2⟩ := hq
      obtain ⟨m0, hm0⟩ : ∃ z, z = pcB F (fun g => o (st g)) (1002 + rk b) := ⟨_, rfl⟩
      rw [← hm0] at hw2
      obtain ⟨s3, hs3⟩ : ∃ z, z = eat s2 m0 := ⟨_, rfl⟩
      rw [← hs3] at hw2
      subst hw2
      generalize hsd : srtN (dls b rk k nt) = sd at *
      have hs3l : s3.2.2 < 64 := by rw [hs3]; exact eat_lt _ _ hs2l
      have hl0 : (0 : Int32) + nI m0.length = nI m0.length := Int32.zero_add _
      rw [hl0]
      refine G_iconst (v := 0) dX2_makesMore_77 (by decide) ?_
      refine G_istore (L' := [_, _, _, _, _, _, _]) dX2_makesMore_78 (Nat.le_of_ble_eq_true rfl) rfl ?_
      have inner : ∀ (i : Nat) (s5 : SS) (pre : List Int32) (z5 z6 : Option Value), i ≤ cd → s5 = eat s2 pre → s5.2.2 < 64 → pre ++ (sd.drop i).flatMap (dsB F (fun g => o (st g))) = msgB F (fun g => o (st g)) rk k nt b → G ab_x0 mX2_makesMore (d + 3) 0 0 (fun w' v => (2 ≤ nb ∧ cn = nb ∧ v = some (.int 0) ∧ w' = mW s len D F' g1 g2 g3 c' nb nt hs ro K F f1 f2 f3 cn) ∨ (¬ (2 ≤ nb ∧ cn = nb) ∧ ∃ (s2 : SS) (len2 : Int32) (D2 F2 h1 h2 h3 : Nat → Int32) (o2 rk2 st2 : Nat → Nat) (cn2 : Nat), w' = mW s2 len2 D2 F2 h1 h2 h3 (nI cn2) nb nt hs ro K F f1 f2 f3 cn ∧ (∀ b j, b < nb → j < 8 → F2 (b * 8 + j) = dig (msgB F (fun g => o (st g)) rk k nt b) j) ∧ grpOk F2 h1 h2 h3 nb o2 rk2 st2 cn2 ∧ v = some (.int (bi (decide (cn < cn2)))))) 80 [some (.ref 100), some (.ref 110), some (.int (nI b)), some (.int (nI cd)), some (.int (nI i)), z5, z6] [] (mW s5 (nI pre.length) D3 F1 g1 g2 g3 c' nb nt hs ro K F f1 f2 f3 cn) := by
        intro i
        induction hm : cd - i using Nat.strongRecOn generalizing i with
        | ind m ihi =>
          subst hm
          intro s5 pre z5 z6 hi hs5 hs5l hpre
          refine G_iload dX2_makesMore_80 rfl ?_
          refine G_iload_n dX2_makesMore_82 rfl ?_
          refine G_icmp_geN (tgt := 164) i cd dX2_makesMore_83 (by decide) rfl rfl (by omega) (by omega) (fun hge => ?_) (fun hic => ?_)
          · have e : sd.drop i = [] := List.drop_eq_nil_of_le (by omega)
            rw [e, List.flatMap_nil, List.append_nil] at hpre
            refine G_aload_n dX2_makesMore_164 rfl ?_
            refine G_get (f := 0) kc3 dX2_makesMore_165 fX2_22 (by decide) rfl rfl ?_
            refine G_aload_n dX2_makesMore_168 rfl ?_
            refine G_get (f := 2) kc3 dX2_makesMore_169 fX2_18 (by decide) rfl rfl ?_
            refine G_get (f := 0) kc2 dX2_makesMore_172 fX2_42 (by decide) rfl rfl ?_
            refine G_iload_n dX2_makesMore_175 rfl ?_
            refine G_bipush (v := 8) dX2_makesMore_176 (by decide) ?_
            refine G_imul dX2_makesMore_178 ?_
            refine G_topi (y := nI (b * 8)) (by rw [show (8 : Int32) = nI 8 from rfl, pk_mul]) ?_
            refine G_V (is := [1, 2, 3, 6]) (fo := []) (as := [.ref 100, .ref 103, .int (nI (b * 8))]) (as' := [.ref 106, .int (nI (b * 8))]) (st := []) (k := 0) (n := 0) cX2_makesMore_179 (con_end (d) (b * 8) 64 (by omega) (by decide) (nI pre.length) s5 hs5l F1) ab_pfx rfl (by decide) rfl rfl rfl rfl rfl rfl (Nat.le_of_ble_eq_true rfl) dX2_makesMore_179 (fun w' v h => by obtain ⟨_, l, h⟩ := h; rw [h]; exact (rfl : (4 : Nat) = 4)) (fun w2 v2 hq => ?_)
            obtain ⟨rfl, l9, hw2⟩ := hq
            obtain ⟨s9, hs9⟩ : ∃ z, z = endF s5 (nI pre.length) := ⟨_, rfl⟩
            rw [← hs9] at hw2
            subst hw2
            refine G_iinc (L' := [_, _, _, _, _, _, _]) (v := nI (b + 1)) dX2_makesMore_182 rfl (nI_succ b).symm rfl ?_
            refine G_goto (tgt := 26) dX2_makesMore_185 (by decide) ?_
            refine ih (nb - (b + 1)) (by omega) (b + 1) rfl s9 l9 D3 (va_cpy s9.1 F1 0 (b * 8) 8) _ _ _ _ (by omega) (fun c j hc hj => ?_)
            by_cases ec : c = b
            · subst ec
              rw [pk_cpy_in (by omega) (by omega), show 0 + (c * 8 + j - c * 8) = j by omega, hs9, hs5, hs2, hpre]
              exact dg_dig _ _ _ hj
            · rw [pk_cpy_out (by omega)]
              exact hF1 c j (by omega) hj
          have hx : sd[i]? = some sd[i] := List.getElem?_eq_getElem (by omega)
          obtain ⟨hx30, hxp⟩ := hmem2 i _ hx
          have hDi := hD3 i _ hx
          have hdrop : sd.drop i = sd[i] :: sd.drop (i + 1) := List.drop_eq_getElem_cons (by omega)
          generalize sd[i] = x at hx30 hxp hDi hdrop
          refine G_iconst (v := 0) dX2_makesMore_86 (by decide) ?_
          refine G_istore (L' := [_, _, _, _, _, _, _]) dX2_makesMore_87 (Nat.le_of_ble_eq_true rfl) rfl ?_
          have stp : ∀ (p : Nat) (s6 : SS) (pr : List Int32) (z : Option Value), p < 3 → s6.2.2 < 64 → (∀ (s7 : SS) (z' : Option Value), s7 = eat s6 (plB F (fun g => o (st g)) (kp x p)) → G ab_x0 mX2_makesMore (d + 3) 0 0 (fun w' v => (2 ≤ nb ∧ cn = nb ∧ v = some (.int 0) ∧ w' = mW s len D F' g1 g2 g3 c' nb nt hs ro K F f1 f2 f3 cn) ∨ (¬ (2 ≤ nb ∧ cn = nb) ∧ ∃ (s2 : SS) (len2 : Int32) (D2 F2 h1 h2 h3 : Nat → Int32) (o2 rk2 st2 : Nat → Nat) (cn2 : Nat), w' = mW s2 len2 D2 F2 h1 h2 h3 (nI cn2) nb nt hs ro K F f1 f2 f3 cn ∧ (∀ b j, b < nb → j < 8 → F2 (b * 8 + j) = dig (msgB F (fun g => o (st g)) rk k nt b) j) ∧ grpOk F2 h1 h2 h3 nb o2 rk2 st2 cn2 ∧ v = some (.int (bi (decide (cn < cn2)))))) 89 [some (.ref 100), some (.ref 110), some (.int (nI b)), some (.int (nI cd)), some (.int (nI i)), some (.int (nI (p + 1))), z'] [] (mW s7 (nI (pr ++ plB F (fun g => o (st g)) (kp x p)).length) D3 F1 g1 g2 g3 c' nb nt hs ro K F f1 f2 f3 cn)) → G ab_x0 mX2_makesMore (d + 3) 0 0 (fun w' v => (2 ≤ nb ∧ cn = nb ∧ v = some (.int 0) ∧ w' = mW s len D F' g1 g2 g3 c' nb nt hs ro K F f1 f2 f3 cn) ∨ (¬ (2 ≤ nb ∧ cn = nb) ∧ ∃ (s2 : SS) (len2 : Int32) (D2 F2 h1 h2 h3 : Nat → Int32) (o2 rk2 st2 : Nat → Nat) (cn2 : Nat), w' = mW s2 len2 D2 F2 h1 h2 h3 (nI cn2) nb nt hs ro K F f1 f2 f3 cn ∧ (∀ b j, b < nb → j < 8 → F2 (b * 8 + j) = dig (msgB F (fun g => o (st g)) rk k nt b) j) ∧ grpOk F2 h1 h2 h3 nb o2 rk2 st2 cn2 ∧ v = some (.int (bi (decide (cn < cn2)))))) 89 [some (.ref 100), some (.ref 110), some (.int (nI b)), some (.int (nI cd)), some (.int (nI i)), some (.int (nI p)), z] [] (mW s6 (nI pr.length) D3 F1 g1 g2 g3 c' nb nt hs ro K F f1 f2 f3 cn) := by
            intro p s6 pr z hp hs6 kk
            have hkl := kp_lt x p
            refine G_iload dX2_makesMore_89 rfl ?_
            refine G_iconst (v := 3) dX2_makesMore_91 (by decide) ?_
            refine G_icmp_geN (tgt := 158) p 3 dX2_makesMore_92 (by decide) rfl rfl (by omega) (by omega) (fun h => by omega) (fun _ => ?_)
            refine G_aload_n dX2_makesMore_95 rfl ?_
            refine G_get (f := 1) kc3 dX2_makesMore_96 fX2_9 (by decide) rfl rfl ?_
            refine G_iload dX2_makesMore_99 rfl ?_
            refine G_ialdN i dX2_makesMore_101 rfl rfl (by omega) (by omega) ?_
            rw [hDi]
            refine G_iload dX2_makesMore_102 rfl ?_
            refine G_SN (is := []) (fo := []) (as := [.int (nI x), .int (nI p)]) (as' := [.int (nI x), .int (nI p)]) (st := []) (k := 0) (n := 0) cX2_makesMore_104 (con_partAt (d + 2) x p hx30 hp) ab_pfx rfl (by decide) rfl rfl rfl rfl (Nat.le_of_ble_eq_true rfl) dX2_makesMore_104 (fun w' v h => by rw [h.1]) (fun w2 v2 hq => ?_)
            obtain ⟨rfl, rfl⟩ := hq
            have hP := hxp p hp
            generalize kp x p = P at hP hkl kk
            refine G_istore (L' := [_, _, _, _, _, _, _]) dX2_makesMore_107 (Nat.le_of_ble_eq_true rfl) rfl ?_
            refine G_aload_n dX2_makesMore_109 rfl ?_
            refine G_get (f := 0) kc3 dX2_makesMore_110 fX2_22 (by decide) rfl rfl ?_
            refine G_iload dX2_makesMore_113 rfl ?_
            refine G_sipush (v := 1001) dX2_makesMore_115 (by decide) ?_
            have fin : G ab_x0 mX2_makesMore (d + 3) 0 0 (fun w' v => (2 ≤ nb ∧ cn = nb ∧ v = some (.int 0) ∧ w' = mW s len D F' g1 g2 g3 c' nb nt hs ro K F f1 f2 f3 cn) ∨ (¬ (2 ≤ nb ∧ cn = nb) ∧ ∃ (s2 : SS) (len2 : Int32) (D2 F2 h1 h2 h3 : Nat → Int32) (o2 rk2 st2 : Nat → Nat) (cn2 : Nat), w' = mW s2 len2 D2 F2 h1 h2 h3 (nI cn2) nb nt hs ro K F f1 f2 f3 cn ∧ (∀ b j, b < nb → j < 8 → F2 (b * 8 + j) = dig (msgB F (fun g => o (st g)) rk k nt b) j) ∧ grpOk F2 h1 h2 h3 nb o2 rk2 st2 cn2 ∧ v = some (.int (bi (decide (cn < cn2)))))) 138 [some (.ref 100), some (.ref 110), some (.int (nI b)), some (.int (nI cd)), some (.int (nI i)), some (.int (nI p)), some (.int (nI P))] [.int (tag P), .ref 101] (mW s6 (nI pr.length) D3 F1 g1 g2 g3 c' nb nt hs ro K F f1 f2 f3 cn) := by
              refine G_iconst (v := 1) dX2_makesMore_138 (by decide) ?_
              refine G_V (is := [1, 2, 3]) (fo := []) (as := [.ref 100, .int (tag P), .int (nI 1)]) (as' := [.int (tag P), .int (nI 1)]) (st := []) (k := 0) (n := 0) cX2_makesMore_139 (con_eat (d + 1) 1 (by decide) (tag P) (nI pr.length) s6 hs6) ab_pfx rfl (by decide) rfl rfl rfl rfl rfl rfl (Nat.le_of_ble_eq_true rfl) dX2_makesMore_139 (fun w' v h => by rw [h.2]; exact (rfl : (3 : Nat) = 3)) (fun w2 v2 hq => ?_)
              obtain ⟨rfl, hw2⟩ := hq
              obtain ⟨s8, hs8⟩ : ∃ z, z = eat s6 (bys 1 (tag P)) := ⟨_, rfl⟩
              rw [← hs8, nI_add] at hw2
              subst hw2
              have hs8l : s8.2.2 < 64 := by rw [hs8]; exact eat_lt _ _ hs6
              refine G_aload_n dX2_makesMore_142 rfl ?_
              refine G_aload_n dX2_makesMore_143 rfl ?_
              refine G_get (f := 5) kc1 dX2_makesMore_144 fX2_39 (by decide) rfl rfl ?_
              refine G_iload dX2_makesMore_147 rfl ?_
              obtain ⟨q, hq⟩ : ∃ q, 1002 ≤ P → q < 8 ∧ f3 (P - 1002) = nI q ∧ f1 q = nI (o (st (P - 1002))) ∧ o (st (P - 1002)) < 8 ∧ P < 1011 := by
                rcases hP with h | h | ⟨c, hc, h⟩
                · exact ⟨0, fun h => by omega⟩
                · exact ⟨0, fun h => by omega⟩
                · exact ⟨st (rk c), fun h2 => by rw [h]; exact pq c hc (by omega)⟩
              refine G_V (is := [0, 1, 2, 3, 12, 13, 14, 16]) (fo := [104, 105, 115]) (as := [.ref 100, .ref 104, .int (nI P)]) (as' := [.ref 112, .int (nI P)]) (st := []) (k := 0) (n := 0) cX2_makesMore_149 (con_putContent (d) P (by omega) s8 (by exact hs8l) (nI (pr.length + 1)) F f1 f3 (fun g => o (st g)) q (by exact hq) (.ref 4) (.ref 5) (.ref 6) (.int (nI cn))) ab_pfx rfl (by decide) rfl rfl rfl rfl rfl rfl (Nat.le_of_ble_eq_true rfl) dX2_makesMore_149 (fun w' v h => by rw [h.2]; exact (rfl : (8 : Nat) = 8)) (fun w2 v2 hq => ?_)
              obtain ⟨rfl, hw2⟩ := hq
              obtain ⟨s9, hs9⟩ : ∃ z, z = eat s8 (pcB F (fun g => o (st g)) P) := ⟨_, rfl⟩
              rw [← hs9, nI_add] at hw2
              subst hw2
              refine G_iinc (L' := [_, _, _, _, _, _, _]) (v := nI (p + 1)) dX2_makesMore_152 rfl (nI_succ p).symm rfl ?_
              refine G_goto (tgt := 89) dX2_makesMore_155 (by decide) ?_
              have := kk s9 (some (.int (nI P))) (by rw [hs9, hs8, ← eat_app]; rfl)
              rw [show (pr ++ plB F (fun g => o (st g)) P).length = pr.length + 1 + (pcB F (fun g => o (st g)) P).length by
                unfold plB
                rw [List.length_append, List.length_append, bys_len]
                omega] at this
              exact this
            refine G_icmp_geN (tgt := 125) P 1001 dX2_makesMore_118 (by decide) rfl rfl (by omega) (by omega) (fun h1 => ?_) (fun h1 => ?_)
            · refine G_iload dX2_makesMore_125 rfl ?_
              refine G_sipush (v := 1001) dX2_makesMore_127 (by decide) ?_
              refine G_icmp_neN (tgt := 137) P 1001 dX2_makesMore_130 (by decide) rfl rfl (by omega) (by omega) (fun h2 => ?_) (fun h2 => ?_)
              · refine G_iconst (v := 2) dX2_makesMore_137 (by decide) ?_
                have e : tag P = 2 := by unfold tag; rw [if_neg (by omega), if_neg h2]
                rw [e] at fin
                exact fin
              · refine G_iconst (v := 1) dX2_makesMore_133 (by decide) ?_
                refine G_goto (tgt := 138) dX2_makesMore_134 (by decide) ?_
                have e : tag P = 1 := by unfold tag; rw [if_neg (by omega), if_pos h2]
                rw [e] at fin
                exact fin
            · refine G_iconst (v := 0) dX2_makesMore_121 (by decide) ?_
              refine G_goto (tgt := 138) dX2_makesMore_122 (by decide) ?_
              have e : tag P = 0 := by unfold tag; rw [if_pos h1]
              rw [e] at fin
              exact fin
          refine stp 0 s5 pre _ (by omega) hs5l (fun s6 z0 hs6 => ?_)
          have hs6l : s6.2.2 < 64 := by rw [hs6]; exact eat_lt _ _ hs5l
          refine stp 1 s6 _ _ (by omega) hs6l (fun s7 z1 hs7 => ?_)
          have hs7l : s7.2.2 < 64 := by rw [hs7]; exact eat_lt _ _ hs6l
          refine stp 2 s7 _ _ (by omega) hs7l (fun s8 z2 hs8 => ?_)
          have hs8l : s8.2.2 < 64 := by rw [hs8]; exact eat_lt _ _ hs7l
          refine G_iload dX2_makesMore_89 rfl ?_
          refine G_iconst (v := 3) dX2_makesMore_91 (by decide) ?_
          refine G_icmp_geN (tgt := 158) 3 3 dX2_makesMore_92 (by decide) rfl rfl (by omega) (by omega) (fun _ => ?_) (fun h => by omega)
          refine G_iinc (L' := [_, _, _, _, _, _, _]) (v := nI (i + 1)) dX2_makesMore_158 rfl (nI_succ i).symm rfl ?_
          refine G_goto (tgt := 80) dX2_makesMore_161 (by decide) ?_
          refine ihi (cd - (i + 1)) (by omega) (i + 1) rfl s8 _ _ _ (by omega) ?_ hs8l ?_
          · rw [hs8, hs7, hs6, hs5, ← eat_app, ← eat_app, ← eat_app]
            simp only [List.append_assoc]
          · rw [← hpre, hdrop, List.flatMap_cons]
            unfold dsB
            simp only [List.append_assoc]
      exact inner 0 s3 m0 _ _ (by omega) hs3 hs3l (by rw [List.drop_zero, hm0, ← hsd]; rfl)
  refine G_aload_n dX2_makesMore_0 rfl ?_
  refine G_get (f := 1) kc1 dX2_makesMore_1 fX2_32 (by decide) rfl rfl ?_
  refine G_iconst (v := 2) dX2_makesMore_4 (by decide) ?_
  refine G_icmp_ltN (tgt := 24) nb 2 dX2_makesMore_5 (by decide) rfl rfl (by omega) (by omega) (fun h => ?_) (fun h => ?_)
  · refine G_iconst (v := 0) dX2_makesMore_24 (by decide) ?_
    refine G_istore_n (L' := [_, _, _, _, _, _, _]) dX2_makesMore_25 (Nat.le_of_ble_eq_true rfl) rfl ?_
    exact main (by omega) 0 s len D F' _ _ _ _ (by omega) (fun c j hc => by omega)
  refine G_aload_n dX2_makesMore_8 rfl ?_
  refine G_get (f := 5) kc1 dX2_makesMore_9 fX2_39 (by decide) rfl rfl ?_
  refine G_get (f := 4) kc2 dX2_makesMore_12 fX2_66 (by decide) rfl rfl ?_
  refine G_aload_n dX2_makesMore_15 rfl ?_
  refine G_get (f := 1) kc1 dX2_makesMore_16 fX2_32 (by decide) rfl rfl ?_
  refine G_icmp_neN (tgt := 24) cn nb dX2_makesMore_19 (by decide) rfl rfl (by omega) (by omega) (fun h2 => ?_) (fun h2 => ?_)
  · refine G_iconst (v := 0) dX2_makesMore_24 (by decide) ?_
    refine G_istore_n (L' := [_, _, _, _, _, _, _]) dX2_makesMore_25 (Nat.le_of_ble_eq_true rfl) rfl ?_
    exact main (by omega) 0 s len D F' _ _ _ _ (by omega) (fun c j hc => by omega)
  refine G_iconst (v := 0) dX2_makesMore_22 (by decide) ?_
  exact G_ret (v := some (.int _)) ⟨dX2_makesMore_23, _, rfl, rfl⟩ (Or.inl ⟨h, h2, rfl, rfl⟩)
end
