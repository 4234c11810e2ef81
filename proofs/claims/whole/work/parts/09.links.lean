/-! Methods, links (by program). -/
theorem ab_t0 {w : Cond} {i : Nat} (h : (k2_sels lw_privs)[i]? = some w) (g : goodWord w = true) : w ∈ ab_U := List.mem_filter.mpr ⟨List.mem_append_left _ (List.mem_of_getElem? h), g⟩
theorem ab_t1 {w : Cond} {i : Nat} (h : tables_1_1[i]? = some w) (g : goodWord w = true) : w ∈ ab_U := List.mem_filter.mpr ⟨List.mem_append_right _ (List.mem_append_left _ (List.mem_of_getElem? h)), g⟩
theorem ab_t2 {w : Cond} {i : Nat} (h : tables_1_2[i]? = some w) (g : goodWord w = true) : w ∈ ab_U := List.mem_filter.mpr ⟨List.mem_append_right _ (List.mem_append_right _ (List.mem_append_left _ (List.mem_of_getElem? h))), g⟩
theorem ab_t3 {w : Cond} {i : Nat} (h : tables_1_3[i]? = some w) (g : goodWord w = true) : w ∈ ab_U := List.mem_filter.mpr ⟨List.mem_append_right _ (List.mem_append_right _ (List.mem_append_right _ (List.mem_append_left _ (List.mem_of_getElem? h)))), g⟩
theorem ab_t4 {w : Cond} {i : Nat} (h : tables_1_4[i]? = some w) (g : goodWord w = true) : w ∈ ab_U := List.mem_filter.mpr ⟨List.mem_append_right _ (List.mem_append_right _ (List.mem_append_right _ (List.mem_append_right _ (List.mem_of_getElem? h)))), g⟩
theorem ab_n1 {w : Cond} {i : Nat} (h : tables_1_1[i]? = some w) (g : ab_isN w = true) : w ∈ ab_N := List.mem_filter.mpr ⟨List.mem_append_right _ (List.mem_append_left _ (List.mem_of_getElem? h)), g⟩
theorem ab_n2 {w : Cond} {i : Nat} (h : tables_1_2[i]? = some w) (g : ab_isN w = true) : w ∈ ab_N := List.mem_filter.mpr ⟨List.mem_append_right _ (List.mem_append_right _ (List.mem_append_left _ (List.mem_of_getElem? h))), g⟩
theorem ab_n3 {w : Cond} {i : Nat} (h : tables_1_3[i]? = some w) (g : ab_isN w = true) : w ∈ ab_N := List.mem_filter.mpr ⟨List.mem_append_right _ (List.mem_append_right _ (List.mem_append_right _ (List.mem_append_left _ (List.mem_of_getElem? h)))), g⟩
theorem ab_n4 {w : Cond} {i : Nat} (h : tables_1_4[i]? = some w) (g : ab_isN w = true) : w ∈ ab_N := List.mem_filter.mpr ⟨List.mem_append_right _ (List.mem_append_right _ (List.mem_append_right _ (List.mem_append_right _ (List.mem_of_getElem? h)))), g⟩
abbrev mX1_init : ab_M := (RX1, yX1_init, cX1_init, 1, none)
abbrev mX0_init : ab_M := (RX0, yX0_init, cX0_init, 1, none)
abbrev mX0_isPoint : ab_M := (RX0, yX0_isPoint, cX0_isPoint, 2, (some .boolean))
abbrev mX0_hasPoints : ab_M := (RX0, yX0_hasPoints, cX0_hasPoints, 4, (some .boolean))
abbrev mX7_isIn : ab_M := (RX7, yX7_isIn, cX7_isIn, 4, (some .boolean))
abbrev mX0_holds : ab_M := (RX0, yX0_holds, cX0_holds, 2, (some .boolean))
abbrev mX0_hasSizesOf : ab_M := (RX0, yX0_hasSizesOf, cX0_hasSizesOf, 2, (some .boolean))
abbrev mX7_placeFor : ab_M := (RX7, yX7_placeFor, cX7_placeFor, 4, (some .int))
abbrev mX0_insert : ab_M := (RX0, yX0_insert, cX0_insert, 4, none)
abbrev mX0_remove : ab_M := (RX0, yX0_remove, cX0_remove, 3, none)
abbrev mX1_sizeOf : ab_M := (RX1, yX1_sizeOf, cX1_sizeOf, 2, (some .int))
abbrev mX1_compareHashes : ab_M := (RX1, yX1_compareHashes, cX1_compareHashes, 6, (some .int))
abbrev mX1_arrange : ab_M := (RX1, yX1_arrange, cX1_arrange, 4, none)
abbrev mX1_hasHashesOf : ab_M := (RX1, yX1_hasHashesOf, cX1_hasHashesOf, 5, (some .boolean))
abbrev mX1_namings : ab_M := (RX1, yX1_namings, cX1_namings, 4, (some .int))
abbrev mX6_init : ab_M := (RX6, yX6_init, cX6_init, 1, none)
abbrev mX2_init : ab_M := (RX2, yX2_init, cX2_init, 1, none)
abbrev mX7_partAt : ab_M := (RX7, yX7_partAt, cX7_partAt, 2, (some .int))
abbrev mX7_pointAt : ab_M := (RX7, yX7_pointAt, cX7_pointAt, 2, (some .int))
abbrev mX2_partFor : ab_M := (RX2, yX2_partFor, cX2_partFor, 3, (some .int))
abbrev mX2_describe : ab_M := (RX2, yX2_describe, cX2_describe, 9, (some .int))
abbrev mX7_sort : ab_M := (RX7, yX7_sort, cX7_sort, 5, none)
abbrev mX6_begin : ab_M := (RX6, yX6_begin, cX6_begin, 1, none)
abbrev mX6_mix : ab_M := (RX6, yX6_mix, cX6_mix, 13, none)
abbrev mX6_put : ab_M := (RX6, yX6_put, cX6_put, 5, none)
abbrev mX2_putContent : ab_M := (RX2, yX2_putContent, cX2_putContent, 5, none)
abbrev mX6_end : ab_M := (RX6, yX6_end, cX6_end, 5, none)
abbrev mX2_makesMore : ab_M := (RX2, yX2_makesMore, cX2_makesMore, 7, (some .boolean))
abbrev mX2_takeRound : ab_M := (RX2, yX2_takeRound, cX2_takeRound, 3, none)
abbrev mX2_refresh : ab_M := (RX2, yX2_refresh, cX2_refresh, 5, none)
abbrev mX3_init : ab_M := (RX3, yX3_init, cX3_init, 1, none)
abbrev mX7_renumbered : ab_M := (RX7, yX7_renumbered, cX7_renumbered, 5, (some .int))
abbrev mX3_layTrial : ab_M := (RX3, yX3_layTrial, cX3_layTrial, 6, none)
abbrev mX3_compare : ab_M := (RX3, yX3_compare, cX3_compare, 4, (some .int))
abbrev mX3_greatestDifference : ab_M := (RX3, yX3_greatestDifference, cX3_greatestDifference, 4, (some .int))
abbrev mX3_settle : ab_M := (RX3, yX3_settle, cX3_settle, 4, (some .int))
abbrev mX3_search : ab_M := (RX3, yX3_search, cX3_search, 11, (some .int))
abbrev mX3_find : ab_M := (RX3, yX3_find, cX3_find, 4, none)
abbrev mX4_init : ab_M := (RX4, yX4_init, cX4_init, 1, none)
abbrev mX4_readLasts : ab_M := (RX4, yX4_readLasts, cX4_readLasts, 4, none)
abbrev mX4_keepsTriples : ab_M := (RX4, yX4_keepsTriples, cX4_keepsTriples, 5, (some .boolean))
abbrev mX4_fits : ab_M := (RX4, yX4_fits, cX4_fits, 5, (some .boolean))
abbrev mX4_completes : ab_M := (RX4, yX4_completes, cX4_completes, 6, (some .boolean))
abbrev mX4_matches : ab_M := (RX4, yX4_matches, cX4_matches, 3, (some .boolean))
abbrev mX4_automorphisms : ab_M := (RX4, yX4_automorphisms, cX4_automorphisms, 7, (some .int))
abbrev mX5_init : ab_M := (RX5, yX5_init, cX5_init, 1, none)
abbrev mX5_adopt : ab_M := (RX5, yX5_adopt, cX5_adopt, 3, none)
abbrev mX5_refreshDigest : ab_M := (RX5, yX5_refreshDigest, cX5_refreshDigest, 4, none)
abbrev mX7_init : ab_M := (RX7, yX7_init, cX7_init, 1, none)
abbrev mX7_blank : ab_M := (RX7, yX7_blank, cX7_blank, 1, (some .int))
abbrev mX7_keyOf : ab_M := (RX7, yX7_keyOf, cX7_keyOf, 6, (some .int))
abbrev mX7_triple : ab_M := (RX7, yX7_triple, cX7_triple, 5, (some .int))
abbrev mX7_drop : ab_M := (RX7, yX7_drop, cX7_drop, 5, (some .int))
abbrev mX7_name : ab_M := (RX7, yX7_name, cX7_name, 3, (some .int))
abbrev mX7_named : ab_M := (RX7, yX7_named, cX7_named, 2, (some .int))
abbrev mX7_form : ab_M := (RX7, yX7_form, cX7_form, 3, (some .int))
abbrev mX7_octet : ab_M := (RX7, yX7_octet, cX7_octet, 2, (some .byte))
abbrev mX7_hash : ab_M := (RX7, yX7_hash, cX7_hash, 3, (some .int))
abbrev mX7_rounds : ab_M := (RX7, yX7_rounds, cX7_rounds, 1, (some .int))
abbrev mX7_first : ab_M := (RX7, yX7_first, cX7_first, 4, (some .int))
abbrev mX7_keep : ab_M := (RX7, yX7_keep, cX7_keep, 1, (some .int))
abbrev mX7_keptAt : ab_M := (RX7, yX7_keptAt, cX7_keptAt, 2, (some (.object "CanonNames$Graph")))
abbrev mX7_becomes : ab_M := (RX7, yX7_becomes, cX7_becomes, 2, (some .boolean))
abbrev mX7_isomorphic : ab_M := (RX7, yX7_isomorphic, cX7_isomorphic, 3, (some .int))
abbrev mX7_ways : ab_M := (RX7, yX7_ways, cX7_ways, 3, (some .int))
abbrev mX7_sameRows : ab_M := (RX7, yX7_sameRows, cX7_sameRows, 4, (some .boolean))
abbrev mX7_equal : ab_M := (RX7, yX7_equal, cX7_equal, 3, (some .int))
abbrev mX7_triples : ab_M := (RX7, yX7_triples, cX7_triples, 1, (some .int))
abbrev mX7_blanks : ab_M := (RX7, yX7_blanks, cX7_blanks, 1, (some .int))
abbrev mX8_thrown : ab_M := (RX8, yX8_thrown, cX8_thrown, 1, (some .int))
abbrev mX8_turned : ab_M := (RX8, yX8_turned, cX8_turned, 3, (some .long))
abbrev mX8_block : ab_M := (RX8, yX8_block, cX8_block, 23, none)
abbrev mX8_digestOf : ab_M := (RX8, yX8_digestOf, cX8_digestOf, 4, none)
abbrev mX8_octetsOf : ab_M := (RX8, yX8_octetsOf, cX8_octetsOf, 2, none)
abbrev mX8_init : ab_M := (RX8, yX8_init, cX8_init, 1, none)
abbrev mX8_say : ab_M := (RX8, yX8_say, cX8_say, 2, none)
abbrev mX8_sayNumber : ab_M := (RX8, yX8_sayNumber, cX8_sayNumber, 4, none)
abbrev mX8_at : ab_M := (RX8, yX8_at, cX8_at, 2, (some .int))
abbrev mX8_blank : ab_M := (RX8, yX8_blank, cX8_blank, 1, (some .int))
abbrev mX8_isPoint : ab_M := (RX8, yX8_isPoint, cX8_isPoint, 2, (some .boolean))
abbrev mX8_find : ab_M := (RX8, yX8_find, cX8_find, 7, (some .int))
abbrev mX8_triple : ab_M := (RX8, yX8_triple, cX8_triple, 5, (some .int))
abbrev mX8_drop : ab_M := (RX8, yX8_drop, cX8_drop, 6, (some .int))
abbrev mX8_describe : ab_M := (RX8, yX8_describe, cX8_describe, 8, none)
abbrev mX8_isBefore : ab_M := (RX8, yX8_isBefore, cX8_isBefore, 8, (some .boolean))
abbrev mX8_next : ab_M := (RX8, yX8_next, cX8_next, 5, none)
abbrev mX8_compare : ab_M := (RX8, yX8_compare, cX8_compare, 4, (some .int))
abbrev mX8_different : ab_M := (RX8, yX8_different, cX8_different, 6, (some .int))
abbrev mX8_makeGroups : ab_M := (RX8, yX8_makeGroups, cX8_makeGroups, 6, none)
abbrev mX8_makeHashes : ab_M := (RX8, yX8_makeHashes, cX8_makeHashes, 5, none)
abbrev mX8_hash : ab_M := (RX8, yX8_hash, cX8_hash, 3, (some .int))
abbrev mX8_rounds : ab_M := (RX8, yX8_rounds, cX8_rounds, 1, (some .int))
abbrev mX8_first : ab_M := (RX8, yX8_first, cX8_first, 5, (some .int))
abbrev mX8_change : ab_M := (RX8, yX8_change, cX8_change, 4, none)
abbrev mX8_turn : ab_M := (RX8, yX8_turn, cX8_turn, 5, (some .boolean))
abbrev mX8_begin : ab_M := (RX8, yX8_begin, cX8_begin, 3, none)
abbrev mX8_isNaming : ab_M := (RX8, yX8_isNaming, cX8_isNaming, 4, (some .boolean))
abbrev mX8_compareTriples : ab_M := (RX8, yX8_compareTriples, cX8_compareTriples, 5, (some .int))
abbrev mX8_numbered : ab_M := (RX8, yX8_numbered, cX8_numbered, 2, (some .int))
abbrev mX8_makeRow : ab_M := (RX8, yX8_makeRow, cX8_makeRow, 9, none)
abbrev mX8_compareForm : ab_M := (RX8, yX8_compareForm, cX8_compareForm, 3, (some .int))
abbrev mX8_namings : ab_M := (RX8, yX8_namings, cX8_namings, 6, (some .long))
abbrev mX8_take : ab_M := (RX8, yX8_take, cX8_take, 3, none)
abbrev mX8_name : ab_M := (RX8, yX8_name, cX8_name, 7, (some .int))
abbrev mX8_named : ab_M := (RX8, yX8_named, cX8_named, 2, (some .int))
abbrev mX8_form : ab_M := (RX8, yX8_form, cX8_form, 3, (some .int))
abbrev mX8_octet : ab_M := (RX8, yX8_octet, cX8_octet, 2, (some .byte))
abbrev mX8_keep : ab_M := (RX8, yX8_keep, cX8_keep, 2, (some .int))
abbrev mX8_isKept : ab_M := (RX8, yX8_isKept, cX8_isKept, 2, (some .boolean))
abbrev mX8_becomes : ab_M := (RX8, yX8_becomes, cX8_becomes, 4, (some .boolean))
abbrev mX8_ways : ab_M := (RX8, yX8_ways, cX8_ways, 5, (some .int))
abbrev mX8_isomorphic : ab_M := (RX8, yX8_isomorphic, cX8_isomorphic, 3, (some .int))
abbrev mX8_equal : ab_M := (RX8, yX8_equal, cX8_equal, 2, (some .int))
abbrev mX8_triples : ab_M := (RX8, yX8_triples, cX8_triples, 1, (some .int))
abbrev mX8_blanks : ab_M := (RX8, yX8_blanks, cX8_blanks, 1, (some .int))
abbrev mL_law : ab_M := (RL, yL_law, cL_law, 7, (some .boolean))
theorem kc1 : ab_kc 1 RX0 TX0 6 tyX0 := ⟨rfl, List.forall_mem_cons.mpr ⟨ab_t1 (i := 172) (by decide +kernel) (by decide +kernel), List.forall_mem_cons.mpr ⟨ab_t1 (i := 174) (by decide +kernel) (by decide +kernel), List.forall_mem_cons.mpr ⟨ab_t1 (i := 176) (by decide +kernel) (by decide +kernel), List.forall_mem_cons.mpr ⟨ab_t1 (i := 178) (by decide +kernel) (by decide +kernel), List.forall_mem_cons.mpr ⟨ab_t1 (i := 180) (by decide +kernel) (by decide +kernel), List.forall_mem_cons.mpr ⟨ab_t1 (i := 182) (by decide +kernel) (by decide +kernel), fun _ h => absurd h List.not_mem_nil⟩⟩⟩⟩⟩⟩, tyX0_ok, nmX0⟩
theorem iC1 : Cond.instantiable RX0 6 ∈ ab_U := ab_t1 (i := 137) (by decide +kernel) (by decide +kernel)
theorem jC1 : Cond.initialized RX0 ∈ ab_U := ab_t1 (i := 8) (by decide +kernel) (by decide +kernel)
theorem kc2 : ab_kc 2 RX1 TX1 5 tyX1 := ⟨rfl, List.forall_mem_cons.mpr ⟨ab_t1 (i := 75) (by decide +kernel) (by decide +kernel), List.forall_mem_cons.mpr ⟨ab_t1 (i := 77) (by decide +kernel) (by decide +kernel), List.forall_mem_cons.mpr ⟨ab_t1 (i := 79) (by decide +kernel) (by decide +kernel), List.forall_mem_cons.mpr ⟨ab_t1 (i := 81) (by decide +kernel) (by decide +kernel), List.forall_mem_cons.mpr ⟨ab_t1 (i := 83) (by decide +kernel) (by decide +kernel), fun _ h => absurd h List.not_mem_nil⟩⟩⟩⟩⟩, tyX1_ok, nmX1⟩
theorem iC2 : Cond.instantiable RX1 5 ∈ ab_U := ab_t1 (i := 52) (by decide +kernel) (by decide +kernel)
theorem jC2 : Cond.initialized RX1 ∈ ab_U := ab_t1 (i := 4) (by decide +kernel) (by decide +kernel)
theorem kc3 : ab_kc 3 RX2 TX2 3 tyX2 := ⟨rfl, List.forall_mem_cons.mpr ⟨ab_t1 (i := 90) (by decide +kernel) (by decide +kernel), List.forall_mem_cons.mpr ⟨ab_t1 (i := 92) (by decide +kernel) (by decide +kernel), List.forall_mem_cons.mpr ⟨ab_t1 (i := 94) (by decide +kernel) (by decide +kernel), fun _ h => absurd h List.not_mem_nil⟩⟩⟩, tyX2_ok, nmX2⟩
theorem iC3 : Cond.instantiable RX2 3 ∈ ab_U := ab_t1 (i := 26) (by decide +kernel) (by decide +kernel)
theorem jC3 : Cond.initialized RX2 ∈ ab_U := ab_t1 (i := 2) (by decide +kernel) (by decide +kernel)
theorem kc4 : ab_kc 4 RX3 TX3 4 tyX3 := ⟨rfl, List.forall_mem_cons.mpr ⟨ab_t1 (i := 121) (by decide +kernel) (by decide +kernel), List.forall_mem_cons.mpr ⟨ab_t1 (i := 123) (by decide +kernel) (by decide +kernel), List.forall_mem_cons.mpr ⟨ab_t1 (i := 125) (by decide +kernel) (by decide +kernel), List.forall_mem_cons.mpr ⟨ab_t1 (i := 127) (by decide +kernel) (by decide +kernel), fun _ h => absurd h List.not_mem_nil⟩⟩⟩⟩, tyX3_ok, nmX3⟩
theorem iC4 : Cond.instantiable RX3 4 ∈ ab_U := ab_t1 (i := 112) (by decide +kernel) (by decide +kernel)
theorem jC4 : Cond.initialized RX3 ∈ ab_U := ab_t1 (i := 6) (by decide +kernel) (by decide +kernel)
theorem kc5 : ab_kc 5 RX4 TX4 2 tyX4 := ⟨rfl, List.forall_mem_cons.mpr ⟨ab_t1 (i := 106) (by decide +kernel) (by decide +kernel), List.forall_mem_cons.mpr ⟨ab_t1 (i := 108) (by decide +kernel) (by decide +kernel), fun _ h => absurd h List.not_mem_nil⟩⟩, tyX4_ok, nmX4⟩
theorem iC5 : Cond.instantiable RX4 2 ∈ ab_U := ab_t1 (i := 98) (by decide +kernel) (by decide +kernel)
theorem jC5 : Cond.initialized RX4 ∈ ab_U := ab_t1 (i := 5) (by decide +kernel) (by decide +kernel)
theorem kc6 : ab_kc 6 RX5 TX5 4 tyX5 := ⟨rfl, List.forall_mem_cons.mpr ⟨ab_t1 (i := 192) (by decide +kernel) (by decide +kernel), List.forall_mem_cons.mpr ⟨ab_t1 (i := 194) (by decide +kernel) (by decide +kernel), List.forall_mem_cons.mpr ⟨ab_t1 (i := 196) (by decide +kernel) (by decide +kernel), List.forall_mem_cons.mpr ⟨ab_t1 (i := 198) (by decide +kernel) (by decide +kernel), fun _ h => absurd h List.not_mem_nil⟩⟩⟩⟩, tyX5_ok, nmX5⟩
theorem iC6 : Cond.instantiable RX5 4 ∈ ab_U := ab_t1 (i := 131) (by decide +kernel) (by decide +kernel)
theorem jC6 : Cond.initialized RX5 ∈ ab_U := ab_t1 (i := 7) (by decide +kernel) (by decide +kernel)
theorem kc7 : ab_kc 7 RX6 TX6 4 tyX6 := ⟨rfl, List.forall_mem_cons.mpr ⟨ab_t1 (i := 41) (by decide +kernel) (by decide +kernel), List.forall_mem_cons.mpr ⟨ab_t1 (i := 43) (by decide +kernel) (by decide +kernel), List.forall_mem_cons.mpr ⟨ab_t1 (i := 45) (by decide +kernel) (by decide +kernel), List.forall_mem_cons.mpr ⟨ab_t1 (i := 47) (by decide +kernel) (by decide +kernel), fun _ h => absurd h List.not_mem_nil⟩⟩⟩⟩, tyX6_ok, nmX6⟩
theorem iC7 : Cond.instantiable RX6 4 ∈ ab_U := ab_t1 (i := 32) (by decide +kernel) (by decide +kernel)
theorem jC7 : Cond.initialized RX6 ∈ ab_U := ab_t1 (i := 3) (by decide +kernel) (by decide +kernel)
theorem kc8 : ab_kc 8 RX7 TX7 7 tyX7 := ⟨rfl, List.forall_mem_cons.mpr ⟨ab_t1 (i := 211) (by decide +kernel) (by decide +kernel), List.forall_mem_cons.mpr ⟨ab_t1 (i := 213) (by decide +kernel) (by decide +kernel), List.forall_mem_cons.mpr ⟨ab_t1 (i := 215) (by decide +kernel) (by decide +kernel), List.forall_mem_cons.mpr ⟨ab_t1 (i := 217) (by decide +kernel) (by decide +kernel), List.forall_mem_cons.mpr ⟨ab_t1 (i := 219) (by decide +kernel) (by decide +kernel), List.forall_mem_cons.mpr ⟨ab_t1 (i := 221) (by decide +kernel) (by decide +kernel), List.forall_mem_cons.mpr ⟨ab_t1 (i := 223) (by decide +kernel) (by decide +kernel), fun _ h => absurd h List.not_mem_nil⟩⟩⟩⟩⟩⟩⟩, tyX7_ok, nmX7⟩
theorem iC8 : Cond.instantiable RX7 7 ∈ ab_U := ab_t1 (i := 18) (by decide +kernel) (by decide +kernel)
theorem jC8 : Cond.initialized RX7 ∈ ab_U := ab_t1 (i := 1) (by decide +kernel) (by decide +kernel)
theorem kc9 : ab_kc 9 RX8 TX8 27 tyX8 := ⟨rfl, List.forall_mem_cons.mpr ⟨ab_t3 (i := 214) (by decide +kernel) (by decide +kernel), List.forall_mem_cons.mpr ⟨ab_t3 (i := 216) (by decide +kernel) (by decide +kernel), List.forall_mem_cons.mpr ⟨ab_t3 (i := 218) (by decide +kernel) (by decide +kernel), List.forall_mem_cons.mpr ⟨ab_t3 (i := 220) (by decide +kernel) (by decide +kernel), List.forall_mem_cons.mpr ⟨ab_t3 (i := 222) (by decide +kernel) (by decide +kernel), List.forall_mem_cons.mpr ⟨ab_t3 (i := 224) (by decide +kernel) (by decide +kernel), List.forall_mem_cons.mpr ⟨ab_t3 (i := 226) (by decide +kernel) (by decide +kernel), List.forall_mem_cons.mpr ⟨ab_t3 (i := 228) (by decide +kernel) (by decide +kernel), List.forall_mem_cons.mpr ⟨ab_t3 (i := 230) (by decide +kernel) (by decide +kernel), List.forall_mem_cons.mpr ⟨ab_t3 (i := 232) (by decide +kernel) (by decide +kernel), List.forall_mem_cons.mpr ⟨ab_t3 (i := 234) (by decide +kernel) (by decide +kernel), List.forall_mem_cons.mpr ⟨ab_t3 (i := 236) (by decide +kernel) (by decide +kernel), List.forall_mem_cons.mpr ⟨ab_t3 (i := 238) (by decide +kernel) (by decide +kernel), List.forall_mem_cons.mpr ⟨ab_t4 (i := 0) (by decide +kernel) (by decide +kernel), List.forall_mem_cons.mpr ⟨ab_t4 (i := 2) (by decide +kernel) (by decide +kernel), List.forall_mem_cons.mpr ⟨ab_t4 (i := 4) (by decide +kernel) (by decide +kernel), List.forall_mem_cons.mpr ⟨ab_t4 (i := 6) (by decide +kernel) (by decide +kernel), List.forall_mem_cons.mpr ⟨ab_t4 (i := 8) (by decide +kernel) (by decide +kernel), List.forall_mem_cons.mpr ⟨ab_t4 (i := 10) (by decide +kernel) (by decide +kernel), List.forall_mem_cons.mpr ⟨ab_t4 (i := 12) (by decide +kernel) (by decide +kernel), List.forall_mem_cons.mpr ⟨ab_t4 (i := 14) (by decide +kernel) (by decide +kernel), List.forall_mem_cons.mpr ⟨ab_t4 (i := 16) (by decide +kernel) (by decide +kernel), List.forall_mem_cons.mpr ⟨ab_t4 (i := 18) (by decide +kernel) (by decide +kernel), List.forall_mem_cons.mpr ⟨ab_t4 (i := 20) (by decide +kernel) (by decide +kernel), List.forall_mem_cons.mpr ⟨ab_t4 (i := 22) (by decide +kernel) (by decide +kernel), List.forall_mem_cons.mpr ⟨ab_t4 (i := 24) (by decide +kernel) (by decide +kernel), List.forall_mem_cons.mpr ⟨ab_t4 (i := 26) (by decide +kernel) (by decide +kernel), fun _ h => absurd h List.not_mem_nil⟩⟩⟩⟩⟩⟩⟩⟩⟩⟩⟩⟩⟩⟩⟩⟩⟩⟩⟩⟩⟩⟩⟩⟩⟩⟩⟩, tyX8_ok, nmX8⟩
theorem iC9 : Cond.instantiable RX8 27 ∈ ab_U := ab_t3 (i := 92) (by decide +kernel) (by decide +kernel)
theorem jC9 : Cond.initialized RX8 ∈ ab_U := ab_t1 (i := 9) (by decide +kernel) (by decide +kernel)
theorem aC_int : Cond.arrayClass .int ∈ ab_U := ab_t1 (i := 50) (by decide +kernel) (by decide +kernel)
theorem aC_long : Cond.arrayClass .long ∈ ab_U := ab_t4 (i := 29) (by decide +kernel) (by decide +kernel)
theorem aC_byte : Cond.arrayClass .byte ∈ ab_U := ab_t3 (i := 78) (by decide +kernel) (by decide +kernel)
theorem aC_boolean : Cond.arrayClass .boolean ∈ ab_U := ab_t4 (i := 30) (by decide +kernel) (by decide +kernel)
theorem fX0_9 : Cond.fieldLink RX0 9 "CanonNames$Graph" "keys" "[I" ∈ ab_U := ab_t1 (i := 144) (by decide +kernel) (by decide +kernel)
theorem fX0_15 : Cond.fieldLink RX0 15 "CanonNames$Graph" "blanks" "I" ∈ ab_U := ab_t1 (i := 150) (by decide +kernel) (by decide +kernel)
theorem fX0_19 : Cond.fieldLink RX0 19 "CanonNames$Graph" "triples" "I" ∈ ab_U := ab_t1 (i := 155) (by decide +kernel) (by decide +kernel)
theorem fX0_22 : Cond.fieldLink RX0 22 "CanonNames$Graph" "hashed" "Z" ∈ ab_U := ab_t1 (i := 161) (by decide +kernel) (by decide +kernel)
theorem fX0_26 : Cond.fieldLink RX0 26 "CanonNames$Graph" "rounds" "I" ∈ ab_U := ab_t1 (i := 164) (by decide +kernel) (by decide +kernel)
theorem fX0_32 : Cond.fieldLink RX0 32 "CanonNames$Graph" "groups" "LCanonNames$Groups;" ∈ ab_U := ab_t1 (i := 167) (by decide +kernel) (by decide +kernel)
theorem fX1_9 : Cond.fieldLink RX1 9 "CanonNames$Groups" "hashes" "[I" ∈ ab_U := ab_t1 (i := 57) (by decide +kernel) (by decide +kernel)
theorem fX1_15 : Cond.fieldLink RX1 15 "CanonNames$Groups" "order" "[I" ∈ ab_U := ab_t1 (i := 60) (by decide +kernel) (by decide +kernel)
theorem fX1_18 : Cond.fieldLink RX1 18 "CanonNames$Groups" "rank" "[I" ∈ ab_U := ab_t1 (i := 64) (by decide +kernel) (by decide +kernel)
theorem fX1_21 : Cond.fieldLink RX1 21 "CanonNames$Groups" "start" "[I" ∈ ab_U := ab_t1 (i := 68) (by decide +kernel) (by decide +kernel)
theorem fX1_24 : Cond.fieldLink RX1 24 "CanonNames$Groups" "count" "I" ∈ ab_U := ab_t1 (i := 72) (by decide +kernel) (by decide +kernel)
theorem fX2_12 : Cond.fieldLink RX2 12 "CanonNames$Hasher" "sha" "LCanonNames$Sha;" ∈ ab_U := ab_t1 (i := 86) (by decide +kernel) (by decide +kernel)
theorem fX2_18 : Cond.fieldLink RX2 18 "CanonNames$Hasher" "descriptions" "[I" ∈ ab_U := ab_t1 (i := 88) (by decide +kernel) (by decide +kernel)
theorem fX2_25 : Cond.fieldLink RX2 25 "CanonNames$Hasher" "next" "LCanonNames$Groups;" ∈ ab_U := ab_t1 (i := 89) (by decide +kernel) (by decide +kernel)
theorem fX2_29 : Cond.fieldLink RX2 29 "CanonNames$Graph" "hashed" "Z" ∈ ab_U := ab_t1 (i := 162) (by decide +kernel) (by decide +kernel)
theorem fX2_35 : Cond.fieldLink RX2 35 "CanonNames$Graph" "blanks" "I" ∈ ab_U := ab_t1 (i := 153) (by decide +kernel) (by decide +kernel)
theorem fX2_39 : Cond.fieldLink RX2 39 "CanonNames$Hasher" "NO_BYTES" "[I" ∈ ab_U := ab_t2 (i := 35) (by decide +kernel) (by decide +kernel)
theorem fX2_42 : Cond.fieldLink RX2 42 "CanonNames$Graph" "groups" "LCanonNames$Groups;" ∈ ab_U := ab_t1 (i := 168) (by decide +kernel) (by decide +kernel)
theorem fX2_45 : Cond.fieldLink RX2 45 "CanonNames$Groups" "hashes" "[I" ∈ ab_U := ab_t1 (i := 58) (by decide +kernel) (by decide +kernel)
theorem fX2_58 : Cond.fieldLink RX2 58 "CanonNames$Graph" "rounds" "I" ∈ ab_U := ab_t1 (i := 165) (by decide +kernel) (by decide +kernel)
theorem fX2_69 : Cond.fieldLink RX2 69 "CanonNames$Groups" "count" "I" ∈ ab_U := ab_t1 (i := 73) (by decide +kernel) (by decide +kernel)
theorem fX2_83 : Cond.fieldLink RX2 83 "CanonNames$Groups" "rank" "[I" ∈ ab_U := ab_t1 (i := 66) (by decide +kernel) (by decide +kernel)
theorem fX2_101 : Cond.fieldLink RX2 101 "CanonNames$Graph" "triples" "I" ∈ ab_U := ab_t1 (i := 160) (by decide +kernel) (by decide +kernel)
theorem fX2_104 : Cond.fieldLink RX2 104 "CanonNames$Graph" "keys" "[I" ∈ ab_U := ab_t1 (i := 148) (by decide +kernel) (by decide +kernel)
theorem fX2_114 : Cond.fieldLink RX2 114 "CanonNames$Groups" "order" "[I" ∈ ab_U := ab_t1 (i := 62) (by decide +kernel) (by decide +kernel)
theorem fX2_117 : Cond.fieldLink RX2 117 "CanonNames$Groups" "start" "[I" ∈ ab_U := ab_t1 (i := 70) (by decide +kernel) (by decide +kernel)
theorem fX3_9 : Cond.fieldLink RX3 9 "CanonNames$LeastRow" "numbers" "[I" ∈ ab_U := ab_t1 (i := 117) (by decide +kernel) (by decide +kernel)
theorem fX3_15 : Cond.fieldLink RX3 15 "CanonNames$LeastRow" "bestNumbers" "[I" ∈ ab_U := ab_t1 (i := 118) (by decide +kernel) (by decide +kernel)
theorem fX3_18 : Cond.fieldLink RX3 18 "CanonNames$LeastRow" "trial" "[I" ∈ ab_U := ab_t1 (i := 119) (by decide +kernel) (by decide +kernel)
theorem fX3_21 : Cond.fieldLink RX3 21 "CanonNames$LeastRow" "found" "Z" ∈ ab_U := ab_t1 (i := 120) (by decide +kernel) (by decide +kernel)
theorem fX3_25 : Cond.fieldLink RX3 25 "CanonNames$Graph" "blanks" "I" ∈ ab_U := ab_t1 (i := 151) (by decide +kernel) (by decide +kernel)
theorem fX3_31 : Cond.fieldLink RX3 31 "CanonNames$Graph" "triples" "I" ∈ ab_U := ab_t1 (i := 156) (by decide +kernel) (by decide +kernel)
theorem fX3_34 : Cond.fieldLink RX3 34 "CanonNames$Graph" "groups" "LCanonNames$Groups;" ∈ ab_U := ab_t1 (i := 169) (by decide +kernel) (by decide +kernel)
theorem fX3_38 : Cond.fieldLink RX3 38 "CanonNames$Groups" "rank" "[I" ∈ ab_U := ab_t1 (i := 65) (by decide +kernel) (by decide +kernel)
theorem fX3_43 : Cond.fieldLink RX3 43 "CanonNames$Groups" "order" "[I" ∈ ab_U := ab_t1 (i := 61) (by decide +kernel) (by decide +kernel)
theorem fX3_54 : Cond.fieldLink RX3 54 "CanonNames$Graph" "keys" "[I" ∈ ab_U := ab_t1 (i := 145) (by decide +kernel) (by decide +kernel)
theorem fX3_65 : Cond.fieldLink RX3 65 "CanonNames$Groups" "start" "[I" ∈ ab_U := ab_t1 (i := 69) (by decide +kernel) (by decide +kernel)
theorem fX4_9 : Cond.fieldLink RX4 9 "CanonNames$Matcher" "images" "[I" ∈ ab_U := ab_t1 (i := 103) (by decide +kernel) (by decide +kernel)
theorem fX4_15 : Cond.fieldLink RX4 15 "CanonNames$Matcher" "lasts" "[I" ∈ ab_U := ab_t1 (i := 105) (by decide +kernel) (by decide +kernel)
theorem fX4_30 : Cond.fieldLink RX4 30 "CanonNames$Graph" "blanks" "I" ∈ ab_U := ab_t1 (i := 154) (by decide +kernel) (by decide +kernel)
theorem fX4_39 : Cond.fieldLink RX4 39 "CanonNames$Graph" "triples" "I" ∈ ab_U := ab_t1 (i := 159) (by decide +kernel) (by decide +kernel)
theorem fX4_42 : Cond.fieldLink RX4 42 "CanonNames$Graph" "keys" "[I" ∈ ab_U := ab_t1 (i := 147) (by decide +kernel) (by decide +kernel)
theorem fX4_54 : Cond.fieldLink RX4 54 "CanonNames$Graph" "groups" "LCanonNames$Groups;" ∈ ab_U := ab_t1 (i := 171) (by decide +kernel) (by decide +kernel)
theorem fX4_58 : Cond.fieldLink RX4 58 "CanonNames$Groups" "rank" "[I" ∈ ab_U := ab_t1 (i := 67) (by decide +kernel) (by decide +kernel)
theorem fX5_12 : Cond.fieldLink RX5 12 "CanonNames$Named" "form" "LCanonNames$Graph;" ∈ ab_U := ab_t1 (i := 185) (by decide +kernel) (by decide +kernel)
theorem fX5_18 : Cond.fieldLink RX5 18 "CanonNames$Named" "numbers" "[I" ∈ ab_U := ab_t1 (i := 187) (by decide +kernel) (by decide +kernel)
theorem fX5_22 : Cond.fieldLink RX5 22 "CanonNames$Named" "digest" "[I" ∈ ab_U := ab_t1 (i := 189) (by decide +kernel) (by decide +kernel)
theorem fX5_25 : Cond.fieldLink RX5 25 "CanonNames$Named" "digested" "Z" ∈ ab_U := ab_t1 (i := 191) (by decide +kernel) (by decide +kernel)
theorem fX5_40 : Cond.fieldLink RX5 40 "CanonNames$Graph" "triples" "I" ∈ ab_U := ab_t1 (i := 157) (by decide +kernel) (by decide +kernel)
theorem fX5_44 : Cond.fieldLink RX5 44 "CanonNames$Graph" "keys" "[I" ∈ ab_U := ab_t1 (i := 146) (by decide +kernel) (by decide +kernel)
theorem fX6_9 : Cond.fieldLink RX6 9 "CanonNames$Sha" "state" "[I" ∈ ab_U := ab_t1 (i := 37) (by decide +kernel) (by decide +kernel)
theorem fX6_15 : Cond.fieldLink RX6 15 "CanonNames$Sha" "words" "[I" ∈ ab_U := ab_t1 (i := 38) (by decide +kernel) (by decide +kernel)
theorem fX6_18 : Cond.fieldLink RX6 18 "CanonNames$Sha" "filled" "I" ∈ ab_U := ab_t1 (i := 39) (by decide +kernel) (by decide +kernel)
theorem fX6_22 : Cond.fieldLink RX6 22 "CanonNames$Sha" "length" "I" ∈ ab_U := ab_t1 (i := 40) (by decide +kernel) (by decide +kernel)
theorem fX6_25 : Cond.fieldLink RX6 25 "CanonNames$Sha" "START" "[I" ∈ ab_U := ab_t2 (i := 73) (by decide +kernel) (by decide +kernel)
theorem fX6_41 : Cond.fieldLink RX6 41 "CanonNames$Sha" "STEPS" "[I" ∈ ab_U := ab_t2 (i := 88) (by decide +kernel) (by decide +kernel)
theorem fX7_10 : Cond.fieldLink RX7 10 "CanonNames" "hasher" "LCanonNames$Hasher;" ∈ ab_U := ab_t1 (i := 204) (by decide +kernel) (by decide +kernel)
theorem fX7_19 : Cond.fieldLink RX7 19 "CanonNames" "matcher" "LCanonNames$Matcher;" ∈ ab_U := ab_t1 (i := 205) (by decide +kernel) (by decide +kernel)
theorem fX7_26 : Cond.fieldLink RX7 26 "CanonNames" "leastRow" "LCanonNames$LeastRow;" ∈ ab_U := ab_t1 (i := 206) (by decide +kernel) (by decide +kernel)
theorem fX7_33 : Cond.fieldLink RX7 33 "CanonNames" "latest" "LCanonNames$Named;" ∈ ab_U := ab_t1 (i := 207) (by decide +kernel) (by decide +kernel)
theorem fX7_39 : Cond.fieldLink RX7 39 "CanonNames" "kept" "[LCanonNames$Graph;" ∈ ab_U := ab_t1 (i := 208) (by decide +kernel) (by decide +kernel)
theorem fX7_43 : Cond.fieldLink RX7 43 "CanonNames" "keptCount" "I" ∈ ab_U := ab_t1 (i := 209) (by decide +kernel) (by decide +kernel)
theorem fX7_48 : Cond.fieldLink RX7 48 "CanonNames" "graph" "LCanonNames$Graph;" ∈ ab_U := ab_t1 (i := 210) (by decide +kernel) (by decide +kernel)
theorem fX7_52 : Cond.fieldLink RX7 52 "CanonNames$Graph" "blanks" "I" ∈ ab_U := ab_t1 (i := 152) (by decide +kernel) (by decide +kernel)
theorem fX7_55 : Cond.fieldLink RX7 55 "CanonNames$Graph" "hashed" "Z" ∈ ab_U := ab_t1 (i := 163) (by decide +kernel) (by decide +kernel)
theorem fX7_71 : Cond.fieldLink RX7 71 "CanonNames$Graph" "triples" "I" ∈ ab_U := ab_t1 (i := 158) (by decide +kernel) (by decide +kernel)
theorem fX7_85 : Cond.fieldLink RX7 85 "CanonNames$Graph" "groups" "LCanonNames$Groups;" ∈ ab_U := ab_t1 (i := 170) (by decide +kernel) (by decide +kernel)
theorem fX7_95 : Cond.fieldLink RX7 95 "CanonNames$Named" "form" "LCanonNames$Graph;" ∈ ab_U := ab_t1 (i := 186) (by decide +kernel) (by decide +kernel)
theorem fX7_106 : Cond.fieldLink RX7 106 "CanonNames$Matcher" "images" "[I" ∈ ab_U := ab_t1 (i := 104) (by decide +kernel) (by decide +kernel)
theorem fX7_118 : Cond.fieldLink RX7 118 "CanonNames$Named" "numbers" "[I" ∈ ab_U := ab_t1 (i := 188) (by decide +kernel) (by decide +kernel)
theorem fX7_121 : Cond.fieldLink RX7 121 "CanonNames$Graph" "keys" "[I" ∈ ab_U := ab_t1 (i := 149) (by decide +kernel) (by decide +kernel)
theorem fX7_135 : Cond.fieldLink RX7 135 "CanonNames$Hasher" "sha" "LCanonNames$Sha;" ∈ ab_U := ab_t1 (i := 87) (by decide +kernel) (by decide +kernel)
theorem fX7_143 : Cond.fieldLink RX7 143 "CanonNames$Named" "digest" "[I" ∈ ab_U := ab_t1 (i := 190) (by decide +kernel) (by decide +kernel)
theorem fX7_146 : Cond.fieldLink RX7 146 "CanonNames$Groups" "hashes" "[I" ∈ ab_U := ab_t1 (i := 59) (by decide +kernel) (by decide +kernel)
theorem fX7_149 : Cond.fieldLink RX7 149 "CanonNames$Graph" "rounds" "I" ∈ ab_U := ab_t1 (i := 166) (by decide +kernel) (by decide +kernel)
theorem fX7_152 : Cond.fieldLink RX7 152 "CanonNames$Groups" "count" "I" ∈ ab_U := ab_t1 (i := 74) (by decide +kernel) (by decide +kernel)
theorem fX7_159 : Cond.fieldLink RX7 159 "CanonNames$Groups" "order" "[I" ∈ ab_U := ab_t1 (i := 63) (by decide +kernel) (by decide +kernel)
theorem fX7_162 : Cond.fieldLink RX7 162 "CanonNames$Groups" "start" "[I" ∈ ab_U := ab_t1 (i := 71) (by decide +kernel) (by decide +kernel)
theorem fX8_1 : Cond.fieldLink RX8 1 "CanonNamesModel" "thrown" "I" ∈ ab_U := ab_t3 (i := 212) (by decide +kernel) (by decide +kernel)
theorem fX8_141 : Cond.fieldLink RX8 141 "CanonNamesModel" "constants" "[J" ∈ ab_U := ab_t3 (i := 187) (by decide +kernel) (by decide +kernel)
theorem fX8_145 : Cond.fieldLink RX8 145 "CanonNamesModel" "blanks" "[I" ∈ ab_U := ab_t3 (i := 188) (by decide +kernel) (by decide +kernel)
theorem fX8_149 : Cond.fieldLink RX8 149 "CanonNamesModel" "counts" "[I" ∈ ab_U := ab_t3 (i := 189) (by decide +kernel) (by decide +kernel)
theorem fX8_152 : Cond.fieldLink RX8 152 "CanonNamesModel" "points" "[I" ∈ ab_U := ab_t3 (i := 190) (by decide +kernel) (by decide +kernel)
theorem fX8_155 : Cond.fieldLink RX8 155 "CanonNamesModel" "hashes" "[J" ∈ ab_U := ab_t3 (i := 192) (by decide +kernel) (by decide +kernel)
theorem fX8_158 : Cond.fieldLink RX8 158 "CanonNamesModel" "news" "[J" ∈ ab_U := ab_t3 (i := 193) (by decide +kernel) (by decide +kernel)
theorem fX8_161 : Cond.fieldLink RX8 161 "CanonNamesModel" "groups" "[I" ∈ ab_U := ab_t3 (i := 196) (by decide +kernel) (by decide +kernel)
theorem fX8_164 : Cond.fieldLink RX8 164 "CanonNamesModel" "groupOf" "[I" ∈ ab_U := ab_t3 (i := 197) (by decide +kernel) (by decide +kernel)
theorem fX8_167 : Cond.fieldLink RX8 167 "CanonNamesModel" "trial" "[I" ∈ ab_U := ab_t3 (i := 199) (by decide +kernel) (by decide +kernel)
theorem fX8_170 : Cond.fieldLink RX8 170 "CanonNamesModel" "row" "[I" ∈ ab_U := ab_t3 (i := 200) (by decide +kernel) (by decide +kernel)
theorem fX8_173 : Cond.fieldLink RX8 173 "CanonNamesModel" "names" "[I" ∈ ab_U := ab_t3 (i := 201) (by decide +kernel) (by decide +kernel)
theorem fX8_176 : Cond.fieldLink RX8 176 "CanonNamesModel" "form" "[I" ∈ ab_U := ab_t3 (i := 203) (by decide +kernel) (by decide +kernel)
theorem fX8_179 : Cond.fieldLink RX8 179 "CanonNamesModel" "octets" "[B" ∈ ab_U := ab_t3 (i := 205) (by decide +kernel) (by decide +kernel)
theorem fX8_183 : Cond.fieldLink RX8 183 "CanonNamesModel" "descriptions" "[I" ∈ ab_U := ab_t3 (i := 206) (by decide +kernel) (by decide +kernel)
theorem fX8_186 : Cond.fieldLink RX8 186 "CanonNamesModel" "message" "[B" ∈ ab_U := ab_t3 (i := 208) (by decide +kernel) (by decide +kernel)
theorem fX8_189 : Cond.fieldLink RX8 189 "CanonNamesModel" "words" "[J" ∈ ab_U := ab_t3 (i := 210) (by decide +kernel) (by decide +kernel)
theorem fX8_192 : Cond.fieldLink RX8 192 "CanonNamesModel" "schedule" "[J" ∈ ab_U := ab_t3 (i := 211) (by decide +kernel) (by decide +kernel)
theorem fX8_195 : Cond.fieldLink RX8 195 "CanonNamesModel" "said" "[Z" ∈ ab_U := ab_t3 (i := 213) (by decide +kernel) (by decide +kernel)
theorem fX8_235 : Cond.fieldLink RX8 235 "CanonNamesModel" "size" "I" ∈ ab_U := ab_t3 (i := 209) (by decide +kernel) (by decide +kernel)
theorem fX8_241 : Cond.fieldLink RX8 241 "CanonNamesModel" "hashed" "Z" ∈ ab_U := ab_t3 (i := 195) (by decide +kernel) (by decide +kernel)
theorem fX8_257 : Cond.fieldLink RX8 257 "CanonNamesModel" "described" "I" ∈ ab_U := ab_t3 (i := 207) (by decide +kernel) (by decide +kernel)
theorem fX8_278 : Cond.fieldLink RX8 278 "CanonNamesModel" "rounds" "I" ∈ ab_U := ab_t3 (i := 194) (by decide +kernel) (by decide +kernel)
theorem fX8_291 : Cond.fieldLink RX8 291 "CanonNamesModel" "groupCount" "I" ∈ ab_U := ab_t3 (i := 198) (by decide +kernel) (by decide +kernel)
theorem fX8_331 : Cond.fieldLink RX8 331 "CanonNamesModel" "namedBlanks" "I" ∈ ab_U := ab_t3 (i := 202) (by decide +kernel) (by decide +kernel)
theorem fX8_334 : Cond.fieldLink RX8 334 "CanonNamesModel" "formCount" "I" ∈ ab_U := ab_t3 (i := 204) (by decide +kernel) (by decide +kernel)
theorem fX8_337 : Cond.fieldLink RX8 337 "CanonNamesModel" "kept" "I" ∈ ab_U := ab_t3 (i := 191) (by decide +kernel) (by decide +kernel)
theorem nL_8 : Cond.classLink RL 8 RX7 ∈ ab_U := ab_t1 (i := 17) (by decide +kernel) (by decide +kernel)
theorem nL_16 : Cond.classLink RL 16 RX8 ∈ ab_U := ab_t3 (i := 91) (by decide +kernel) (by decide +kernel)
theorem nX0_29 : Cond.classLink RX0 29 RX1 ∈ ab_U := ab_t1 (i := 142) (by decide +kernel) (by decide +kernel)
theorem nX2_9 : Cond.classLink RX2 9 RX6 ∈ ab_U := ab_t1 (i := 31) (by decide +kernel) (by decide +kernel)
theorem nX2_22 : Cond.classLink RX2 22 RX1 ∈ ab_U := ab_t1 (i := 51) (by decide +kernel) (by decide +kernel)
theorem nX5_9 : Cond.classLink RX5 9 RX0 ∈ ab_U := ab_t1 (i := 136) (by decide +kernel) (by decide +kernel)
theorem nX7_7 : Cond.classLink RX7 7 RX2 ∈ ab_U := ab_t1 (i := 25) (by decide +kernel) (by decide +kernel)
theorem nX7_16 : Cond.classLink RX7 16 RX4 ∈ ab_U := ab_t1 (i := 97) (by decide +kernel) (by decide +kernel)
theorem nX7_23 : Cond.classLink RX7 23 RX3 ∈ ab_U := ab_t1 (i := 111) (by decide +kernel) (by decide +kernel)
theorem nX7_30 : Cond.classLink RX7 30 RX5 ∈ ab_U := ab_t1 (i := 130) (by decide +kernel) (by decide +kernel)
theorem nX7_37 : Cond.classLink RX7 37 RX0 ∈ ab_U := ab_t1 (i := 201) (by decide +kernel) (by decide +kernel)
theorem kL_33 : Jvm.Cond.constantLong RL 33 (4294967295) ∈ ab_U := ab_t4 (i := 190) (by decide +kernel) (by decide +kernel)
theorem kX1_32 : Jvm.Cond.constant RX1 32 (-2147483648) ∈ ab_U := ab_t2 (i := 48) (by decide +kernel) (by decide +kernel)
theorem kX8_13 : Jvm.Cond.constantLong RX8 13 (1116352408) ∈ ab_U := ab_t3 (i := 97) (by decide +kernel) (by decide +kernel)
theorem kX8_15 : Jvm.Cond.constantLong RX8 15 (1899447441) ∈ ab_U := ab_t3 (i := 98) (by decide +kernel) (by decide +kernel)
theorem kX8_17 : Jvm.Cond.constantLong RX8 17 (3049323471) ∈ ab_U := ab_t3 (i := 99) (by decide +kernel) (by decide +kernel)
theorem kX8_19 : Jvm.Cond.constantLong RX8 19 (3921009573) ∈ ab_U := ab_t3 (i := 100) (by decide +kernel) (by decide +kernel)
theorem kX8_21 : Jvm.Cond.constantLong RX8 21 (961987163) ∈ ab_U := ab_t3 (i := 101) (by decide +kernel) (by decide +kernel)
theorem kX8_23 : Jvm.Cond.constantLong RX8 23 (1508970993) ∈ ab_U := ab_t3 (i := 102) (by decide +kernel) (by decide +kernel)
theorem kX8_25 : Jvm.Cond.constantLong RX8 25 (2453635748) ∈ ab_U := ab_t3 (i := 103) (by decide +kernel) (by decide +kernel)
theorem kX8_27 : Jvm.Cond.constantLong RX8 27 (2870763221) ∈ ab_U := ab_t3 (i := 104) (by decide +kernel) (by decide +kernel)
theorem kX8_29 : Jvm.Cond.constantLong RX8 29 (3624381080) ∈ ab_U := ab_t3 (i := 105) (by decide +kernel) (by decide +kernel)
theorem kX8_31 : Jvm.Cond.constantLong RX8 31 (310598401) ∈ ab_U := ab_t3 (i := 106) (by decide +kernel) (by decide +kernel)
theorem kX8_33 : Jvm.Cond.constantLong RX8 33 (607225278) ∈ ab_U := ab_t3 (i := 107) (by decide +kernel) (by decide +kernel)
theorem kX8_35 : Jvm.Cond.constantLong RX8 35 (1426881987) ∈ ab_U := ab_t3 (i := 108) (by decide +kernel) (by decide +kernel)
theorem kX8_37 : Jvm.Cond.constantLong RX8 37 (1925078388) ∈ ab_U := ab_t3 (i := 109) (by decide +kernel) (by decide +kernel)
theorem kX8_39 : Jvm.Cond.constantLong RX8 39 (2162078206) ∈ ab_U := ab_t3 (i := 110) (by decide +kernel) (by decide +kernel)
theorem kX8_41 : Jvm.Cond.constantLong RX8 41 (2614888103) ∈ ab_U := ab_t3 (i := 111) (by decide +kernel) (by decide +kernel)
theorem kX8_43 : Jvm.Cond.constantLong RX8 43 (3248222580) ∈ ab_U := ab_t3 (i := 112) (by decide +kernel) (by decide +kernel)
theorem kX8_45 : Jvm.Cond.constantLong RX8 45 (3835390401) ∈ ab_U := ab_t3 (i := 113) (by decide +kernel) (by decide +kernel)
theorem kX8_47 : Jvm.Cond.constantLong RX8 47 (4022224774) ∈ ab_U := ab_t3 (i := 114) (by decide +kernel) (by decide +kernel)
theorem kX8_49 : Jvm.Cond.constantLong RX8 49 (264347078) ∈ ab_U := ab_t3 (i := 115) (by decide +kernel) (by decide +kernel)
theorem kX8_51 : Jvm.Cond.constantLong RX8 51 (604807628) ∈ ab_U := ab_t3 (i := 116) (by decide +kernel) (by decide +kernel)
theorem kX8_53 : Jvm.Cond.constantLong RX8 53 (770255983) ∈ ab_U := ab_t3 (i := 117) (by decide +kernel) (by decide +kernel)
theorem kX8_55 : Jvm.Cond.constantLong RX8 55 (1249150122) ∈ ab_U := ab_t3 (i := 118) (by decide +kernel) (by decide +kernel)
theorem kX8_57 : Jvm.Cond.constantLong RX8 57 (1555081692) ∈ ab_U := ab_t3 (i := 119) (by decide +kernel) (by decide +kernel)
theorem kX8_59 : Jvm.Cond.constantLong RX8 59 (1996064986) ∈ ab_U := ab_t3 (i := 120) (by decide +kernel) (by decide +kernel)
theorem kX8_61 : Jvm.Cond.constantLong RX8 61 (2554220882) ∈ ab_U := ab_t3 (i := 121) (by decide +kernel) (by decide +kernel)
theorem kX8_63 : Jvm.Cond.constantLong RX8 63 (2821834349) ∈ ab_U := ab_t3 (i := 122) (by decide +kernel) (by decide +kernel)
theorem kX8_65 : Jvm.Cond.constantLong RX8 65 (2952996808) ∈ ab_U := ab_t3 (i := 123) (by decide +kernel) (by decide +kernel)
theorem kX8_67 : Jvm.Cond.constantLong RX8 67 (3210313671) ∈ ab_U := ab_t3 (i := 124) (by decide +kernel) (by decide +kernel)
theorem kX8_69 : Jvm.Cond.constantLong RX8 69 (3336571891) ∈ ab_U := ab_t3 (i := 125) (by decide +kernel) (by decide +kernel)
theorem kX8_71 : Jvm.Cond.constantLong RX8 71 (3584528711) ∈ ab_U := ab_t3 (i := 126) (by decide +kernel) (by decide +kernel)
theorem kX8_73 : Jvm.Cond.constantLong RX8 73 (113926993) ∈ ab_U := ab_t3 (i := 127) (by decide +kernel) (by decide +kernel)
theorem kX8_75 : Jvm.Cond.constantLong RX8 75 (338241895) ∈ ab_U := ab_t3 (i := 128) (by decide +kernel) (by decide +kernel)
theorem kX8_77 : Jvm.Cond.constantLong RX8 77 (666307205) ∈ ab_U := ab_t3 (i := 129) (by decide +kernel) (by decide +kernel)
theorem kX8_79 : Jvm.Cond.constantLong RX8 79 (773529912) ∈ ab_U := ab_t3 (i := 130) (by decide +kernel) (by decide +kernel)
theorem kX8_81 : Jvm.Cond.constantLong RX8 81 (1294757372) ∈ ab_U := ab_t3 (i := 131) (by decide +kernel) (by decide +kernel)
theorem kX8_83 : Jvm.Cond.constantLong RX8 83 (1396182291) ∈ ab_U := ab_t3 (i := 132) (by decide +kernel) (by decide +kernel)
theorem kX8_85 : Jvm.Cond.constantLong RX8 85 (1695183700) ∈ ab_U := ab_t3 (i := 133) (by decide +kernel) (by decide +kernel)
theorem kX8_87 : Jvm.Cond.constantLong RX8 87 (1986661051) ∈ ab_U := ab_t3 (i := 134) (by decide +kernel) (by decide +kernel)
theorem kX8_89 : Jvm.Cond.constantLong RX8 89 (2177026350) ∈ ab_U := ab_t3 (i := 135) (by decide +kernel) (by decide +kernel)
theorem kX8_91 : Jvm.Cond.constantLong RX8 91 (2456956037) ∈ ab_U := ab_t3 (i := 136) (by decide +kernel) (by decide +kernel)
theorem kX8_93 : Jvm.Cond.constantLong RX8 93 (2730485921) ∈ ab_U := ab_t3 (i := 137) (by decide +kernel) (by decide +kernel)
theorem kX8_95 : Jvm.Cond.constantLong RX8 95 (2820302411) ∈ ab_U := ab_t3 (i := 138) (by decide +kernel) (by decide +kernel)
theorem kX8_97 : Jvm.Cond.constantLong RX8 97 (3259730800) ∈ ab_U := ab_t3 (i := 139) (by decide +kernel) (by decide +kernel)
theorem kX8_99 : Jvm.Cond.constantLong RX8 99 (3345764771) ∈ ab_U := ab_t3 (i := 140) (by decide +kernel) (by decide +kernel)
theorem kX8_101 : Jvm.Cond.constantLong RX8 101 (3516065817) ∈ ab_U := ab_t3 (i := 141) (by decide +kernel) (by decide +kernel)
theorem kX8_103 : Jvm.Cond.constantLong RX8 103 (3600352804) ∈ ab_U := ab_t3 (i := 142) (by decide +kernel) (by decide +kernel)
theorem kX8_105 : Jvm.Cond.constantLong RX8 105 (4094571909) ∈ ab_U := ab_t3 (i := 143) (by decide +kernel) (by decide +kernel)
theorem kX8_107 : Jvm.Cond.constantLong RX8 107 (275423344) ∈ ab_U := ab_t3 (i := 144) (by decide +kernel) (by decide +kernel)
theorem kX8_109 : Jvm.Cond.constantLong RX8 109 (430227734) ∈ ab_U := ab_t3 (i := 145) (by decide +kernel) (by decide +kernel)
theorem kX8_111 : Jvm.Cond.constantLong RX8 111 (506948616) ∈ ab_U := ab_t3 (i := 146) (by decide +kernel) (by decide +kernel)
theorem kX8_113 : Jvm.Cond.constantLong RX8 113 (659060556) ∈ ab_U := ab_t3 (i := 147) (by decide +kernel) (by decide +kernel)
theorem kX8_115 : Jvm.Cond.constantLong RX8 115 (883997877) ∈ ab_U := ab_t3 (i := 148) (by decide +kernel) (by decide +kernel)
theorem kX8_117 : Jvm.Cond.constantLong RX8 117 (958139571) ∈ ab_U := ab_t3 (i := 149) (by decide +kernel) (by decide +kernel)
theorem kX8_119 : Jvm.Cond.constantLong RX8 119 (1322822218) ∈ ab_U := ab_t3 (i := 150) (by decide +kernel) (by decide +kernel)
theorem kX8_121 : Jvm.Cond.constantLong RX8 121 (1537002063) ∈ ab_U := ab_t3 (i := 151) (by decide +kernel) (by decide +kernel)
theorem kX8_123 : Jvm.Cond.constantLong RX8 123 (1747873779) ∈ ab_U := ab_t3 (i := 152) (by decide +kernel) (by decide +kernel)
theorem kX8_125 : Jvm.Cond.constantLong RX8 125 (1955562222) ∈ ab_U := ab_t3 (i := 153) (by decide +kernel) (by decide +kernel)
theorem kX8_127 : Jvm.Cond.constantLong RX8 127 (2024104815) ∈ ab_U := ab_t3 (i := 154) (by decide +kernel) (by decide +kernel)
theorem kX8_129 : Jvm.Cond.constantLong RX8 129 (2227730452) ∈ ab_U := ab_t3 (i := 155) (by decide +kernel) (by decide +kernel)
theorem kX8_131 : Jvm.Cond.constantLong RX8 131 (2361852424) ∈ ab_U := ab_t3 (i := 156) (by decide +kernel) (by decide +kernel)
theorem kX8_133 : Jvm.Cond.constantLong RX8 133 (2428436474) ∈ ab_U := ab_t3 (i := 157) (by decide +kernel) (by decide +kernel)
theorem kX8_135 : Jvm.Cond.constantLong RX8 135 (2756734187) ∈ ab_U := ab_t3 (i := 158) (by decide +kernel) (by decide +kernel)
theorem kX8_137 : Jvm.Cond.constantLong RX8 137 (3204031479) ∈ ab_U := ab_t3 (i := 159) (by decide +kernel) (by decide +kernel)
theorem kX8_139 : Jvm.Cond.constantLong RX8 139 (3329325298) ∈ ab_U := ab_t3 (i := 160) (by decide +kernel) (by decide +kernel)
theorem kX8_206 : Jvm.Cond.constantLong RX8 206 (4294967295) ∈ ab_U := ab_t3 (i := 182) (by decide +kernel) (by decide +kernel)
theorem kX8_208 : Jvm.Cond.constantLong RX8 208 (1779033703) ∈ ab_U := ab_t3 (i := 165) (by decide +kernel) (by decide +kernel)
theorem kX8_210 : Jvm.Cond.constantLong RX8 210 (3144134277) ∈ ab_U := ab_t3 (i := 166) (by decide +kernel) (by decide +kernel)
theorem kX8_212 : Jvm.Cond.constantLong RX8 212 (1013904242) ∈ ab_U := ab_t3 (i := 167) (by decide +kernel) (by decide +kernel)
theorem kX8_214 : Jvm.Cond.constantLong RX8 214 (2773480762) ∈ ab_U := ab_t3 (i := 168) (by decide +kernel) (by decide +kernel)
theorem kX8_216 : Jvm.Cond.constantLong RX8 216 (1359893119) ∈ ab_U := ab_t3 (i := 169) (by decide +kernel) (by decide +kernel)
theorem kX8_218 : Jvm.Cond.constantLong RX8 218 (2600822924) ∈ ab_U := ab_t3 (i := 170) (by decide +kernel) (by decide +kernel)
theorem kX8_220 : Jvm.Cond.constantLong RX8 220 (528734635) ∈ ab_U := ab_t3 (i := 171) (by decide +kernel) (by decide +kernel)
theorem kX8_222 : Jvm.Cond.constantLong RX8 222 (1541459225) ∈ ab_U := ab_t3 (i := 172) (by decide +kernel) (by decide +kernel)
theorem kX8_224 : Jvm.Cond.constantLong RX8 224 (8) ∈ ab_U := ab_t3 (i := 173) (by decide +kernel) (by decide +kernel)
theorem kX8_229 : Jvm.Cond.constantLong RX8 229 (256) ∈ ab_U := ab_t3 (i := 178) (by decide +kernel) (by decide +kernel)
theorem kX8_260 : Jvm.Cond.constantLong RX8 260 (255) ∈ ab_U := ab_t4 (i := 70) (by decide +kernel) (by decide +kernel)
theorem ab_obj1 : Cond.instanceMethod Lib.objectInit ∈ ab_U := ab_t1 (i := 23) (by decide +kernel) (by decide +kernel)
theorem ab_obj2 : Cond.code Lib.objectInit ⟨#[0xb1]⟩ 1 none ∈ ab_U := ab_t1 (i := 24) (by decide +kernel) (by decide +kernel)
theorem ab_max1 : Cond.static Lib.Math.max.name ∈ ab_U := ab_t2 (i := 128) (by decide +kernel) (by decide +kernel)
theorem ab_max2 : Cond.code Lib.Math.max.name Lib.Math.max.code 2 (some .int) ∈ ab_U := ab_t2 (i := 129) (by decide +kernel) (by decide +kernel)
theorem ab_min1 : Cond.static Lib.Math.min.name ∈ ab_U := ab_t2 (i := 121) (by decide +kernel) (by decide +kernel)
theorem ab_min2 : Cond.code Lib.Math.min.name Lib.Math.min.code 2 (some .int) ∈ ab_U := ab_t2 (i := 122) (by decide +kernel) (by decide +kernel)
theorem ab_ma : Cond.initialized "java/lang/Math" ∈ ab_U := ab_t1 (i := 11) (by decide +kernel) (by decide +kernel)
theorem ab_cp : Cond.native arraycopyName ∈ ab_U ∧ Cond.static arraycopyName ∈ ab_U ∧ Cond.initialized "java/lang/System" ∈ ab_U := ⟨ab_t2 (i := 39) (by decide +kernel) (by decide +kernel), ab_t2 (i := 38) (by decide +kernel) (by decide +kernel), ab_t1 (i := 10) (by decide +kernel) (by decide +kernel)⟩
theorem oX0_3 : Cond.methodLink RX0 3 Lib.objectInit ∈ ab_U ∧ Cond.instanceMethod Lib.objectInit ∈ ab_U ∧ Cond.code Lib.objectInit ⟨#[0xb1]⟩ 1 none ∈ ab_U := ⟨ab_t1 (i := 141) (by decide +kernel) (by decide +kernel), ab_obj1, ab_obj2⟩
theorem oX1_3 : Cond.methodLink RX1 3 Lib.objectInit ∈ ab_U ∧ Cond.instanceMethod Lib.objectInit ∈ ab_U ∧ Cond.code Lib.objectInit ⟨#[0xb1]⟩ 1 none ∈ ab_U := ⟨ab_t1 (i := 56) (by decide +kernel) (by decide +kernel), ab_obj1, ab_obj2⟩
theorem oX2_3 : Cond.methodLink RX2 3 Lib.objectInit ∈ ab_U ∧ Cond.instanceMethod Lib.objectInit ∈ ab_U ∧ Cond.code Lib.objectInit ⟨#[0xb1]⟩ 1 none ∈ ab_U := ⟨ab_t1 (i := 30) (by decide +kernel) (by decide +kernel), ab_obj1, ab_obj2⟩
theorem uX2_48 : Cond.methodLink RX2 48 arraycopyName ∈ ab_U ∧ Cond.native arraycopyName ∈ ab_U ∧ Cond.static arraycopyName ∈ ab_U ∧ Cond.initialized "java/lang/System" ∈ ab_U := ⟨ab_t2 (i := 37) (by decide +kernel) (by decide +kernel), ab_cp⟩
theorem oX3_3 : Cond.methodLink RX3 3 Lib.objectInit ∈ ab_U ∧ Cond.instanceMethod Lib.objectInit ∈ ab_U ∧ Cond.code Lib.objectInit ⟨#[0xb1]⟩ 1 none ∈ ab_U := ⟨ab_t1 (i := 116) (by decide +kernel) (by decide +kernel), ab_obj1, ab_obj2⟩
theorem uX3_68 : Cond.methodLink RX3 68 arraycopyName ∈ ab_U ∧ Cond.native arraycopyName ∈ ab_U ∧ Cond.static arraycopyName ∈ ab_U ∧ Cond.initialized "java/lang/System" ∈ ab_U := ⟨ab_t2 (i := 137) (by decide +kernel) (by decide +kernel), ab_cp⟩
theorem uX3_78 : Cond.methodLink RX3 78 Lib.Math.max.name ∈ ab_U ∧ Cond.static Lib.Math.max.name ∈ ab_U ∧ Cond.initialized "java/lang/Math" ∈ ab_U ∧ Cond.code Lib.Math.max.name Lib.Math.max.code 2 (some .int) ∈ ab_U := ⟨ab_t2 (i := 127) (by decide +kernel) (by decide +kernel), ab_max1, ab_ma, ab_max2⟩
theorem uX3_84 : Cond.methodLink RX3 84 Lib.Math.min.name ∈ ab_U ∧ Cond.static Lib.Math.min.name ∈ ab_U ∧ Cond.initialized "java/lang/Math" ∈ ab_U ∧ Cond.code Lib.Math.min.name Lib.Math.min.code 2 (some .int) ∈ ab_U := ⟨ab_t2 (i := 120) (by decide +kernel) (by decide +kernel), ab_min1, ab_ma, ab_min2⟩
theorem oX4_3 : Cond.methodLink RX4 3 Lib.objectInit ∈ ab_U ∧ Cond.instanceMethod Lib.objectInit ∈ ab_U ∧ Cond.code Lib.objectInit ⟨#[0xb1]⟩ 1 none ∈ ab_U := ⟨ab_t1 (i := 102) (by decide +kernel) (by decide +kernel), ab_obj1, ab_obj2⟩
theorem uX4_49 : Cond.methodLink RX4 49 Lib.Math.max.name ∈ ab_U ∧ Cond.static Lib.Math.max.name ∈ ab_U ∧ Cond.initialized "java/lang/Math" ∈ ab_U ∧ Cond.code Lib.Math.max.name Lib.Math.max.code 2 (some .int) ∈ ab_U := ⟨ab_t2 (i := 151) (by decide +kernel) (by decide +kernel), ab_max1, ab_ma, ab_max2⟩
theorem oX5_3 : Cond.methodLink RX5 3 Lib.objectInit ∈ ab_U ∧ Cond.instanceMethod Lib.objectInit ∈ ab_U ∧ Cond.code Lib.objectInit ⟨#[0xb1]⟩ 1 none ∈ ab_U := ⟨ab_t1 (i := 135) (by decide +kernel) (by decide +kernel), ab_obj1, ab_obj2⟩
theorem uX5_29 : Cond.methodLink RX5 29 arraycopyName ∈ ab_U ∧ Cond.native arraycopyName ∈ ab_U ∧ Cond.static arraycopyName ∈ ab_U ∧ Cond.initialized "java/lang/System" ∈ ab_U := ⟨ab_t2 (i := 170) (by decide +kernel) (by decide +kernel), ab_cp⟩
theorem oX6_3 : Cond.methodLink RX6 3 Lib.objectInit ∈ ab_U ∧ Cond.instanceMethod Lib.objectInit ∈ ab_U ∧ Cond.code Lib.objectInit ⟨#[0xb1]⟩ 1 none ∈ ab_U := ⟨ab_t1 (i := 36) (by decide +kernel) (by decide +kernel), ab_obj1, ab_obj2⟩
theorem uX6_28 : Cond.methodLink RX6 28 arraycopyName ∈ ab_U ∧ Cond.native arraycopyName ∈ ab_U ∧ Cond.static arraycopyName ∈ ab_U ∧ Cond.initialized "java/lang/System" ∈ ab_U := ⟨ab_t2 (i := 75) (by decide +kernel) (by decide +kernel), ab_cp⟩
theorem oX7_1 : Cond.methodLink RX7 1 Lib.objectInit ∈ ab_U ∧ Cond.instanceMethod Lib.objectInit ∈ ab_U ∧ Cond.code Lib.objectInit ⟨#[0xb1]⟩ 1 none ∈ ab_U := ⟨ab_t1 (i := 22) (by decide +kernel) (by decide +kernel), ab_obj1, ab_obj2⟩
theorem oX8_7 : Cond.methodLink RX8 7 Lib.objectInit ∈ ab_U ∧ Cond.instanceMethod Lib.objectInit ∈ ab_U ∧ Cond.code Lib.objectInit ⟨#[0xb1]⟩ 1 none ∈ ab_U := ⟨ab_t3 (i := 96) (by decide +kernel) (by decide +kernel), ab_obj1, ab_obj2⟩
-- no code word: L_octet
theorem zX0_hasPoints : ab_cl0 mX0_hasPoints := ⟨ab_t1 (i := 237) (by decide +kernel) (by decide +kernel), jC1, by decide, by decide, by decide⟩
theorem zX0_hasSizesOf : ab_cl0 mX0_hasSizesOf := ⟨ab_t2 (i := 216) (by decide +kernel) (by decide +kernel), jC1, by decide, by decide, by decide⟩
theorem zX0_holds : ab_cl0 mX0_holds := ⟨ab_t2 (i := 8) (by decide +kernel) (by decide +kernel), jC1, by decide, by decide, by decide⟩
theorem zX0_init : ab_cl0 mX0_init := ⟨ab_t1 (i := 140) (by decide +kernel) (by decide +kernel), jC1, by decide, by decide, by decide⟩
theorem zX0_insert : ab_cl0 mX0_insert := ⟨ab_t2 (i := 15) (by decide +kernel) (by decide +kernel), jC1, by decide, by decide, by decide⟩
theorem zX0_isPoint : ab_cl0 mX0_isPoint := ⟨ab_t2 (i := 1) (by decide +kernel) (by decide +kernel), jC1, by decide, by decide, by decide⟩
theorem zX0_remove : ab_cl0 mX0_remove := ⟨ab_t2 (i := 26) (by decide +kernel) (by decide +kernel), jC1, by decide, by decide, by decide⟩
theorem zX1_arrange : ab_cl0 mX1_arrange := ⟨ab_t2 (i := 43) (by decide +kernel) (by decide +kernel), jC2, by decide, by decide, by decide⟩
theorem zX1_compareHashes : ab_cl0 mX1_compareHashes := ⟨ab_t2 (i := 47) (by decide +kernel) (by decide +kernel), jC2, by decide, by decide, by decide⟩
theorem zX1_hasHashesOf : ab_cl0 mX1_hasHashesOf := ⟨ab_t2 (i := 220) (by decide +kernel) (by decide +kernel), jC2, by decide, by decide, by decide⟩
theorem zX1_init : ab_cl0 mX1_init := ⟨ab_t1 (i := 55) (by decide +kernel) (by decide +kernel), jC2, by decide, by decide, by decide⟩
theorem zX1_namings : ab_cl0 mX1_namings := ⟨ab_t2 (i := 103) (by decide +kernel) (by decide +kernel), jC2, by decide, by decide, by decide⟩
theorem zX1_sizeOf : ab_cl0 mX1_sizeOf := ⟨ab_t2 (i := 107) (by decide +kernel) (by decide +kernel), jC2, by decide, by decide, by decide⟩
theorem zX2_describe : ab_cl0 mX2_describe := ⟨ab_t2 (i := 56) (by decide +kernel) (by decide +kernel), jC3, by decide, by decide, by decide⟩
theorem zX2_init : ab_cl0 mX2_init := ⟨ab_t1 (i := 29) (by decide +kernel) (by decide +kernel), jC3, by decide, by decide, by decide⟩
theorem zX2_makesMore : ab_cl0 mX2_makesMore := ⟨ab_t2 (i := 52) (by decide +kernel) (by decide +kernel), jC3, by decide, by decide, by decide⟩
theorem zX2_partFor : ab_cl0 mX2_partFor := ⟨ab_t2 (i := 65) (by decide +kernel) (by decide +kernel), jC3, by decide, by decide, by decide⟩
theorem zX2_putContent : ab_cl0 mX2_putContent := ⟨ab_t2 (i := 79) (by decide +kernel) (by decide +kernel), jC3, by decide, by decide, by decide⟩
theorem zX2_refresh : ab_cl0 mX2_refresh := ⟨ab_t2 (i := 34) (by decide +kernel) (by decide +kernel), jC3, by decide, by decide, by decide⟩
theorem zX2_takeRound : ab_cl0 mX2_takeRound := ⟨ab_t2 (i := 99) (by decide +kernel) (by decide +kernel), jC3, by decide, by decide, by decide⟩
theorem zX3_compare : ab_cl0 mX3_compare := ⟨ab_t2 (i := 132) (by decide +kernel) (by decide +kernel), jC4, by decide, by decide, by decide⟩
theorem zX3_find : ab_cl0 mX3_find := ⟨ab_t2 (i := 111) (by decide +kernel) (by decide +kernel), jC4, by decide, by decide, by decide⟩
theorem zX3_greatestDifference : ab_cl0 mX3_greatestDifference := ⟨ab_t2 (i := 141) (by decide +kernel) (by decide +kernel), jC4, by decide, by decide, by decide⟩
theorem zX3_init : ab_cl0 mX3_init := ⟨ab_t1 (i := 115) (by decide +kernel) (by decide +kernel), jC4, by decide, by decide, by decide⟩
theorem zX3_layTrial : ab_cl0 mX3_layTrial := ⟨ab_t2 (i := 119) (by decide +kernel) (by decide +kernel), jC4, by decide, by decide, by decide⟩
theorem zX3_search : ab_cl0 mX3_search := ⟨ab_t2 (i := 115) (by decide +kernel) (by decide +kernel), jC4, by decide, by decide, by decide⟩
theorem zX3_settle : ab_cl0 mX3_settle := ⟨ab_t2 (i := 136) (by decide +kernel) (by decide +kernel), jC4, by decide, by decide, by decide⟩
theorem zX4_automorphisms : ab_cl0 mX4_automorphisms := ⟨ab_t2 (i := 174) (by decide +kernel) (by decide +kernel), jC5, by decide, by decide, by decide⟩
theorem zX4_completes : ab_cl0 mX4_completes := ⟨ab_t2 (i := 161) (by decide +kernel) (by decide +kernel), jC5, by decide, by decide, by decide⟩
theorem zX4_fits : ab_cl0 mX4_fits := ⟨ab_t2 (i := 165) (by decide +kernel) (by decide +kernel), jC5, by decide, by decide, by decide⟩
theorem zX4_init : ab_cl0 mX4_init := ⟨ab_t1 (i := 101) (by decide +kernel) (by decide +kernel), jC5, by decide, by decide, by decide⟩
theorem zX4_keepsTriples : ab_cl0 mX4_keepsTriples := ⟨ab_t2 (i := 155) (by decide +kernel) (by decide +kernel), jC5, by decide, by decide, by decide⟩
theorem zX4_matches : ab_cl0 mX4_matches := ⟨ab_t2 (i := 145) (by decide +kernel) (by decide +kernel), jC5, by decide, by decide, by decide⟩
theorem zX4_readLasts : ab_cl0 mX4_readLasts := ⟨ab_t2 (i := 149) (by decide +kernel) (by decide +kernel), jC5, by decide, by decide, by decide⟩
theorem zX5_adopt : ab_cl0 mX5_adopt := ⟨ab_t2 (i := 169) (by decide +kernel) (by decide +kernel), jC6, by decide, by decide, by decide⟩
theorem zX5_init : ab_cl0 mX5_init := ⟨ab_t1 (i := 134) (by decide +kernel) (by decide +kernel), jC6, by decide, by decide, by decide⟩
theorem zX5_refreshDigest : ab_cl0 mX5_refreshDigest := ⟨ab_t3 (i := 82) (by decide +kernel) (by decide +kernel), jC6, by decide, by decide, by decide⟩
theorem zX6_begin : ab_cl0 mX6_begin := ⟨ab_t2 (i := 72) (by decide +kernel) (by decide +kernel), jC7, by decide, by decide, by decide⟩
theorem zX6_end : ab_cl0 mX6_end := ⟨ab_t2 (i := 94) (by decide +kernel) (by decide +kernel), jC7, by decide, by decide, by decide⟩
theorem zX6_init : ab_cl0 mX6_init := ⟨ab_t1 (i := 35) (by decide +kernel) (by decide +kernel), jC7, by decide, by decide, by decide⟩
theorem zX6_mix : ab_cl0 mX6_mix := ⟨ab_t2 (i := 87) (by decide +kernel) (by decide +kernel), jC7, by decide, by decide, by decide⟩
theorem zX6_put : ab_cl0 mX6_put := ⟨ab_t2 (i := 83) (by decide +kernel) (by decide +kernel), jC7, by decide, by decide, by decide⟩
theorem zX7_becomes : ab_cl0 mX7_becomes := ⟨ab_t2 (i := 212) (by decide +kernel) (by decide +kernel), jC8, by decide, by decide, by decide⟩
theorem zX7_blank : ab_cl0 mX7_blank := ⟨ab_t1 (i := 229) (by decide +kernel) (by decide +kernel), jC8, by decide, by decide, by decide⟩
theorem zX7_blanks : ab_cl0 mX7_blanks := ⟨ab_t2 (i := 239) (by decide +kernel) (by decide +kernel), jC8, by decide, by decide, by decide⟩
theorem zX7_drop : ab_cl0 mX7_drop := ⟨ab_t2 (i := 22) (by decide +kernel) (by decide +kernel), jC8, by decide, by decide, by decide⟩
theorem zX7_equal : ab_cl0 mX7_equal := ⟨ab_t2 (i := 228) (by decide +kernel) (by decide +kernel), jC8, by decide, by decide, by decide⟩
theorem zX7_first : ab_cl0 mX7_first := ⟨ab_t2 (i := 195) (by decide +kernel) (by decide +kernel), jC8, by decide, by decide, by decide⟩
theorem zX7_form : ab_cl0 mX7_form := ⟨ab_t2 (i := 182) (by decide +kernel) (by decide +kernel), jC8, by decide, by decide, by decide⟩
theorem zX7_hash : ab_cl0 mX7_hash := ⟨ab_t2 (i := 187) (by decide +kernel) (by decide +kernel), jC8, by decide, by decide, by decide⟩
theorem zX7_init : ab_cl0 mX7_init := ⟨ab_t1 (i := 21) (by decide +kernel) (by decide +kernel), jC8, by decide, by decide, by decide⟩
theorem zX7_isIn : ab_cl0 mX7_isIn := ⟨ab_t2 (i := 11) (by decide +kernel) (by decide +kernel), jC8, by decide, by decide, by decide⟩
theorem zX7_isomorphic : ab_cl0 mX7_isomorphic := ⟨ab_t2 (i := 204) (by decide +kernel) (by decide +kernel), jC8, by decide, by decide, by decide⟩
theorem zX7_keep : ab_cl0 mX7_keep := ⟨ab_t2 (i := 200) (by decide +kernel) (by decide +kernel), jC8, by decide, by decide, by decide⟩
theorem zX7_keptAt : ab_cl0 mX7_keptAt := ⟨ab_t2 (i := 208) (by decide +kernel) (by decide +kernel), jC8, by decide, by decide, by decide⟩
theorem zX7_keyOf : ab_cl0 mX7_keyOf := ⟨ab_t2 (i := 4) (by decide +kernel) (by decide +kernel), jC8, by decide, by decide, by decide⟩
theorem zX7_name : ab_cl0 mX7_name := ⟨ab_t2 (i := 30) (by decide +kernel) (by decide +kernel), jC8, by decide, by decide, by decide⟩
theorem zX7_named : ab_cl0 mX7_named := ⟨ab_t2 (i := 178) (by decide +kernel) (by decide +kernel), jC8, by decide, by decide, by decide⟩
theorem zX7_octet : ab_cl0 mX7_octet := ⟨ab_t3 (i := 7) (by decide +kernel) (by decide +kernel), jC8, by decide, by decide, by decide⟩
theorem zX7_partAt : ab_cl0 mX7_partAt := ⟨ab_t2 (i := 62) (by decide +kernel) (by decide +kernel), jC8, by decide, by decide, by decide⟩
theorem zX7_placeFor : ab_cl0 mX7_placeFor := ⟨ab_t2 (i := 18) (by decide +kernel) (by decide +kernel), jC8, by decide, by decide, by decide⟩
theorem zX7_pointAt : ab_cl0 mX7_pointAt := ⟨ab_t2 (i := 59) (by decide +kernel) (by decide +kernel), jC8, by decide, by decide, by decide⟩
theorem zX7_renumbered : ab_cl0 mX7_renumbered := ⟨ab_t2 (i := 125) (by decide +kernel) (by decide +kernel), jC8, by decide, by decide, by decide⟩
theorem zX7_rounds : ab_cl0 mX7_rounds := ⟨ab_t2 (i := 191) (by decide +kernel) (by decide +kernel), jC8, by decide, by decide, by decide⟩
theorem zX7_sameRows : ab_cl0 mX7_sameRows := ⟨ab_t2 (i := 231) (by decide +kernel) (by decide +kernel), jC8, by decide, by decide, by decide⟩
theorem zX7_sort : ab_cl0 mX7_sort := ⟨ab_t2 (i := 68) (by decide +kernel) (by decide +kernel), jC8, by decide, by decide, by decide⟩
theorem zX7_triple : ab_cl0 mX7_triple := ⟨ab_t1 (i := 233) (by decide +kernel) (by decide +kernel), jC8, by decide, by decide, by decide⟩
theorem zX7_triples : ab_cl0 mX7_triples := ⟨ab_t2 (i := 235) (by decide +kernel) (by decide +kernel), jC8, by decide, by decide, by decide⟩
theorem zX7_ways : ab_cl0 mX7_ways := ⟨ab_t2 (i := 224) (by decide +kernel) (by decide +kernel), jC8, by decide, by decide, by decide⟩
theorem zX8_at : ab_cl0 mX8_at := ⟨ab_t4 (i := 49) (by decide +kernel) (by decide +kernel), jC9, by decide, by decide, by decide⟩
theorem zX8_becomes : ab_cl0 mX8_becomes := ⟨ab_t4 (i := 172) (by decide +kernel) (by decide +kernel), jC9, by decide, by decide, by decide⟩
theorem zX8_begin : ab_cl0 mX8_begin := ⟨ab_t4 (i := 113) (by decide +kernel) (by decide +kernel), jC9, by decide, by decide, by decide⟩
theorem zX8_blank : ab_cl0 mX8_blank := ⟨ab_t4 (i := 34) (by decide +kernel) (by decide +kernel), jC9, by decide, by decide, by decide⟩
theorem zX8_blanks : ab_cl0 mX8_blanks := ⟨ab_t4 (i := 189) (by decide +kernel) (by decide +kernel), jC9, by decide, by decide, by decide⟩
theorem zX8_block : ab_cl0 mX8_block := ⟨ab_t3 (i := 177) (by decide +kernel) (by decide +kernel), jC9, by decide, by decide, by decide⟩
theorem zX8_change : ab_cl0 mX8_change := ⟨ab_t4 (i := 144) (by decide +kernel) (by decide +kernel), jC9, by decide, by decide, by decide⟩
theorem zX8_compare : ab_cl0 mX8_compare := ⟨ab_t4 (i := 89) (by decide +kernel) (by decide +kernel), jC9, by decide, by decide, by decide⟩
theorem zX8_compareForm : ab_cl0 mX8_compareForm := ⟨ab_t4 (i := 132) (by decide +kernel) (by decide +kernel), jC9, by decide, by decide, by decide⟩
theorem zX8_compareTriples : ab_cl0 mX8_compareTriples := ⟨ab_t4 (i := 128) (by decide +kernel) (by decide +kernel), jC9, by decide, by decide, by decide⟩
theorem zX8_describe : ab_cl0 mX8_describe := ⟨ab_t4 (i := 69) (by decide +kernel) (by decide +kernel), jC9, by decide, by decide, by decide⟩
theorem zX8_different : ab_cl0 mX8_different := ⟨ab_t4 (i := 86) (by decide +kernel) (by decide +kernel), jC9, by decide, by decide, by decide⟩
theorem zX8_digestOf : ab_cl0 mX8_digestOf := ⟨ab_t3 (i := 164) (by decide +kernel) (by decide +kernel), jC9, by decide, by decide, by decide⟩
theorem zX8_drop : ab_cl0 mX8_drop := ⟨ab_t4 (i := 53) (by decide +kernel) (by decide +kernel), jC9, by decide, by decide, by decide⟩
theorem zX8_equal : ab_cl0 mX8_equal := ⟨ab_t4 (i := 181) (by decide +kernel) (by decide +kernel), jC9, by decide, by decide, by decide⟩
theorem zX8_find : ab_cl0 mX8_find := ⟨ab_t4 (i := 46) (by decide +kernel) (by decide +kernel), jC9, by decide, by decide, by decide⟩
theorem zX8_first : ab_cl0 mX8_first := ⟨ab_t4 (i := 101) (by decide +kernel) (by decide +kernel), jC9, by decide, by decide, by decide⟩
theorem zX8_form : ab_cl0 mX8_form := ⟨ab_t4 (i := 152) (by decide +kernel) (by decide +kernel), jC9, by decide, by decide, by decide⟩
theorem zX8_hash : ab_cl0 mX8_hash := ⟨ab_t4 (i := 57) (by decide +kernel) (by decide +kernel), jC9, by decide, by decide, by decide⟩
theorem zX8_init : ab_cl0 mX8_init := ⟨ab_t3 (i := 95) (by decide +kernel) (by decide +kernel), jC9, by decide, by decide, by decide⟩
theorem zX8_isBefore : ab_cl0 mX8_isBefore := ⟨ab_t4 (i := 82) (by decide +kernel) (by decide +kernel), jC9, by decide, by decide, by decide⟩
theorem zX8_isKept : ab_cl0 mX8_isKept := ⟨ab_t4 (i := 168) (by decide +kernel) (by decide +kernel), jC9, by decide, by decide, by decide⟩
theorem zX8_isNaming : ab_cl0 mX8_isNaming := ⟨ab_t4 (i := 117) (by decide +kernel) (by decide +kernel), jC9, by decide, by decide, by decide⟩
theorem zX8_isPoint : ab_cl0 mX8_isPoint := ⟨ab_t4 (i := 42) (by decide +kernel) (by decide +kernel), jC9, by decide, by decide, by decide⟩
theorem zX8_isomorphic : ab_cl0 mX8_isomorphic := ⟨ab_t4 (i := 176) (by decide +kernel) (by decide +kernel), jC9, by decide, by decide, by decide⟩
theorem zX8_keep : ab_cl0 mX8_keep := ⟨ab_t4 (i := 160) (by decide +kernel) (by decide +kernel), jC9, by decide, by decide, by decide⟩
theorem zX8_makeGroups : ab_cl0 mX8_makeGroups := ⟨ab_t4 (i := 93) (by decide +kernel) (by decide +kernel), jC9, by decide, by decide, by decide⟩
theorem zX8_makeHashes : ab_cl0 mX8_makeHashes := ⟨ab_t4 (i := 61) (by decide +kernel) (by decide +kernel), jC9, by decide, by decide, by decide⟩
theorem zX8_makeRow : ab_cl0 mX8_makeRow := ⟨ab_t4 (i := 121) (by decide +kernel) (by decide +kernel), jC9, by decide, by decide, by decide⟩
theorem zX8_name : ab_cl0 mX8_name := ⟨ab_t4 (i := 105) (by decide +kernel) (by decide +kernel), jC9, by decide, by decide, by decide⟩
theorem zX8_named : ab_cl0 mX8_named := ⟨ab_t4 (i := 148) (by decide +kernel) (by decide +kernel), jC9, by decide, by decide, by decide⟩
theorem zX8_namings : ab_cl0 mX8_namings := ⟨ab_t4 (i := 109) (by decide +kernel) (by decide +kernel), jC9, by decide, by decide, by decide⟩
theorem zX8_next : ab_cl0 mX8_next := ⟨ab_t4 (i := 65) (by decide +kernel) (by decide +kernel), jC9, by decide, by decide, by decide⟩
theorem zX8_numbered : ab_cl0 mX8_numbered := ⟨ab_t4 (i := 125) (by decide +kernel) (by decide +kernel), jC9, by decide, by decide, by decide⟩
theorem zX8_octet : ab_cl0 mX8_octet := ⟨ab_t4 (i := 156) (by decide +kernel) (by decide +kernel), jC9, by decide, by decide, by decide⟩
theorem zX8_octetsOf : ab_cl0 mX8_octetsOf := ⟨ab_t3 (i := 186) (by decide +kernel) (by decide +kernel), jC9, by decide, by decide, by decide⟩
theorem zX8_rounds : ab_cl0 mX8_rounds := ⟨ab_t4 (i := 97) (by decide +kernel) (by decide +kernel), jC9, by decide, by decide, by decide⟩
theorem zX8_say : ab_cl0 mX8_say := ⟨ab_t4 (i := 78) (by decide +kernel) (by decide +kernel), jC9, by decide, by decide, by decide⟩
theorem zX8_sayNumber : ab_cl0 mX8_sayNumber := ⟨ab_t4 (i := 74) (by decide +kernel) (by decide +kernel), jC9, by decide, by decide, by decide⟩
theorem zX8_take : ab_cl0 mX8_take := ⟨ab_t4 (i := 136) (by decide +kernel) (by decide +kernel), jC9, by decide, by decide, by decide⟩
theorem zX8_thrown : ab_cl0 mX8_thrown := ⟨ab_t3 (i := 90) (by decide +kernel) (by decide +kernel), jC9, by decide, by decide, by decide⟩
theorem zX8_triple : ab_cl0 mX8_triple := ⟨ab_t4 (i := 38) (by decide +kernel) (by decide +kernel), jC9, by decide, by decide, by decide⟩
theorem zX8_triples : ab_cl0 mX8_triples := ⟨ab_t4 (i := 185) (by decide +kernel) (by decide +kernel), jC9, by decide, by decide, by decide⟩
theorem zX8_turn : ab_cl0 mX8_turn := ⟨ab_t4 (i := 140) (by decide +kernel) (by decide +kernel), jC9, by decide, by decide, by decide⟩
theorem zX8_turned : ab_cl0 mX8_turned := ⟨ab_t3 (i := 181) (by decide +kernel) (by decide +kernel), jC9, by decide, by decide, by decide⟩
theorem zX8_ways : ab_cl0 mX8_ways := ⟨ab_t4 (i := 164) (by decide +kernel) (by decide +kernel), jC9, by decide, by decide, by decide⟩
