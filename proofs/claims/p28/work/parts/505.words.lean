/-! what the start of the law gives: the classes by number, the words, the strings -/
set_option maxRecDepth 20000 in
theorem st_t0 : Cond.fieldLinkNest RX7 114 "CornerStones$Slot" "used" "Z" "CornerStones" ∈ lw_tbl := by decide +kernel
set_option maxRecDepth 20000 in
theorem st_t1 : Cond.fieldLinkNest RX7 118 "CornerStones$Game" "grid" "LCornerStones$Grid;" "CornerStones" ∈ lw_tbl := by decide +kernel
set_option maxRecDepth 20000 in
theorem st_t2 : Cond.fieldLinkNest RX7 124 "CornerStones$Game" "moves" "I" "CornerStones" ∈ lw_tbl := by decide +kernel
set_option maxRecDepth 20000 in
theorem st_t3 : Cond.fieldLinkNest RX7 130 "CornerStones$Game" "passes" "I" "CornerStones" ∈ lw_tbl := by decide +kernel
set_option maxRecDepth 20000 in
theorem st_t4 : Cond.fieldLinkNest RX7 133 "CornerStones$Game" "passesInRow" "I" "CornerStones" ∈ lw_tbl := by decide +kernel
set_option maxRecDepth 20000 in
theorem st_t5 : Cond.fieldLinkNest RX7 222 "CornerStones$Memory" "count" "I" "CornerStones" ∈ lw_tbl := by decide +kernel
set_option maxRecDepth 20000 in
theorem st_t6 : Cond.fieldLinkNest RX7 275 "CornerStones$Slot" "kept" "LCornerStones$Game;" "CornerStones" ∈ lw_tbl := by decide +kernel
set_option maxRecDepth 20000 in
theorem st_t7 : Cond.fieldLinkNest RX7 88 "CornerStones$Game" "setting" "I" "CornerStones" ∈ lw_tbl := by decide +kernel
set_option maxRecDepth 20000 in
theorem st_t8 : Cond.fieldLinkNest RX7 94 "CornerStones$GameText" "length" "I" "CornerStones" ∈ lw_tbl := by decide +kernel
set_option maxRecDepth 20000 in
theorem st_t9 : Cond.fieldLinkNest RX5 40 "CornerStones$Game" "grid" "LCornerStones$Grid;" "CornerStones" ∈ lw_tbl := by decide +kernel
set_option maxRecDepth 20000 in
theorem st_t10 : Cond.methodLinkNest RX7 237 yX3_firstStone "CornerStones" ∈ lw_tbl := by decide +kernel
set_option maxRecDepth 20000 in
theorem st_t11 : Cond.methodLinkNest RX7 243 yX3_holdsOwner "CornerStones" ∈ lw_tbl := by decide +kernel
set_option maxRecDepth 20000 in
theorem st_t12 : Cond.methodLinkNest RX5 30 yX7_isColour "CornerStones" ∈ lw_tbl := by decide +kernel
set_option maxRecDepth 20000 in
theorem st_t13 : Cond.methodLinkNest RX5 68 yX3_firstStone "CornerStones" ∈ lw_tbl := by decide +kernel
set_option maxRecDepth 20000 in
theorem st_t14 : Cond.stringRef RX7 142 "what is not 0 to 7" ∈ lw_tbl := by decide +kernel
set_option maxRecDepth 20000 in
theorem st_t15 : Cond.stringRef RX7 149 "no such colour" ∈ lw_tbl := by decide +kernel
set_option maxRecDepth 20000 in
theorem st_t16 : Cond.stringRef RX7 174 "what is not 0 to 5" ∈ lw_tbl := by decide +kernel
set_option maxRecDepth 20000 in
theorem st_t17 : Cond.stringRef RX7 179 "no such point" ∈ lw_tbl := by decide +kernel
set_option maxRecDepth 20000 in
theorem st_t18 : Cond.stringRef RX7 199 "what is neither 0 nor 1" ∈ lw_tbl := by decide +kernel
set_option maxRecDepth 20000 in
theorem st_t19 : Cond.stringRef RX7 204 "rows is not 3 to 7" ∈ lw_tbl := by decide +kernel
set_option maxRecDepth 20000 in
theorem st_t20 : Cond.stringRef RX7 213 "the stone may not be laid" ∈ lw_tbl := by decide +kernel
set_option maxRecDepth 20000 in
theorem st_t21 : Cond.stringRef RX7 218 "there are 120 moves" ∈ lw_tbl := by decide +kernel
set_option maxRecDepth 20000 in
theorem st_t22 : Cond.stringRef RX7 220 "v is neither 0 nor 1" ∈ lw_tbl := by decide +kernel
set_option maxRecDepth 20000 in
theorem st_t23 : Cond.stringRef RX7 225 "no state is remembered" ∈ lw_tbl := by decide +kernel
set_option maxRecDepth 20000 in
theorem st_t24 : Cond.stringRef RX7 231 "what is not 0 to 3" ∈ lw_tbl := by decide +kernel
set_option maxRecDepth 20000 in
theorem st_t25 : Cond.stringRef RX7 247 "n is not 1 to 4" ∈ lw_tbl := by decide +kernel
set_option maxRecDepth 20000 in
theorem st_t26 : Cond.stringRef RX7 252 "the script is negative or too long" ∈ lw_tbl := by decide +kernel
set_option maxRecDepth 20000 in
theorem st_t27 : Cond.stringRef RX7 267 "m is not 1 to 100" ∈ lw_tbl := by decide +kernel
set_option maxRecDepth 20000 in
theorem st_t28 : Cond.stringRef RX7 273 "no such save slot" ∈ lw_tbl := by decide +kernel
set_option maxRecDepth 20000 in
theorem st_t29 : Cond.stringRef RX7 278 "nothing has been saved in it" ∈ lw_tbl := by decide +kernel
set_option maxRecDepth 20000 in
theorem st_t30 : Cond.stringRef RX7 52 "no such character" ∈ lw_tbl := by decide +kernel
set_option maxRecDepth 20000 in
theorem st_t31 : Cond.stringRef RX7 63 "the text is full" ∈ lw_tbl := by decide +kernel
set_option maxRecDepth 20000 in
theorem st_t32 : Cond.stringRef RX7 77 "the text is not a game" ∈ lw_tbl := by decide +kernel
set_option maxRecDepth 20000 in
theorem st_t33 : Cond.declares (Bundle.initS "java/lang/RuntimeException") ∈ lw_tbl := by decide +kernel
set_option maxRecDepth 20000 in
theorem st_t34 : Cond.declares (Bundle.initS "java/lang/Exception") ∈ lw_tbl := by decide +kernel
set_option maxRecDepth 20000 in
theorem st_t35 : Cond.declares (Bundle.initS Bundle.tN) ∈ lw_tbl := by decide +kernel
set_option maxRecDepth 20000 in
theorem st_t36 : Cond.castable "java/lang/IllegalArgumentException" "java/lang/IllegalArgumentException" ∈ lw_tbl := by decide +kernel
set_option maxRecDepth 20000 in
theorem st_t37 : Cond.castable "java/lang/IllegalStateException" "java/lang/IllegalStateException" ∈ lw_tbl := by decide +kernel
set_option maxRecDepth 20000 in
theorem st_t38 : Cond.castable "java/lang/IndexOutOfBoundsException" "java/lang/IndexOutOfBoundsException" ∈ lw_tbl := by decide +kernel
set_option maxRecDepth 20000 in
theorem st_t39 : Cond.arrayOver (.object RX0) ∈ lw_tbl := by decide +kernel
set_option maxRecDepth 20000 in
theorem st_t40 : Cond.laysStatic Bundle.tN "UNASSIGNED_STACK" Bundle.steD ∈ lw_tbl := by decide +kernel
set_option maxRecDepth 20000 in
theorem st_t41 : Cond.laysStatic Bundle.tN "SUPPRESSED_SENTINEL" Bundle.listD ∈ lw_tbl := by decide +kernel
set_option maxRecDepth 20000 in
theorem st_t42 : Cond.initialized Bundle.tN ∈ lw_tbl := by decide +kernel
set_option maxRecDepth 20000 in
theorem st_t43 : Cond.arrayClass .long ∈ lw_tbl := by decide +kernel
set_option maxRecDepth 20000 in
theorem st_t44 : Cond.arrayClass .char ∈ lw_tbl := by decide +kernel
set_option maxRecDepth 20000 in
theorem st_t45 : Cond.instantiable RX0 11 ∈ lw_tbl := by decide +kernel
set_option maxRecDepth 20000 in
theorem st_t46 : Cond.instantiable RX1 2 ∈ lw_tbl := by decide +kernel
set_option maxRecDepth 20000 in
theorem st_t47 : Cond.instantiable RX2 5 ∈ lw_tbl := by decide +kernel
set_option maxRecDepth 20000 in
theorem st_t48 : Cond.instantiable RX4 3 ∈ lw_tbl := by decide +kernel
set_option maxRecDepth 20000 in
theorem st_t49 : Cond.instantiable RX6 2 ∈ lw_tbl := by decide +kernel
set_option maxRecDepth 20000 in
theorem st_t50 : Cond.instantiable RX7 6 ∈ lw_tbl := by decide +kernel
def st_flat : List Cond := flatC (Jvm.Cond.and given_1 narrow_1)
set_option maxRecDepth 20000 in
theorem st_n0 : Cond.exactly (Term.string RX7 142) "java/lang/String" ∈ st_flat := by decide +kernel
set_option maxRecDepth 20000 in
theorem st_n1 : Cond.exactly (Term.string RX7 149) "java/lang/String" ∈ st_flat := by decide +kernel
set_option maxRecDepth 20000 in
theorem st_n2 : Cond.exactly (Term.string RX7 174) "java/lang/String" ∈ st_flat := by decide +kernel
set_option maxRecDepth 20000 in
theorem st_n3 : Cond.exactly (Term.string RX7 179) "java/lang/String" ∈ st_flat := by decide +kernel
set_option maxRecDepth 20000 in
theorem st_n4 : Cond.exactly (Term.string RX7 199) "java/lang/String" ∈ st_flat := by decide +kernel
set_option maxRecDepth 20000 in
theorem st_n5 : Cond.exactly (Term.string RX7 204) "java/lang/String" ∈ st_flat := by decide +kernel
set_option maxRecDepth 20000 in
theorem st_n6 : Cond.exactly (Term.string RX7 213) "java/lang/String" ∈ st_flat := by decide +kernel
set_option maxRecDepth 20000 in
theorem st_n7 : Cond.exactly (Term.string RX7 218) "java/lang/String" ∈ st_flat := by decide +kernel
set_option maxRecDepth 20000 in
theorem st_n8 : Cond.exactly (Term.string RX7 220) "java/lang/String" ∈ st_flat := by decide +kernel
set_option maxRecDepth 20000 in
theorem st_n9 : Cond.exactly (Term.string RX7 225) "java/lang/String" ∈ st_flat := by decide +kernel
set_option maxRecDepth 20000 in
theorem st_n10 : Cond.exactly (Term.string RX7 231) "java/lang/String" ∈ st_flat := by decide +kernel
set_option maxRecDepth 20000 in
theorem st_n11 : Cond.exactly (Term.string RX7 247) "java/lang/String" ∈ st_flat := by decide +kernel
set_option maxRecDepth 20000 in
theorem st_n12 : Cond.exactly (Term.string RX7 252) "java/lang/String" ∈ st_flat := by decide +kernel
set_option maxRecDepth 20000 in
theorem st_n13 : Cond.exactly (Term.string RX7 267) "java/lang/String" ∈ st_flat := by decide +kernel
set_option maxRecDepth 20000 in
theorem st_n14 : Cond.exactly (Term.string RX7 273) "java/lang/String" ∈ st_flat := by decide +kernel
set_option maxRecDepth 20000 in
theorem st_n15 : Cond.exactly (Term.string RX7 278) "java/lang/String" ∈ st_flat := by decide +kernel
set_option maxRecDepth 20000 in
theorem st_n16 : Cond.exactly (Term.string RX7 52) "java/lang/String" ∈ st_flat := by decide +kernel
set_option maxRecDepth 20000 in
theorem st_n17 : Cond.exactly (Term.string RX7 63) "java/lang/String" ∈ st_flat := by decide +kernel
set_option maxRecDepth 20000 in
theorem st_n18 : Cond.exactly (Term.string RX7 77) "java/lang/String" ∈ st_flat := by decide +kernel
set_option maxRecDepth 20000 in
theorem st_n19 : Cond.not (.castable "java/lang/IllegalArgumentException" "java/lang/IllegalStateException") ∈ st_flat := by decide +kernel
set_option maxRecDepth 20000 in
theorem st_n20 : Cond.not (.castable "java/lang/IllegalArgumentException" "java/lang/IndexOutOfBoundsException") ∈ st_flat := by decide +kernel
set_option maxRecDepth 20000 in
theorem st_n21 : Cond.not (.castable "java/lang/IllegalStateException" "java/lang/IllegalArgumentException") ∈ st_flat := by decide +kernel
set_option maxRecDepth 20000 in
theorem st_n22 : Cond.not (.castable "java/lang/IllegalStateException" "java/lang/IndexOutOfBoundsException") ∈ st_flat := by decide +kernel
set_option maxRecDepth 20000 in
theorem st_n23 : Cond.not (.castable "java/lang/IndexOutOfBoundsException" "java/lang/IllegalArgumentException") ∈ st_flat := by decide +kernel
set_option maxRecDepth 20000 in
theorem st_n24 : Cond.not (.castable "java/lang/IndexOutOfBoundsException" "java/lang/IllegalStateException") ∈ st_flat := by decide +kernel
set_option maxRecDepth 20000 in
theorem st_n25 : Cond.isRef (.static Bundle.tN "UNASSIGNED_STACK" Bundle.steD) ∈ st_flat := by decide +kernel
set_option maxRecDepth 20000 in
theorem st_n26 : Cond.isRef (.static Bundle.tN "SUPPRESSED_SENTINEL" Bundle.listD) ∈ st_flat := by decide +kernel
