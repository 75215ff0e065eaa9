theorem kc_L_8 : Cond.classLink RL 8 RX9 ∈ WA := WA_of (i := 120) (by decide +kernel) (by decide +kernel)
theorem kl_L_186 : Cond.methodLink RL 186 yX9_init ∈ WA := WA_of (i := 122) (by decide +kernel) (by decide +kernel)
theorem kl_X9_1 : Cond.methodLink RX9 1 ⟨"java/lang/Object", "<init>", "()V"⟩ ∈ WA := WA_of (i := 125) (by decide +kernel) (by decide +kernel)
theorem kc_X9_7 : Cond.classLink RX9 7 RX0 ∈ WA := WA_of (i := 128) (by decide +kernel) (by decide +kernel)
theorem kln_X9_9 : Cond.methodLinkNest RX9 9 yX0_init "CaseManager" ∈ WN := WN_of (i := 130) (by decide +kernel) (by decide +kernel)
theorem kl_X0_3 : Cond.methodLink RX0 3 ⟨"java/lang/Object", "<init>", "()V"⟩ ∈ WA := WA_of (i := 133) (by decide +kernel) (by decide +kernel)
theorem kc_X0_24 : Cond.classLink RX0 24 RX6 ∈ WA := WA_of (i := 134) (by decide +kernel) (by decide +kernel)
theorem kl_X0_26 : Cond.methodLink RX0 26 yX6_init ∈ WA := WA_of (i := 136) (by decide +kernel) (by decide +kernel)
theorem kl_X6_1 : Cond.methodLink RX6 1 ⟨"java/lang/Object", "<init>", "()V"⟩ ∈ WA := WA_of (i := 139) (by decide +kernel) (by decide +kernel)
theorem kf_X6_7 : Cond.fieldLink RX6 7 "CaseManager$Row" "cells" "[I" ∈ WA := WA_of (i := 140) (by decide +kernel) (by decide +kernel)
theorem kc_X0_66 : Cond.classLink RX0 66 RX3 ∈ WA := WA_of (i := 145) (by decide +kernel) (by decide +kernel)
theorem kln_X0_68 : Cond.methodLinkNest RX0 68 yX3_init "CaseManager" ∈ WN := WN_of (i := 147) (by decide +kernel) (by decide +kernel)
theorem kl_X3_3 : Cond.methodLink RX3 3 ⟨"java/lang/Object", "<init>", "()V"⟩ ∈ WA := WA_of (i := 150) (by decide +kernel) (by decide +kernel)
theorem kc_X3_9 : Cond.classLink RX3 9 RX6 ∈ WA := WA_of (i := 151) (by decide +kernel) (by decide +kernel)
theorem kl_X3_11 : Cond.methodLink RX3 11 yX6_init ∈ WA := WA_of (i := 152) (by decide +kernel) (by decide +kernel)
theorem kf_X3_14 : Cond.fieldLink RX3 14 "CaseManager$Groups" "parents" "LCaseManager$Row;" ∈ WA := WA_of (i := 153) (by decide +kernel) (by decide +kernel)
theorem kfn_X0_77 : Cond.fieldLinkNest RX0 77 "CaseManager$Groups" "parents" "LCaseManager$Row;" "CaseManager" ∈ WN := WN_of (i := 154) (by decide +kernel) (by decide +kernel)
theorem kf_X0_9 : Cond.fieldLink RX0 9 "CaseManager$Court" "cases" "I" ∈ WA := WA_of (i := 158) (by decide +kernel) (by decide +kernel)
theorem kfn_X1_24 : Cond.fieldLinkNest RX1 24 "CaseManager$Court" "cases" "I" "CaseManager" ∈ WN := WN_of (i := 159) (by decide +kernel) (by decide +kernel)
theorem kfn_X7_41 : Cond.fieldLinkNest RX7 41 "CaseManager$Court" "cases" "I" "CaseManager" ∈ WN := WN_of (i := 160) (by decide +kernel) (by decide +kernel)
theorem kfn_X9_75 : Cond.fieldLinkNest RX9 75 "CaseManager$Court" "cases" "I" "CaseManager" ∈ WN := WN_of (i := 161) (by decide +kernel) (by decide +kernel)
theorem kf_X0_15 : Cond.fieldLink RX0 15 "CaseManager$Court" "witnesses" "I" ∈ WA := WA_of (i := 162) (by decide +kernel) (by decide +kernel)
theorem kfn_X9_160 : Cond.fieldLinkNest RX9 160 "CaseManager$Court" "witnesses" "I" "CaseManager" ∈ WN := WN_of (i := 163) (by decide +kernel) (by decide +kernel)
theorem kf_X0_18 : Cond.fieldLink RX0 18 "CaseManager$Court" "decisions" "I" ∈ WA := WA_of (i := 164) (by decide +kernel) (by decide +kernel)
theorem kfn_X9_261 : Cond.fieldLinkNest RX9 261 "CaseManager$Court" "decisions" "I" "CaseManager" ∈ WN := WN_of (i := 165) (by decide +kernel) (by decide +kernel)
theorem kf_X0_21 : Cond.fieldLink RX0 21 "CaseManager$Court" "questionsAsked" "I" ∈ WA := WA_of (i := 166) (by decide +kernel) (by decide +kernel)
theorem kfn_X9_264 : Cond.fieldLinkNest RX9 264 "CaseManager$Court" "questionsAsked" "I" "CaseManager" ∈ WN := WN_of (i := 167) (by decide +kernel) (by decide +kernel)
theorem kf_X0_29 : Cond.fieldLink RX0 29 "CaseManager$Court" "defendants" "LCaseManager$Row;" ∈ WA := WA_of (i := 168) (by decide +kernel) (by decide +kernel)
theorem kfn_X9_105 : Cond.fieldLinkNest RX9 105 "CaseManager$Court" "defendants" "LCaseManager$Row;" "CaseManager" ∈ WN := WN_of (i := 169) (by decide +kernel) (by decide +kernel)
theorem kf_X0_33 : Cond.fieldLink RX0 33 "CaseManager$Court" "offences" "LCaseManager$Row;" ∈ WA := WA_of (i := 170) (by decide +kernel) (by decide +kernel)
theorem kfn_X9_115 : Cond.fieldLinkNest RX9 115 "CaseManager$Court" "offences" "LCaseManager$Row;" "CaseManager" ∈ WN := WN_of (i := 171) (by decide +kernel) (by decide +kernel)
theorem kf_X0_36 : Cond.fieldLink RX0 36 "CaseManager$Court" "phases" "LCaseManager$Row;" ∈ WA := WA_of (i := 172) (by decide +kernel) (by decide +kernel)
theorem kf_X0_39 : Cond.fieldLink RX0 39 "CaseManager$Court" "guilts" "LCaseManager$Row;" ∈ WA := WA_of (i := 173) (by decide +kernel) (by decide +kernel)
theorem kf_X0_42 : Cond.fieldLink RX0 42 "CaseManager$Court" "appeals" "LCaseManager$Row;" ∈ WA := WA_of (i := 174) (by decide +kernel) (by decide +kernel)
theorem kfn_X9_130 : Cond.fieldLinkNest RX9 130 "CaseManager$Court" "appeals" "LCaseManager$Row;" "CaseManager" ∈ WN := WN_of (i := 175) (by decide +kernel) (by decide +kernel)
theorem kf_X0_45 : Cond.fieldLink RX0 45 "CaseManager$Court" "testimonies" "LCaseManager$Row;" ∈ WA := WA_of (i := 176) (by decide +kernel) (by decide +kernel)
theorem kfn_X8_9 : Cond.fieldLinkNest RX8 9 "CaseManager$Court" "testimonies" "LCaseManager$Row;" "CaseManager" ∈ WN := WN_of (i := 177) (by decide +kernel) (by decide +kernel)
theorem kfn_X7_53 : Cond.fieldLinkNest RX7 53 "CaseManager$Court" "testimonies" "LCaseManager$Row;" "CaseManager" ∈ WN := WN_of (i := 178) (by decide +kernel) (by decide +kernel)
theorem kfn_X1_48 : Cond.fieldLinkNest RX1 48 "CaseManager$Court" "testimonies" "LCaseManager$Row;" "CaseManager" ∈ WN := WN_of (i := 179) (by decide +kernel) (by decide +kernel)
theorem kfn_X9_133 : Cond.fieldLinkNest RX9 133 "CaseManager$Court" "testimonies" "LCaseManager$Row;" "CaseManager" ∈ WN := WN_of (i := 180) (by decide +kernel) (by decide +kernel)
theorem kf_X0_48 : Cond.fieldLink RX0 48 "CaseManager$Court" "hearingOrder" "LCaseManager$Row;" ∈ WA := WA_of (i := 181) (by decide +kernel) (by decide +kernel)
theorem kf_X0_51 : Cond.fieldLink RX0 51 "CaseManager$Court" "sides" "LCaseManager$Row;" ∈ WA := WA_of (i := 182) (by decide +kernel) (by decide +kernel)
theorem kf_X0_54 : Cond.fieldLink RX0 54 "CaseManager$Court" "strengths" "LCaseManager$Row;" ∈ WA := WA_of (i := 183) (by decide +kernel) (by decide +kernel)
theorem kf_X0_57 : Cond.fieldLink RX0 57 "CaseManager$Court" "questions" "LCaseManager$Row;" ∈ WA := WA_of (i := 184) (by decide +kernel) (by decide +kernel)
theorem kf_X0_60 : Cond.fieldLink RX0 60 "CaseManager$Court" "credibilities" "LCaseManager$Row;" ∈ WA := WA_of (i := 185) (by decide +kernel) (by decide +kernel)
theorem kfn_X8_40 : Cond.fieldLinkNest RX8 40 "CaseManager$Court" "credibilities" "LCaseManager$Row;" "CaseManager" ∈ WN := WN_of (i := 186) (by decide +kernel) (by decide +kernel)
theorem kfn_X9_163 : Cond.fieldLinkNest RX9 163 "CaseManager$Court" "credibilities" "LCaseManager$Row;" "CaseManager" ∈ WN := WN_of (i := 187) (by decide +kernel) (by decide +kernel)
theorem kf_X0_63 : Cond.fieldLink RX0 63 "CaseManager$Court" "sentences" "LCaseManager$Row;" ∈ WA := WA_of (i := 188) (by decide +kernel) (by decide +kernel)
theorem kfn_X9_235 : Cond.fieldLinkNest RX9 235 "CaseManager$Court" "sentences" "LCaseManager$Row;" "CaseManager" ∈ WN := WN_of (i := 189) (by decide +kernel) (by decide +kernel)
theorem kf_X0_69 : Cond.fieldLink RX0 69 "CaseManager$Court" "groups" "LCaseManager$Groups;" ∈ WA := WA_of (i := 190) (by decide +kernel) (by decide +kernel)
theorem kfn_X9_177 : Cond.fieldLinkNest RX9 177 "CaseManager$Court" "groups" "LCaseManager$Groups;" "CaseManager" ∈ WN := WN_of (i := 191) (by decide +kernel) (by decide +kernel)
theorem kc_X9_22 : Cond.classLink RX9 22 RX4 ∈ WA := WA_of (i := 227) (by decide +kernel) (by decide +kernel)
theorem kl_X9_24 : Cond.methodLink RX9 24 yX4_init ∈ WA := WA_of (i := 229) (by decide +kernel) (by decide +kernel)
theorem kl_X4_3 : Cond.methodLink RX4 3 ⟨"java/lang/Object", "<init>", "()V"⟩ ∈ WA := WA_of (i := 232) (by decide +kernel) (by decide +kernel)
theorem kc_X4_9 : Cond.classLink RX4 9 RX0 ∈ WA := WA_of (i := 233) (by decide +kernel) (by decide +kernel)
theorem kln_X4_24 : Cond.methodLinkNest RX4 24 yX0_init "CaseManager" ∈ WN := WN_of (i := 235) (by decide +kernel) (by decide +kernel)
theorem kf_X4_11 : Cond.fieldLink RX4 11 "CaseManager$History" "places" "[LCaseManager$Court;" ∈ WA := WA_of (i := 236) (by decide +kernel) (by decide +kernel)
theorem kf_X4_17 : Cond.fieldLink RX4 17 "CaseManager$History" "next" "I" ∈ WA := WA_of (i := 237) (by decide +kernel) (by decide +kernel)
theorem kf_X4_21 : Cond.fieldLink RX4 21 "CaseManager$History" "size" "I" ∈ WA := WA_of (i := 238) (by decide +kernel) (by decide +kernel)
theorem kfn_X9_348 : Cond.fieldLinkNest RX9 348 "CaseManager$History" "size" "I" "CaseManager" ∈ WN := WN_of (i := 239) (by decide +kernel) (by decide +kernel)
theorem kc_X9_29 : Cond.classLink RX9 29 RX1 ∈ WA := WA_of (i := 247) (by decide +kernel) (by decide +kernel)
theorem kln_X9_31 : Cond.methodLinkNest RX9 31 yX1_init "CaseManager" ∈ WN := WN_of (i := 249) (by decide +kernel) (by decide +kernel)
theorem kl_X1_3 : Cond.methodLink RX1 3 ⟨"java/lang/Object", "<init>", "()V"⟩ ∈ WA := WA_of (i := 252) (by decide +kernel) (by decide +kernel)
theorem kc_X1_9 : Cond.classLink RX1 9 RX6 ∈ WA := WA_of (i := 253) (by decide +kernel) (by decide +kernel)
theorem kl_X1_11 : Cond.methodLink RX1 11 yX6_init ∈ WA := WA_of (i := 254) (by decide +kernel) (by decide +kernel)
theorem kf_X1_14 : Cond.fieldLink RX1 14 "CaseManager$Docket" "order" "LCaseManager$Row;" ∈ WA := WA_of (i := 255) (by decide +kernel) (by decide +kernel)
theorem kfn_X9_249 : Cond.fieldLinkNest RX9 249 "CaseManager$Docket" "order" "LCaseManager$Row;" "CaseManager" ∈ WN := WN_of (i := 256) (by decide +kernel) (by decide +kernel)
theorem kf_X1_20 : Cond.fieldLink RX1 20 "CaseManager$Docket" "length" "I" ∈ WA := WA_of (i := 257) (by decide +kernel) (by decide +kernel)
theorem kfn_X9_244 : Cond.fieldLinkNest RX9 244 "CaseManager$Docket" "length" "I" "CaseManager" ∈ WN := WN_of (i := 258) (by decide +kernel) (by decide +kernel)
theorem kc_X9_36 : Cond.classLink RX9 36 RX7 ∈ WA := WA_of (i := 264) (by decide +kernel) (by decide +kernel)
theorem kln_X9_38 : Cond.methodLinkNest RX9 38 yX7_init "CaseManager" ∈ WN := WN_of (i := 266) (by decide +kernel) (by decide +kernel)
theorem kl_X7_3 : Cond.methodLink RX7 3 ⟨"java/lang/Object", "<init>", "()V"⟩ ∈ WA := WA_of (i := 269) (by decide +kernel) (by decide +kernel)
theorem kc_X7_9 : Cond.classLink RX7 9 RX6 ∈ WA := WA_of (i := 270) (by decide +kernel) (by decide +kernel)
theorem kl_X7_11 : Cond.methodLink RX7 11 yX6_init ∈ WA := WA_of (i := 271) (by decide +kernel) (by decide +kernel)
theorem kf_X7_14 : Cond.fieldLink RX7 14 "CaseManager$Search" "queue" "LCaseManager$Row;" ∈ WA := WA_of (i := 272) (by decide +kernel) (by decide +kernel)
theorem kf_X7_20 : Cond.fieldLink RX7 20 "CaseManager$Search" "reached" "LCaseManager$Row;" ∈ WA := WA_of (i := 273) (by decide +kernel) (by decide +kernel)
theorem kf_X7_23 : Cond.fieldLink RX7 23 "CaseManager$Search" "queued" "I" ∈ WA := WA_of (i := 274) (by decide +kernel) (by decide +kernel)
theorem kc_X9_43 : Cond.classLink RX9 43 RX5 ∈ WA := WA_of (i := 282) (by decide +kernel) (by decide +kernel)
theorem kln_X9_45 : Cond.methodLinkNest RX9 45 yX5_init "CaseManager" ∈ WN := WN_of (i := 284) (by decide +kernel) (by decide +kernel)
theorem kl_X5_3 : Cond.methodLink RX5 3 ⟨"java/lang/Object", "<init>", "()V"⟩ ∈ WA := WA_of (i := 287) (by decide +kernel) (by decide +kernel)
theorem kc_X5_9 : Cond.classLink RX5 9 RJ4 ∈ WA := WA_of (i := 288) (by decide +kernel) (by decide +kernel)
theorem kl_X5_11 : Cond.methodLink RX5 11 yJ4_init_da8c8 ∈ WA := WA_of (i := 290) (by decide +kernel) (by decide +kernel)
theorem kl_J4_1 : Cond.methodLink RJ4 1 yJ5_init_d00df ∈ WA := WA_of (i := 293) (by decide +kernel) (by decide +kernel)
theorem kl_J5_3 : Cond.methodLink RJ5 3 ⟨"java/lang/Object", "<init>", "()V"⟩ ∈ WA := WA_of (i := 296) (by decide +kernel) (by decide +kernel)
theorem kf_J5_18 : Cond.fieldLink RJ5 18 "java/lang/String" "COMPACT_STRINGS" "Z" ∈ WA := WA_of (i := 297) (by decide +kernel) (by decide +kernel)
theorem kl_J5_26 : Cond.methodLink RJ5 26 yJ2_newBytesFor_77867 ∈ WA := WA_of (i := 299) (by decide +kernel) (by decide +kernel)
theorem kl_J2_11 : Cond.methodLink RJ2 11 yJ2_newBytesLength_0f7a4 ∈ WA := WA_of (i := 302) (by decide +kernel) (by decide +kernel)
theorem kf_J5_15 : Cond.fieldLink RJ5 15 "java/lang/AbstractStringBuilder" "value" "[B" ∈ WA := WA_of (i := 306) (by decide +kernel) (by decide +kernel)
theorem kf_J5_22 : Cond.fieldLink RJ5 22 "java/lang/AbstractStringBuilder" "coder" "B" ∈ WA := WA_of (i := 307) (by decide +kernel) (by decide +kernel)
theorem kf_J5_73 : Cond.fieldLink RJ5 73 "java/lang/AbstractStringBuilder" "maybeLatin1" "Z" ∈ WA := WA_of (i := 308) (by decide +kernel) (by decide +kernel)
theorem kf_J0_1048 : Cond.fieldLink RJ0 1048 "java/lang/AbstractStringBuilder" "maybeLatin1" "Z" ∈ WA := WA_of (i := 309) (by decide +kernel) (by decide +kernel)
theorem kf_J5_79 : Cond.fieldLink RJ5 79 "java/lang/AbstractStringBuilder" "count" "I" ∈ WA := WA_of (i := 310) (by decide +kernel) (by decide +kernel)
theorem kc_X5_25 : Cond.classLink RX5 25 RX6 ∈ WA := WA_of (i := 321) (by decide +kernel) (by decide +kernel)
theorem kl_X5_27 : Cond.methodLink RX5 27 yX6_init ∈ WA := WA_of (i := 322) (by decide +kernel) (by decide +kernel)
theorem kf_X5_12 : Cond.fieldLink RX5 12 "CaseManager$Program" "input" "Ljava/lang/StringBuilder;" ∈ WA := WA_of (i := 323) (by decide +kernel) (by decide +kernel)
theorem kfn_X9_319 : Cond.fieldLinkNest RX9 319 "CaseManager$Program" "input" "Ljava/lang/StringBuilder;" "CaseManager" ∈ WN := WN_of (i := 324) (by decide +kernel) (by decide +kernel)
theorem kf_X5_18 : Cond.fieldLink RX5 18 "CaseManager$Program" "position" "I" ∈ WA := WA_of (i := 325) (by decide +kernel) (by decide +kernel)
theorem kfn_X9_327 : Cond.fieldLinkNest RX9 327 "CaseManager$Program" "position" "I" "CaseManager" ∈ WN := WN_of (i := 326) (by decide +kernel) (by decide +kernel)
theorem kf_X5_22 : Cond.fieldLink RX5 22 "CaseManager$Program" "size" "I" ∈ WA := WA_of (i := 327) (by decide +kernel) (by decide +kernel)
theorem kfn_X9_340 : Cond.fieldLinkNest RX9 340 "CaseManager$Program" "size" "I" "CaseManager" ∈ WN := WN_of (i := 328) (by decide +kernel) (by decide +kernel)
theorem kf_X5_30 : Cond.fieldLink RX5 30 "CaseManager$Program" "kinds" "LCaseManager$Row;" ∈ WA := WA_of (i := 329) (by decide +kernel) (by decide +kernel)
theorem kfn_X9_399 : Cond.fieldLinkNest RX9 399 "CaseManager$Program" "kinds" "LCaseManager$Row;" "CaseManager" ∈ WN := WN_of (i := 330) (by decide +kernel) (by decide +kernel)
theorem kf_X5_34 : Cond.fieldLink RX5 34 "CaseManager$Program" "firsts" "LCaseManager$Row;" ∈ WA := WA_of (i := 331) (by decide +kernel) (by decide +kernel)
theorem kfn_X9_402 : Cond.fieldLinkNest RX9 402 "CaseManager$Program" "firsts" "LCaseManager$Row;" "CaseManager" ∈ WN := WN_of (i := 332) (by decide +kernel) (by decide +kernel)
theorem kf_X5_37 : Cond.fieldLink RX5 37 "CaseManager$Program" "seconds" "LCaseManager$Row;" ∈ WA := WA_of (i := 333) (by decide +kernel) (by decide +kernel)
theorem kfn_X9_405 : Cond.fieldLinkNest RX9 405 "CaseManager$Program" "seconds" "LCaseManager$Row;" "CaseManager" ∈ WN := WN_of (i := 334) (by decide +kernel) (by decide +kernel)
theorem kf_X5_40 : Cond.fieldLink RX5 40 "CaseManager$Program" "flags" "LCaseManager$Row;" ∈ WA := WA_of (i := 335) (by decide +kernel) (by decide +kernel)
theorem kfn_X9_414 : Cond.fieldLinkNest RX9 414 "CaseManager$Program" "flags" "LCaseManager$Row;" "CaseManager" ∈ WN := WN_of (i := 336) (by decide +kernel) (by decide +kernel)
theorem kf_X5_43 : Cond.fieldLink RX5 43 "CaseManager$Program" "strengths" "LCaseManager$Row;" ∈ WA := WA_of (i := 337) (by decide +kernel) (by decide +kernel)
theorem kfn_X9_408 : Cond.fieldLinkNest RX9 408 "CaseManager$Program" "strengths" "LCaseManager$Row;" "CaseManager" ∈ WN := WN_of (i := 338) (by decide +kernel) (by decide +kernel)
theorem kc_X9_50 : Cond.classLink RX9 50 RJ4 ∈ WA := WA_of (i := 356) (by decide +kernel) (by decide +kernel)
theorem kl_X9_52 : Cond.methodLink RX9 52 yJ4_init_da8c8 ∈ WA := WA_of (i := 357) (by decide +kernel) (by decide +kernel)
theorem kf_X9_10 : Cond.fieldLink RX9 10 "CaseManager" "court" "LCaseManager$Court;" ∈ WA := WA_of (i := 358) (by decide +kernel) (by decide +kernel)
theorem kf_X9_16 : Cond.fieldLink RX9 16 "CaseManager" "beforeRun" "LCaseManager$Court;" ∈ WA := WA_of (i := 359) (by decide +kernel) (by decide +kernel)
theorem kf_X9_19 : Cond.fieldLink RX9 19 "CaseManager" "saved" "LCaseManager$Court;" ∈ WA := WA_of (i := 360) (by decide +kernel) (by decide +kernel)
theorem kf_X9_25 : Cond.fieldLink RX9 25 "CaseManager" "history" "LCaseManager$History;" ∈ WA := WA_of (i := 361) (by decide +kernel) (by decide +kernel)
theorem kf_X9_32 : Cond.fieldLink RX9 32 "CaseManager" "docket" "LCaseManager$Docket;" ∈ WA := WA_of (i := 362) (by decide +kernel) (by decide +kernel)
theorem kf_X9_39 : Cond.fieldLink RX9 39 "CaseManager" "search" "LCaseManager$Search;" ∈ WA := WA_of (i := 363) (by decide +kernel) (by decide +kernel)
theorem kf_X9_46 : Cond.fieldLink RX9 46 "CaseManager" "program" "LCaseManager$Program;" ∈ WA := WA_of (i := 364) (by decide +kernel) (by decide +kernel)
theorem kf_X9_53 : Cond.fieldLink RX9 53 "CaseManager" "line" "Ljava/lang/StringBuilder;" ∈ WA := WA_of (i := 365) (by decide +kernel) (by decide +kernel)
theorem kf_X9_57 : Cond.fieldLink RX9 57 "CaseManager" "hasSaved" "Z" ∈ WA := WA_of (i := 366) (by decide +kernel) (by decide +kernel)
theorem kf_X9_61 : Cond.fieldLink RX9 61 "CaseManager" "storedError" "I" ∈ WA := WA_of (i := 367) (by decide +kernel) (by decide +kernel)
theorem kf_X9_65 : Cond.fieldLink RX9 65 "CaseManager" "storedFailure" "I" ∈ WA := WA_of (i := 368) (by decide +kernel) (by decide +kernel)
theorem kf_X9_68 : Cond.fieldLink RX9 68 "CaseManager" "isStoredFailureOfState" "Z" ∈ WA := WA_of (i := 369) (by decide +kernel) (by decide +kernel)
theorem kl_L_220 : Cond.methodLink RL 220 yX9_caseCount ∈ WA := WA_of (i := 395) (by decide +kernel) (by decide +kernel)
theorem kl_L_266 : Cond.methodLink RL 266 yX9_witnessCount ∈ WA := WA_of (i := 399) (by decide +kernel) (by decide +kernel)
theorem kl_L_291 : Cond.methodLink RL 291 yX9_groupCount ∈ WA := WA_of (i := 403) (by decide +kernel) (by decide +kernel)
theorem kl_X9_196 : Cond.methodLink RX9 196 yX3_countAmong ∈ WA := WA_of (i := 407) (by decide +kernel) (by decide +kernel)
theorem kl_X3_32 : Cond.methodLink RX3 32 yX6_get ∈ WA := WA_of (i := 411) (by decide +kernel) (by decide +kernel)
theorem kl_L_323 : Cond.methodLink RL 323 yX9_mostSentenced ∈ WA := WA_of (i := 415) (by decide +kernel) (by decide +kernel)
theorem kl_X9_109 : Cond.methodLink RX9 109 yX6_get ∈ WA := WA_of (i := 419) (by decide +kernel) (by decide +kernel)
theorem kl_L_327 : Cond.methodLink RL 327 yX9_docketLength ∈ WA := WA_of (i := 420) (by decide +kernel) (by decide +kernel)
theorem kl_X9_241 : Cond.methodLink RX9 241 yX0_countIn ∈ WA := WA_of (i := 424) (by decide +kernel) (by decide +kernel)
theorem kl_X0_160 : Cond.methodLink RX0 160 yX0_isIn ∈ WA := WA_of (i := 428) (by decide +kernel) (by decide +kernel)
theorem kl_X0_157 : Cond.methodLink RX0 157 yX6_get ∈ WA := WA_of (i := 432) (by decide +kernel) (by decide +kernel)
theorem kl_L_337 : Cond.methodLink RL 337 yX9_closedCount ∈ WA := WA_of (i := 433) (by decide +kernel) (by decide +kernel)
theorem kl_L_341 : Cond.methodLink RL 341 yX9_guiltyCount ∈ WA := WA_of (i := 437) (by decide +kernel) (by decide +kernel)
theorem kl_X9_257 : Cond.methodLink RX9 257 yX0_countGuilty ∈ WA := WA_of (i := 441) (by decide +kernel) (by decide +kernel)
theorem kl_X0_209 : Cond.methodLink RX0 209 yX0_isFoundGuilty ∈ WA := WA_of (i := 445) (by decide +kernel) (by decide +kernel)
theorem kl_L_345 : Cond.methodLink RL 345 yX9_decisionCount ∈ WA := WA_of (i := 449) (by decide +kernel) (by decide +kernel)
theorem kl_L_349 : Cond.methodLink RL 349 yX9_questionTotal ∈ WA := WA_of (i := 453) (by decide +kernel) (by decide +kernel)
theorem kl_L_360 : Cond.methodLink RL 360 yX9_isConsistent ∈ WA := WA_of (i := 457) (by decide +kernel) (by decide +kernel)
theorem kl_X9_277 : Cond.methodLink RX9 277 yX9_doMarginsAgree ∈ WA := WA_of (i := 461) (by decide +kernel) (by decide +kernel)
theorem kl_X9_221 : Cond.methodLink RX9 221 yX8_marginByTestimony ∈ WA := WA_of (i := 465) (by decide +kernel) (by decide +kernel)
theorem kl_X8_31 : Cond.methodLink RX8 31 yX0_severityIn ∈ WA := WA_of (i := 468) (by decide +kernel) (by decide +kernel)
theorem kl_X8_15 : Cond.methodLink RX8 15 yX6_get ∈ WA := WA_of (i := 472) (by decide +kernel) (by decide +kernel)
theorem kl_X8_21 : Cond.methodLink RX8 21 yX0_witnessHeardAt ∈ WA := WA_of (i := 473) (by decide +kernel) (by decide +kernel)
theorem kl_X8_25 : Cond.methodLink RX8 25 yX0_sideOf ∈ WA := WA_of (i := 477) (by decide +kernel) (by decide +kernel)
theorem kl_X0_180 : Cond.methodLink RX0 180 yX0_cellOf ∈ WA := WA_of (i := 481) (by decide +kernel) (by decide +kernel)
theorem kl_X8_28 : Cond.methodLink RX8 28 yX0_weightOf ∈ WA := WA_of (i := 484) (by decide +kernel) (by decide +kernel)
theorem kl_X9_224 : Cond.methodLink RX9 224 yX8_marginByLevel ∈ WA := WA_of (i := 488) (by decide +kernel) (by decide +kernel)
theorem kl_X8_34 : Cond.methodLink RX8 34 yX8_signedStrengthsAt ∈ WA := WA_of (i := 491) (by decide +kernel) (by decide +kernel)
theorem kl_X8_43 : Cond.methodLink RX8 43 yX0_strengthOf ∈ WA := WA_of (i := 494) (by decide +kernel) (by decide +kernel)
theorem kl_X9_281 : Cond.methodLink RX9 281 yX9_doSentencesAgree ∈ WA := WA_of (i := 498) (by decide +kernel) (by decide +kernel)
theorem kl_X9_238 : Cond.methodLink RX9 238 yX0_addedSentence ∈ WA := WA_of (i := 502) (by decide +kernel) (by decide +kernel)
theorem kl_X0_206 : Cond.methodLink RX0 206 yX0_severityIn ∈ WA := WA_of (i := 506) (by decide +kernel) (by decide +kernel)
theorem kl_X9_284 : Cond.methodLink RX9 284 yX9_doConnectionsAgree ∈ WA := WA_of (i := 507) (by decide +kernel) (by decide +kernel)
theorem kl_X9_186 : Cond.methodLink RX9 186 yX7_startAt ∈ WA := WA_of (i := 511) (by decide +kernel) (by decide +kernel)
theorem kl_X7_27 : Cond.methodLink RX7 27 yX6_clear ∈ WA := WA_of (i := 515) (by decide +kernel) (by decide +kernel)
theorem kl_X7_30 : Cond.methodLink RX7 30 yX7_reach ∈ WA := WA_of (i := 519) (by decide +kernel) (by decide +kernel)
theorem kl_X7_33 : Cond.methodLink RX7 33 yX6_get ∈ WA := WA_of (i := 523) (by decide +kernel) (by decide +kernel)
theorem kl_X7_60 : Cond.methodLink RX7 60 yX6_put ∈ WA := WA_of (i := 524) (by decide +kernel) (by decide +kernel)
theorem kl_X7_37 : Cond.methodLink RX7 37 yX7_spreadFrom ∈ WA := WA_of (i := 528) (by decide +kernel) (by decide +kernel)
theorem kl_X7_46 : Cond.methodLink RX7 46 yX0_hasHeard ∈ WA := WA_of (i := 532) (by decide +kernel) (by decide +kernel)
theorem kl_X7_50 : Cond.methodLink RX7 50 yX7_reachAllOf ∈ WA := WA_of (i := 536) (by decide +kernel) (by decide +kernel)
theorem kl_X7_56 : Cond.methodLink RX7 56 yX0_witnessHeardAt ∈ WA := WA_of (i := 540) (by decide +kernel) (by decide +kernel)
theorem kl_X9_181 : Cond.methodLink RX9 181 yX3_areUnited ∈ WA := WA_of (i := 541) (by decide +kernel) (by decide +kernel)
theorem kl_X3_24 : Cond.methodLink RX3 24 yX3_rootOf ∈ WA := WA_of (i := 545) (by decide +kernel) (by decide +kernel)
theorem kl_X9_190 : Cond.methodLink RX9 190 yX7_hasReached ∈ WA := WA_of (i := 549) (by decide +kernel) (by decide +kernel)
theorem kl_X9_287 : Cond.methodLink RX9 287 yX9_doesDocketAgree ∈ WA := WA_of (i := 553) (by decide +kernel) (by decide +kernel)
theorem kl_X9_207 : Cond.methodLink RX9 207 yX1_fill ∈ WA := WA_of (i := 557) (by decide +kernel) (by decide +kernel)
theorem kl_X1_29 : Cond.methodLink RX1 29 yX0_isIn ∈ WA := WA_of (i := 561) (by decide +kernel) (by decide +kernel)
theorem kl_X1_33 : Cond.methodLink RX1 33 yX1_insert ∈ WA := WA_of (i := 562) (by decide +kernel) (by decide +kernel)
theorem kl_X1_37 : Cond.methodLink RX1 37 yX6_get ∈ WA := WA_of (i := 566) (by decide +kernel) (by decide +kernel)
theorem kl_X1_41 : Cond.methodLink RX1 41 yX0_comesBefore ∈ WA := WA_of (i := 567) (by decide +kernel) (by decide +kernel)
theorem kl_X1_44 : Cond.methodLink RX1 44 yX6_put ∈ WA := WA_of (i := 571) (by decide +kernel) (by decide +kernel)
theorem kl_X9_118 : Cond.methodLink RX9 118 yX0_isIn ∈ WA := WA_of (i := 572) (by decide +kernel) (by decide +kernel)
theorem kl_X9_254 : Cond.methodLink RX9 254 yX0_openCasesBefore ∈ WA := WA_of (i := 573) (by decide +kernel) (by decide +kernel)
theorem kl_X0_227 : Cond.methodLink RX0 227 yX0_comesBefore ∈ WA := WA_of (i := 577) (by decide +kernel) (by decide +kernel)
theorem kl_X9_431 : Cond.methodLink RX9 431 yX1_holdsAt ∈ WA := WA_of (i := 578) (by decide +kernel) (by decide +kernel)
theorem kl_L_389 : Cond.methodLink RL 389 yX9_undoableCount ∈ WA := WA_of (i := 582) (by decide +kernel) (by decide +kernel)
theorem kl_L_396 : Cond.methodLink RL 396 yX9_save ∈ WA := WA_of (i := 586) (by decide +kernel) (by decide +kernel)
theorem kl_X9_354 : Cond.methodLink RX9 354 yX0_copyFrom ∈ WA := WA_of (i := 590) (by decide +kernel) (by decide +kernel)
theorem kl_X0_73 : Cond.methodLink RX0 73 yX6_copyFrom ∈ WA := WA_of (i := 594) (by decide +kernel) (by decide +kernel)
theorem kl_X6_21 : Cond.methodLink RX6 21 yJ9_min_7cf53 ∈ WA := WA_of (i := 598) (by decide +kernel) (by decide +kernel)
theorem kl_X6_27 : Cond.methodLink RX6 27 ⟨"java/lang/System", "arraycopy", "(Ljava/lang/Object;ILjava/lang/Object;II)V"⟩ ∈ WA := WA_of (i := 601) (by decide +kernel) (by decide +kernel)
theorem kl_L_190 : Cond.methodLink RL 190 yL_charge ∈ WA := WA_of (i := 604) (by decide +kernel) (by decide +kernel)
theorem kc_L_13 : Cond.classLink RL 13 "java/lang/IllegalArgumentException" ∈ WA := WA_of (i := 607) (by decide +kernel) (by decide +kernel)
theorem kc_L_15 : Cond.classLink RL 15 "java/lang/IllegalStateException" ∈ WA := WA_of (i := 608) (by decide +kernel) (by decide +kernel)
theorem kl_L_7 : Cond.methodLink RL 7 yX9_charge ∈ WA := WA_of (i := 609) (by decide +kernel) (by decide +kernel)
theorem kl_X9_71 : Cond.methodLink RX9 71 yX9_change ∈ WA := WA_of (i := 613) (by decide +kernel) (by decide +kernel)
theorem kl_X9_362 : Cond.methodLink RX9 362 yX0_faultOf ∈ WA := WA_of (i := 617) (by decide +kernel) (by decide +kernel)
theorem kl_X0_80 : Cond.methodLink RX0 80 yX0_faultOfCharge ∈ WA := WA_of (i := 621) (by decide +kernel) (by decide +kernel)
theorem kln_X0_126 : Cond.methodLinkNest RX0 126 yX9_isDefendant "CaseManager" ∈ WN := WN_of (i := 625) (by decide +kernel) (by decide +kernel)
theorem kln_X0_130 : Cond.methodLinkNest RX0 130 yX9_isOffence "CaseManager" ∈ WN := WN_of (i := 628) (by decide +kernel) (by decide +kernel)
theorem kf_X0_133 : Cond.fieldLink RX0 133 "CaseManager$Fault" "ARGUMENT" "LCaseManager$Fault;" ∈ WA := WA_of (i := 631) (by decide +kernel) (by decide +kernel)
theorem kl_X0_139 : Cond.methodLink RX0 139 yX0_caseAgainst ∈ WA := WA_of (i := 633) (by decide +kernel) (by decide +kernel)
theorem kf_X0_142 : Cond.fieldLink RX0 142 "CaseManager$Fault" "STATE" "LCaseManager$Fault;" ∈ WA := WA_of (i := 637) (by decide +kernel) (by decide +kernel)
theorem kf_X0_145 : Cond.fieldLink RX0 145 "CaseManager$Fault" "NONE" "LCaseManager$Fault;" ∈ WA := WA_of (i := 639) (by decide +kernel) (by decide +kernel)
theorem kl_X0_84 : Cond.methodLink RX0 84 yX0_faultOfWitness ∈ WA := WA_of (i := 641) (by decide +kernel) (by decide +kernel)
theorem kl_X0_88 : Cond.methodLink RX0 88 yX0_faultOfTestimony ∈ WA := WA_of (i := 645) (by decide +kernel) (by decide +kernel)
theorem kl_X0_148 : Cond.methodLink RX0 148 yX0_hasCase ∈ WA := WA_of (i := 649) (by decide +kernel) (by decide +kernel)
theorem kl_X0_151 : Cond.methodLink RX0 151 yX0_hasWitness ∈ WA := WA_of (i := 653) (by decide +kernel) (by decide +kernel)
theorem kf_X0_154 : Cond.fieldLink RX0 154 "CaseManager$Fault" "INDEX" "LCaseManager$Fault;" ∈ WA := WA_of (i := 657) (by decide +kernel) (by decide +kernel)
theorem kl_X0_164 : Cond.methodLink RX0 164 yX0_hasHeard ∈ WA := WA_of (i := 659) (by decide +kernel) (by decide +kernel)
theorem kl_X0_92 : Cond.methodLink RX0 92 yX0_faultOfQuestion ∈ WA := WA_of (i := 660) (by decide +kernel) (by decide +kernel)
theorem kf_X0_167 : Cond.fieldLink RX0 167 "CaseManager$Fault" "ELEMENT" "LCaseManager$Fault;" ∈ WA := WA_of (i := 664) (by decide +kernel) (by decide +kernel)
theorem kl_X0_170 : Cond.methodLink RX0 170 yX0_questionsTo ∈ WA := WA_of (i := 666) (by decide +kernel) (by decide +kernel)
theorem kl_X0_95 : Cond.methodLink RX0 95 yX0_faultOfDecision ∈ WA := WA_of (i := 670) (by decide +kernel) (by decide +kernel)
theorem kl_X0_98 : Cond.methodLink RX0 98 yX0_faultAfterVerdict ∈ WA := WA_of (i := 674) (by decide +kernel) (by decide +kernel)
theorem kl_X9_366 : Cond.methodLink RX9 366 yX9_refuse ∈ WA := WA_of (i := 678) (by decide +kernel) (by decide +kernel)
theorem kf_X9_376 : Cond.fieldLink RX9 376 "CaseManager$Fault" "INDEX" "LCaseManager$Fault;" ∈ WA := WA_of (i := 681) (by decide +kernel) (by decide +kernel)
theorem kc_X9_308 : Cond.classLink RX9 308 "java/lang/IndexOutOfBoundsException" ∈ WA := WA_of (i := 682) (by decide +kernel) (by decide +kernel)
theorem kl_X9_312 : Cond.methodLink RX9 312 ⟨"java/lang/IndexOutOfBoundsException", "<init>", "(Ljava/lang/String;)V"⟩ ∈ WA := WA_of (i := 729) (by decide +kernel) (by decide +kernel)
theorem kf_X9_384 : Cond.fieldLink RX9 384 "CaseManager$Fault" "ARGUMENT" "LCaseManager$Fault;" ∈ WA := WA_of (i := 754) (by decide +kernel) (by decide +kernel)
theorem kc_X9_85 : Cond.classLink RX9 85 "java/lang/IllegalArgumentException" ∈ WA := WA_of (i := 755) (by decide +kernel) (by decide +kernel)
theorem kl_X9_89 : Cond.methodLink RX9 89 ⟨"java/lang/IllegalArgumentException", "<init>", "(Ljava/lang/String;)V"⟩ ∈ WA := WA_of (i := 765) (by decide +kernel) (by decide +kernel)
theorem kf_X9_389 : Cond.fieldLink RX9 389 "CaseManager$Fault" "ELEMENT" "LCaseManager$Fault;" ∈ WA := WA_of (i := 771) (by decide +kernel) (by decide +kernel)
theorem kc_X9_96 : Cond.classLink RX9 96 "java/util/NoSuchElementException" ∈ WA := WA_of (i := 772) (by decide +kernel) (by decide +kernel)
theorem kl_X9_100 : Cond.methodLink RX9 100 ⟨"java/util/NoSuchElementException", "<init>", "(Ljava/lang/String;)V"⟩ ∈ WA := WA_of (i := 782) (by decide +kernel) (by decide +kernel)
theorem kf_X9_394 : Cond.fieldLink RX9 394 "CaseManager$Fault" "STATE" "LCaseManager$Fault;" ∈ WA := WA_of (i := 788) (by decide +kernel) (by decide +kernel)
theorem kc_X9_122 : Cond.classLink RX9 122 "java/lang/IllegalStateException" ∈ WA := WA_of (i := 789) (by decide +kernel) (by decide +kernel)
theorem kl_X9_126 : Cond.methodLink RX9 126 ⟨"java/lang/IllegalStateException", "<init>", "(Ljava/lang/String;)V"⟩ ∈ WA := WA_of (i := 799) (by decide +kernel) (by decide +kernel)
theorem kl_X9_370 : Cond.methodLink RX9 370 yX4_keep ∈ WA := WA_of (i := 805) (by decide +kernel) (by decide +kernel)
theorem kl_X4_25 : Cond.methodLink RX4 25 yX4_placeAt ∈ WA := WA_of (i := 809) (by decide +kernel) (by decide +kernel)
theorem kl_X4_29 : Cond.methodLink RX4 29 yX0_copyFrom ∈ WA := WA_of (i := 813) (by decide +kernel) (by decide +kernel)
theorem kl_X4_33 : Cond.methodLink RX4 33 yJ9_min_7cf53 ∈ WA := WA_of (i := 814) (by decide +kernel) (by decide +kernel)
theorem kl_X9_373 : Cond.methodLink RX9 373 yX0_perform ∈ WA := WA_of (i := 815) (by decide +kernel) (by decide +kernel)
theorem kl_X0_101 : Cond.methodLink RX0 101 yX0_openCase ∈ WA := WA_of (i := 819) (by decide +kernel) (by decide +kernel)
theorem kl_X0_173 : Cond.methodLink RX0 173 yX6_put ∈ WA := WA_of (i := 823) (by decide +kernel) (by decide +kernel)
theorem kl_X0_105 : Cond.methodLink RX0 105 yX0_register ∈ WA := WA_of (i := 824) (by decide +kernel) (by decide +kernel)
theorem kl_X0_177 : Cond.methodLink RX0 177 yX3_found ∈ WA := WA_of (i := 828) (by decide +kernel) (by decide +kernel)
theorem kl_X3_20 : Cond.methodLink RX3 20 yX6_put ∈ WA := WA_of (i := 832) (by decide +kernel) (by decide +kernel)
theorem kl_X0_109 : Cond.methodLink RX0 109 yX0_hear ∈ WA := WA_of (i := 833) (by decide +kernel) (by decide +kernel)
theorem kl_X0_183 : Cond.methodLink RX0 183 yX0_witnessHeardAt ∈ WA := WA_of (i := 837) (by decide +kernel) (by decide +kernel)
theorem kl_X0_186 : Cond.methodLink RX0 186 yX3_unite ∈ WA := WA_of (i := 838) (by decide +kernel) (by decide +kernel)
theorem kl_X0_113 : Cond.methodLink RX0 113 yX0_ask ∈ WA := WA_of (i := 842) (by decide +kernel) (by decide +kernel)
theorem kl_X0_189 : Cond.methodLink RX0 189 yJ9_min_7cf53 ∈ WA := WA_of (i := 846) (by decide +kernel) (by decide +kernel)
theorem kl_X0_194 : Cond.methodLink RX0 194 yJ9_max_7cf53 ∈ WA := WA_of (i := 847) (by decide +kernel) (by decide +kernel)
theorem kl_X0_197 : Cond.methodLink RX0 197 yX6_add ∈ WA := WA_of (i := 850) (by decide +kernel) (by decide +kernel)
theorem kl_X6_13 : Cond.methodLink RX6 13 yX6_get ∈ WA := WA_of (i := 854) (by decide +kernel) (by decide +kernel)
theorem kl_X6_17 : Cond.methodLink RX6 17 yX6_put ∈ WA := WA_of (i := 855) (by decide +kernel) (by decide +kernel)
theorem kl_X0_117 : Cond.methodLink RX0 117 yX0_judge ∈ WA := WA_of (i := 856) (by decide +kernel) (by decide +kernel)
theorem kl_X0_200 : Cond.methodLink RX0 200 yX8_marginByTestimony ∈ WA := WA_of (i := 860) (by decide +kernel) (by decide +kernel)
theorem kl_X0_120 : Cond.methodLink RX0 120 yX0_reopen ∈ WA := WA_of (i := 861) (by decide +kernel) (by decide +kernel)
theorem kl_X0_123 : Cond.methodLink RX0 123 yX0_finish ∈ WA := WA_of (i := 865) (by decide +kernel) (by decide +kernel)
theorem kl_X0_212 : Cond.methodLink RX0 212 yX0_countIn ∈ WA := WA_of (i := 869) (by decide +kernel) (by decide +kernel)
theorem kl_L_199 : Cond.methodLink RL 199 yL_addWitness ∈ WA := WA_of (i := 870) (by decide +kernel) (by decide +kernel)
theorem kl_L_17 : Cond.methodLink RL 17 yX9_addWitness ∈ WA := WA_of (i := 873) (by decide +kernel) (by decide +kernel)
theorem kl_L_203 : Cond.methodLink RL 203 yL_testify ∈ WA := WA_of (i := 877) (by decide +kernel) (by decide +kernel)
theorem kc_L_25 : Cond.classLink RL 25 "java/lang/IndexOutOfBoundsException" ∈ WA := WA_of (i := 880) (by decide +kernel) (by decide +kernel)
theorem kl_Jx00060_7 : Cond.methodLink RJx00060 7 ⟨"java/lang/IndexOutOfBoundsException", "<init>", "(Ljava/lang/String;)V"⟩ ∈ WA := WA_of (i := 884) (by decide +kernel) (by decide +kernel)
theorem kl_L_21 : Cond.methodLink RL 21 yX9_testify ∈ WA := WA_of (i := 901) (by decide +kernel) (by decide +kernel)
theorem kl_L_207 : Cond.methodLink RL 207 yL_question ∈ WA := WA_of (i := 905) (by decide +kernel) (by decide +kernel)
theorem kc_L_31 : Cond.classLink RL 31 "java/util/NoSuchElementException" ∈ WA := WA_of (i := 908) (by decide +kernel) (by decide +kernel)
theorem kl_L_27 : Cond.methodLink RL 27 yX9_question ∈ WA := WA_of (i := 909) (by decide +kernel) (by decide +kernel)
theorem kl_L_211 : Cond.methodLink RL 211 yL_decide ∈ WA := WA_of (i := 913) (by decide +kernel) (by decide +kernel)
theorem kl_L_33 : Cond.methodLink RL 33 yX9_decide ∈ WA := WA_of (i := 916) (by decide +kernel) (by decide +kernel)
theorem kl_L_214 : Cond.methodLink RL 214 yL_appeal ∈ WA := WA_of (i := 920) (by decide +kernel) (by decide +kernel)
theorem kl_L_37 : Cond.methodLink RL 37 yX9_appeal ∈ WA := WA_of (i := 923) (by decide +kernel) (by decide +kernel)
theorem kl_L_217 : Cond.methodLink RL 217 yL_close ∈ WA := WA_of (i := 927) (by decide +kernel) (by decide +kernel)
theorem kl_L_40 : Cond.methodLink RL 40 yX9_close ∈ WA := WA_of (i := 930) (by decide +kernel) (by decide +kernel)
theorem kl_L_224 : Cond.methodLink RL 224 yL_caseOf ∈ WA := WA_of (i := 934) (by decide +kernel) (by decide +kernel)
theorem kl_L_43 : Cond.methodLink RL 43 yX9_caseOf ∈ WA := WA_of (i := 937) (by decide +kernel) (by decide +kernel)
theorem kl_X9_78 : Cond.methodLink RX9 78 yX9_isDefendant ∈ WA := WA_of (i := 941) (by decide +kernel) (by decide +kernel)
theorem kl_X9_82 : Cond.methodLink RX9 82 yX9_isOffence ∈ WA := WA_of (i := 942) (by decide +kernel) (by decide +kernel)
theorem kl_X9_92 : Cond.methodLink RX9 92 yX0_caseAgainst ∈ WA := WA_of (i := 944) (by decide +kernel) (by decide +kernel)
theorem kl_L_227 : Cond.methodLink RL 227 yL_defendantOf ∈ WA := WA_of (i := 946) (by decide +kernel) (by decide +kernel)
theorem kl_L_46 : Cond.methodLink RL 46 yX9_defendantOf ∈ WA := WA_of (i := 949) (by decide +kernel) (by decide +kernel)
theorem kl_X9_101 : Cond.methodLink RX9 101 yX9_needCase ∈ WA := WA_of (i := 953) (by decide +kernel) (by decide +kernel)
theorem kl_X9_417 : Cond.methodLink RX9 417 yX0_hasCase ∈ WA := WA_of (i := 957) (by decide +kernel) (by decide +kernel)
theorem kl_L_230 : Cond.methodLink RL 230 yL_offenceOf ∈ WA := WA_of (i := 959) (by decide +kernel) (by decide +kernel)
theorem kl_L_49 : Cond.methodLink RL 49 yX9_offenceOf ∈ WA := WA_of (i := 962) (by decide +kernel) (by decide +kernel)
theorem kl_L_233 : Cond.methodLink RL 233 yL_isOpen ∈ WA := WA_of (i := 966) (by decide +kernel) (by decide +kernel)
theorem kl_L_52 : Cond.methodLink RL 52 yX9_isOpen ∈ WA := WA_of (i := 969) (by decide +kernel) (by decide +kernel)
theorem kl_L_236 : Cond.methodLink RL 236 yL_isDecided ∈ WA := WA_of (i := 973) (by decide +kernel) (by decide +kernel)
theorem kl_L_55 : Cond.methodLink RL 55 yX9_isDecided ∈ WA := WA_of (i := 976) (by decide +kernel) (by decide +kernel)
theorem kl_L_239 : Cond.methodLink RL 239 yL_isClosed ∈ WA := WA_of (i := 980) (by decide +kernel) (by decide +kernel)
theorem kl_L_58 : Cond.methodLink RL 58 yX9_isClosed ∈ WA := WA_of (i := 983) (by decide +kernel) (by decide +kernel)
theorem kl_L_242 : Cond.methodLink RL 242 yL_isGuilty ∈ WA := WA_of (i := 987) (by decide +kernel) (by decide +kernel)
theorem kl_L_61 : Cond.methodLink RL 61 yX9_isGuilty ∈ WA := WA_of (i := 990) (by decide +kernel) (by decide +kernel)
theorem kl_X9_127 : Cond.methodLink RX9 127 yX0_isFoundGuilty ∈ WA := WA_of (i := 995) (by decide +kernel) (by decide +kernel)
theorem kl_L_245 : Cond.methodLink RL 245 yL_appealCount ∈ WA := WA_of (i := 996) (by decide +kernel) (by decide +kernel)
theorem kl_L_64 : Cond.methodLink RL 64 yX9_appealCount ∈ WA := WA_of (i := 999) (by decide +kernel) (by decide +kernel)
theorem kl_L_248 : Cond.methodLink RL 248 yL_testimonyCount ∈ WA := WA_of (i := 1003) (by decide +kernel) (by decide +kernel)
theorem kl_L_67 : Cond.methodLink RL 67 yX9_testimonyCount ∈ WA := WA_of (i := 1006) (by decide +kernel) (by decide +kernel)
theorem kl_L_251 : Cond.methodLink RL 251 yL_witnessAt ∈ WA := WA_of (i := 1010) (by decide +kernel) (by decide +kernel)
theorem kl_L_70 : Cond.methodLink RL 70 yX9_witnessAt ∈ WA := WA_of (i := 1013) (by decide +kernel) (by decide +kernel)
theorem kl_X9_138 : Cond.methodLink RX9 138 yX0_witnessHeardAt ∈ WA := WA_of (i := 1018) (by decide +kernel) (by decide +kernel)
theorem kl_L_254 : Cond.methodLink RL 254 yL_hasTestified ∈ WA := WA_of (i := 1019) (by decide +kernel) (by decide +kernel)
theorem kl_L_73 : Cond.methodLink RL 73 yX9_hasTestified ∈ WA := WA_of (i := 1022) (by decide +kernel) (by decide +kernel)
theorem kl_X9_141 : Cond.methodLink RX9 141 yX9_needWitness ∈ WA := WA_of (i := 1026) (by decide +kernel) (by decide +kernel)
theorem kl_X9_422 : Cond.methodLink RX9 422 yX0_hasWitness ∈ WA := WA_of (i := 1030) (by decide +kernel) (by decide +kernel)
theorem kl_X9_144 : Cond.methodLink RX9 144 yX0_hasHeard ∈ WA := WA_of (i := 1032) (by decide +kernel) (by decide +kernel)
theorem kl_L_257 : Cond.methodLink RL 257 yL_isForProsecution ∈ WA := WA_of (i := 1033) (by decide +kernel) (by decide +kernel)
theorem kl_L_77 : Cond.methodLink RL 77 yX9_isForProsecution ∈ WA := WA_of (i := 1036) (by decide +kernel) (by decide +kernel)
theorem kl_X9_147 : Cond.methodLink RX9 147 yX9_needTestimony ∈ WA := WA_of (i := 1040) (by decide +kernel) (by decide +kernel)
theorem kl_X9_151 : Cond.methodLink RX9 151 yX0_sideOf ∈ WA := WA_of (i := 1044) (by decide +kernel) (by decide +kernel)
theorem kl_L_260 : Cond.methodLink RL 260 yL_strength ∈ WA := WA_of (i := 1045) (by decide +kernel) (by decide +kernel)
theorem kl_L_80 : Cond.methodLink RL 80 yX9_strength ∈ WA := WA_of (i := 1048) (by decide +kernel) (by decide +kernel)
theorem kl_X9_154 : Cond.methodLink RX9 154 yX0_strengthOf ∈ WA := WA_of (i := 1052) (by decide +kernel) (by decide +kernel)
theorem kl_L_263 : Cond.methodLink RL 263 yL_questionCount ∈ WA := WA_of (i := 1053) (by decide +kernel) (by decide +kernel)
theorem kl_L_83 : Cond.methodLink RL 83 yX9_questionCount ∈ WA := WA_of (i := 1056) (by decide +kernel) (by decide +kernel)
theorem kl_X9_157 : Cond.methodLink RX9 157 yX0_questionsTo ∈ WA := WA_of (i := 1060) (by decide +kernel) (by decide +kernel)
theorem kl_L_270 : Cond.methodLink RL 270 yL_credibility ∈ WA := WA_of (i := 1061) (by decide +kernel) (by decide +kernel)
theorem kl_L_86 : Cond.methodLink RL 86 yX9_credibility ∈ WA := WA_of (i := 1064) (by decide +kernel) (by decide +kernel)
theorem kl_L_273 : Cond.methodLink RL 273 yL_casesOfWitness ∈ WA := WA_of (i := 1068) (by decide +kernel) (by decide +kernel)
theorem kl_L_89 : Cond.methodLink RL 89 yX9_casesOfWitness ∈ WA := WA_of (i := 1071) (by decide +kernel) (by decide +kernel)
theorem kl_X9_166 : Cond.methodLink RX9 166 yX0_casesHearing ∈ WA := WA_of (i := 1075) (by decide +kernel) (by decide +kernel)
theorem kl_L_276 : Cond.methodLink RL 276 yL_mostCredible ∈ WA := WA_of (i := 1079) (by decide +kernel) (by decide +kernel)
theorem kl_L_92 : Cond.methodLink RL 92 yX9_mostCredible ∈ WA := WA_of (i := 1082) (by decide +kernel) (by decide +kernel)
theorem kl_X9_169 : Cond.methodLink RX9 169 yX0_witnessOfRank ∈ WA := WA_of (i := 1086) (by decide +kernel) (by decide +kernel)
theorem kl_X0_218 : Cond.methodLink RX0 218 yX0_rankOf ∈ WA := WA_of (i := 1090) (by decide +kernel) (by decide +kernel)
theorem kl_X0_221 : Cond.methodLink RX0 221 yX0_isMoreCredible ∈ WA := WA_of (i := 1094) (by decide +kernel) (by decide +kernel)
theorem kl_X0_224 : Cond.methodLink RX0 224 yX0_casesHearing ∈ WA := WA_of (i := 1098) (by decide +kernel) (by decide +kernel)
theorem kl_L_279 : Cond.methodLink RL 279 yL_agreement ∈ WA := WA_of (i := 1100) (by decide +kernel) (by decide +kernel)
theorem kl_L_95 : Cond.methodLink RL 95 yX9_agreement ∈ WA := WA_of (i := 1103) (by decide +kernel) (by decide +kernel)
theorem kl_X9_174 : Cond.methodLink RX9 174 yX0_agreementOf ∈ WA := WA_of (i := 1107) (by decide +kernel) (by decide +kernel)
theorem kl_X0_215 : Cond.methodLink RX0 215 yX0_sideOf ∈ WA := WA_of (i := 1111) (by decide +kernel) (by decide +kernel)
theorem kl_L_282 : Cond.methodLink RL 282 yL_areConnected ∈ WA := WA_of (i := 1112) (by decide +kernel) (by decide +kernel)
theorem kl_L_98 : Cond.methodLink RL 98 yX9_areConnected ∈ WA := WA_of (i := 1115) (by decide +kernel) (by decide +kernel)
theorem kl_L_285 : Cond.methodLink RL 285 yL_areConnectedBySearch ∈ WA := WA_of (i := 1119) (by decide +kernel) (by decide +kernel)
theorem kl_L_101 : Cond.methodLink RL 101 yX9_areConnectedBySearch ∈ WA := WA_of (i := 1122) (by decide +kernel) (by decide +kernel)
theorem kl_L_288 : Cond.methodLink RL 288 yL_groupSize ∈ WA := WA_of (i := 1126) (by decide +kernel) (by decide +kernel)
theorem kl_L_104 : Cond.methodLink RL 104 yX9_groupSize ∈ WA := WA_of (i := 1129) (by decide +kernel) (by decide +kernel)
theorem kl_X9_193 : Cond.methodLink RX9 193 yX3_sizeAround ∈ WA := WA_of (i := 1133) (by decide +kernel) (by decide +kernel)
theorem kl_X3_28 : Cond.methodLink RX3 28 yX3_areUnited ∈ WA := WA_of (i := 1137) (by decide +kernel) (by decide +kernel)
theorem kl_L_295 : Cond.methodLink RL 295 yL_heaviestWitness ∈ WA := WA_of (i := 1138) (by decide +kernel) (by decide +kernel)
theorem kl_L_107 : Cond.methodLink RL 107 yX9_heaviestWitness ∈ WA := WA_of (i := 1141) (by decide +kernel) (by decide +kernel)
theorem kl_X9_201 : Cond.methodLink RX9 201 yX8_heaviestIn ∈ WA := WA_of (i := 1146) (by decide +kernel) (by decide +kernel)
theorem kl_L_298 : Cond.methodLink RL 298 yL_nextToDecide ∈ WA := WA_of (i := 1149) (by decide +kernel) (by decide +kernel)
theorem kl_L_110 : Cond.methodLink RL 110 yX9_nextToDecide ∈ WA := WA_of (i := 1152) (by decide +kernel) (by decide +kernel)
theorem kl_X9_211 : Cond.methodLink RX9 211 yX1_firstHeard ∈ WA := WA_of (i := 1156) (by decide +kernel) (by decide +kernel)
theorem kl_L_302 : Cond.methodLink RL 302 yL_prosecutionWeight ∈ WA := WA_of (i := 1161) (by decide +kernel) (by decide +kernel)
theorem kl_L_114 : Cond.methodLink RL 114 yX9_prosecutionWeight ∈ WA := WA_of (i := 1164) (by decide +kernel) (by decide +kernel)
theorem kl_X9_217 : Cond.methodLink RX9 217 yX8_ofSide ∈ WA := WA_of (i := 1168) (by decide +kernel) (by decide +kernel)
theorem kl_L_305 : Cond.methodLink RL 305 yL_defenceWeight ∈ WA := WA_of (i := 1171) (by decide +kernel) (by decide +kernel)
theorem kl_L_117 : Cond.methodLink RL 117 yX9_defenceWeight ∈ WA := WA_of (i := 1174) (by decide +kernel) (by decide +kernel)
theorem kl_L_308 : Cond.methodLink RL 308 yL_margin ∈ WA := WA_of (i := 1178) (by decide +kernel) (by decide +kernel)
theorem kl_L_120 : Cond.methodLink RL 120 yX9_margin ∈ WA := WA_of (i := 1181) (by decide +kernel) (by decide +kernel)
theorem kl_L_311 : Cond.methodLink RL 311 yL_marginByCredibility ∈ WA := WA_of (i := 1185) (by decide +kernel) (by decide +kernel)
theorem kl_L_123 : Cond.methodLink RL 123 yX9_marginByCredibility ∈ WA := WA_of (i := 1188) (by decide +kernel) (by decide +kernel)
theorem kl_L_314 : Cond.methodLink RL 314 yL_firmAnswersToGuilty ∈ WA := WA_of (i := 1192) (by decide +kernel) (by decide +kernel)
theorem kl_L_126 : Cond.methodLink RL 126 yX9_firmAnswersToGuilty ∈ WA := WA_of (i := 1195) (by decide +kernel) (by decide +kernel)
theorem kl_X9_227 : Cond.methodLink RX9 227 yX8_firmAnswersNeeded ∈ WA := WA_of (i := 1199) (by decide +kernel) (by decide +kernel)
theorem kl_X8_46 : Cond.methodLink RX8 46 yX8_marginByTestimony ∈ WA := WA_of (i := 1202) (by decide +kernel) (by decide +kernel)
theorem kl_L_317 : Cond.methodLink RL 317 yL_sentence ∈ WA := WA_of (i := 1204) (by decide +kernel) (by decide +kernel)
theorem kl_L_129 : Cond.methodLink RL 129 yX9_sentence ∈ WA := WA_of (i := 1207) (by decide +kernel) (by decide +kernel)
theorem kl_X9_232 : Cond.methodLink RX9 232 yX9_needDefendant ∈ WA := WA_of (i := 1211) (by decide +kernel) (by decide +kernel)
theorem kl_L_320 : Cond.methodLink RL 320 yL_sentenceByCases ∈ WA := WA_of (i := 1215) (by decide +kernel) (by decide +kernel)
theorem kl_L_132 : Cond.methodLink RL 132 yX9_sentenceByCases ∈ WA := WA_of (i := 1218) (by decide +kernel) (by decide +kernel)
theorem kl_L_331 : Cond.methodLink RL 331 yL_docketAt ∈ WA := WA_of (i := 1222) (by decide +kernel) (by decide +kernel)
theorem kl_L_135 : Cond.methodLink RL 135 yX9_docketAt ∈ WA := WA_of (i := 1225) (by decide +kernel) (by decide +kernel)
theorem kl_L_334 : Cond.methodLink RL 334 yL_docketPosition ∈ WA := WA_of (i := 1230) (by decide +kernel) (by decide +kernel)
theorem kl_L_138 : Cond.methodLink RL 138 yX9_docketPosition ∈ WA := WA_of (i := 1233) (by decide +kernel) (by decide +kernel)
theorem kl_L_353 : Cond.methodLink RL 353 yL_meanCredibility ∈ WA := WA_of (i := 1238) (by decide +kernel) (by decide +kernel)
theorem kc_L_145 : Cond.classLink RL 145 "java/lang/ArithmeticException" ∈ WA := WA_of (i := 1241) (by decide +kernel) (by decide +kernel)
theorem kl_L_141 : Cond.methodLink RL 141 yX9_meanCredibility ∈ WA := WA_of (i := 1255) (by decide +kernel) (by decide +kernel)
theorem kc_X9_267 : Cond.classLink RX9 267 "java/lang/ArithmeticException" ∈ WA := WA_of (i := 1259) (by decide +kernel) (by decide +kernel)
theorem kl_X9_271 : Cond.methodLink RX9 271 ⟨"java/lang/ArithmeticException", "<init>", "(Ljava/lang/String;)V"⟩ ∈ WA := WA_of (i := 1261) (by decide +kernel) (by decide +kernel)
theorem kl_X9_272 : Cond.methodLink RX9 272 yX0_credibilitySum ∈ WA := WA_of (i := 1262) (by decide +kernel) (by decide +kernel)
theorem kl_L_357 : Cond.methodLink RL 357 yL_guiltyShare ∈ WA := WA_of (i := 1266) (by decide +kernel) (by decide +kernel)
theorem kl_L_147 : Cond.methodLink RL 147 yX9_guiltyShare ∈ WA := WA_of (i := 1269) (by decide +kernel) (by decide +kernel)
theorem kl_L_364 : Cond.methodLink RL 364 yL_formatCase ∈ WA := WA_of (i := 1274) (by decide +kernel) (by decide +kernel)
theorem kl_L_151 : Cond.methodLink RL 151 yX9_formatCase ∈ WA := WA_of (i := 1277) (by decide +kernel) (by decide +kernel)
theorem kl_X9_290 : Cond.methodLink RX9 290 yJ4_setLength_d00df ∈ WA := WA_of (i := 1281) (by decide +kernel) (by decide +kernel)
theorem kl_J4_333 : Cond.methodLink RJ4 333 yJ5_setLength_d00df ∈ WA := WA_of (i := 1285) (by decide +kernel) (by decide +kernel)
theorem kc_J5_129 : Cond.classLink RJ5 129 RJx7c733 ∈ WA := WA_of (i := 1288) (by decide +kernel) (by decide +kernel)
theorem kl_J5_131 : Cond.methodLink RJ5 131 yJx7c733_init_d00df ∈ WA := WA_of (i := 1290) (by decide +kernel) (by decide +kernel)
theorem kc_Jx7c733_10 : Cond.classLink RJx7c733 10 RJ4 ∈ WA := WA_of (i := 1293) (by decide +kernel) (by decide +kernel)
theorem kl_Jx7c733_12 : Cond.methodLink RJx7c733 12 yJ4_init_da8c8 ∈ WA := WA_of (i := 1294) (by decide +kernel) (by decide +kernel)
theorem kl_Jx7c733_15 : Cond.methodLink RJx7c733 15 yJ4_append_15ec4 ∈ WA := WA_of (i := 1296) (by decide +kernel) (by decide +kernel)
theorem kl_J4_29 : Cond.methodLink RJ4 29 yJ5_append_cf1ce ∈ WA := WA_of (i := 1300) (by decide +kernel) (by decide +kernel)
theorem kl_J5_204 : Cond.methodLink RJ5 204 yJ5_appendNull_278bc ∈ WA := WA_of (i := 1303) (by decide +kernel) (by decide +kernel)
theorem kl_J5_100 : Cond.methodLink RJ5 100 yJ5_ensureCapacityInternal_d00df ∈ WA := WA_of (i := 1307) (by decide +kernel) (by decide +kernel)
theorem kl_J5_104 : Cond.methodLink RJ5 104 yJ5_newCapacity_0f7a4 ∈ WA := WA_of (i := 1311) (by decide +kernel) (by decide +kernel)
theorem kl_J5_114 : Cond.methodLink RJ5 114 yJ8_newLength_cabcc ∈ WA := WA_of (i := 1315) (by decide +kernel) (by decide +kernel)
theorem kl_J8_194 : Cond.methodLink RJ8 194 yJ9_max_7cf53 ∈ WA := WA_of (i := 1318) (by decide +kernel) (by decide +kernel)
theorem kl_J8_201 : Cond.methodLink RJ8 201 yJ8_hugeLength_7cf53 ∈ WA := WA_of (i := 1320) (by decide +kernel) (by decide +kernel)
theorem kl_J5_108 : Cond.methodLink RJ5 108 yJ7_copyOf_9075b ∈ WA := WA_of (i := 1324) (by decide +kernel) (by decide +kernel)
theorem kl_J7_310 : Cond.methodLink RJ7 310 ⟨"[B", "clone", "()Ljava/lang/Object;"⟩ ∈ WA := WA_of (i := 1327) (by decide +kernel) (by decide +kernel)
theorem kc_J7_311 : Cond.classLink RJ7 311 "[B" ∈ WA := WA_of (i := 1333) (by decide +kernel) (by decide +kernel)
theorem kl_J7_304 : Cond.methodLink RJ7 304 yJ9_min_7cf53 ∈ WA := WA_of (i := 1334) (by decide +kernel) (by decide +kernel)
theorem kl_J7_150 : Cond.methodLink RJ7 150 ⟨"java/lang/System", "arraycopy", "(Ljava/lang/Object;ILjava/lang/Object;II)V"⟩ ∈ WA := WA_of (i := 1335) (by decide +kernel) (by decide +kernel)
theorem kl_J5_83 : Cond.methodLink RJ5 83 yJ5_isLatin1_aae02 ∈ WA := WA_of (i := 1336) (by decide +kernel) (by decide +kernel)
theorem kl_J5_226 : Cond.methodLink RJ5 226 yJ2_putCharsAt_cd4e5 ∈ WA := WA_of (i := 1341) (by decide +kernel) (by decide +kernel)
theorem kl_J2_96 : Cond.methodLink RJ2 96 yJ2_checkBoundsBeginEnd_d044e ∈ WA := WA_of (i := 1344) (by decide +kernel) (by decide +kernel)
theorem kl_J2_48 : Cond.methodLink RJ2 48 yJ2_length_9d52b ∈ WA := WA_of (i := 1347) (by decide +kernel) (by decide +kernel)
theorem kl_J2_241 : Cond.methodLink RJ2 241 yJ0_checkBoundsBeginEnd_23922 ∈ WA := WA_of (i := 1350) (by decide +kernel) (by decide +kernel)
theorem kf_J0_1053 : Cond.fieldLink RJ0 1053 "jdk/internal/util/Preconditions" "SIOOBE_FORMATTER" "Ljava/util/function/BiFunction;" ∈ WA := WA_of (i := 1353) (by decide +kernel) (by decide +kernel)
theorem kl_J0_1062 : Cond.methodLink RJ0 1062 yJ3_checkFromToIndex_8c36e ∈ WA := WA_of (i := 1355) (by decide +kernel) (by decide +kernel)
theorem kl_J2_111 : Cond.methodLink RJ2 111 yJ2_putChar_b72d1 ∈ WA := WA_of (i := 1358) (by decide +kernel) (by decide +kernel)
theorem kf_J2_44 : Cond.fieldLink RJ2 44 "java/lang/StringUTF16" "$assertionsDisabled" "Z" ∈ WA := WA_of (i := 1361) (by decide +kernel) (by decide +kernel)
theorem kf_J2_59 : Cond.fieldLink RJ2 59 "java/lang/StringUTF16" "HI_BYTE_SHIFT" "I" ∈ WA := WA_of (i := 1363) (by decide +kernel) (by decide +kernel)
theorem kf_J2_63 : Cond.fieldLink RJ2 63 "java/lang/StringUTF16" "LO_BYTE_SHIFT" "I" ∈ WA := WA_of (i := 1365) (by decide +kernel) (by decide +kernel)
theorem kl_J5_32 : Cond.methodLink RJ5 32 yJ0_length_8abf5 ∈ WA := WA_of (i := 1367) (by decide +kernel) (by decide +kernel)
theorem kl_J0_335 : Cond.methodLink RJ0 335 yJ0_coder_7d493 ∈ WA := WA_of (i := 1371) (by decide +kernel) (by decide +kernel)
theorem kf_J0_38 : Cond.fieldLink RJ0 38 "java/lang/String" "COMPACT_STRINGS" "Z" ∈ WA := WA_of (i := 1375) (by decide +kernel) (by decide +kernel)
theorem kl_J5_208 : Cond.methodLink RJ5 208 yJ5_putStringAt_47b60 ∈ WA := WA_of (i := 1376) (by decide +kernel) (by decide +kernel)
theorem kl_J5_397 : Cond.methodLink RJ5 397 yJ5_inflateIfNeededFor_a7421 ∈ WA := WA_of (i := 1380) (by decide +kernel) (by decide +kernel)
theorem kl_J5_40 : Cond.methodLink RJ5 40 yJ0_coder_7d493 ∈ WA := WA_of (i := 1384) (by decide +kernel) (by decide +kernel)
theorem kl_J5_195 : Cond.methodLink RJ5 195 yJ5_inflate_da8c8 ∈ WA := WA_of (i := 1385) (by decide +kernel) (by decide +kernel)
theorem kl_J5_125 : Cond.methodLink RJ5 125 yJ1_inflate_0e8fd ∈ WA := WA_of (i := 1389) (by decide +kernel) (by decide +kernel)
theorem kl_J1_240 : Cond.methodLink RJ1 240 yJ2_inflate_0e8fd ∈ WA := WA_of (i := 1392) (by decide +kernel) (by decide +kernel)
theorem kl_J2_173 : Cond.methodLink RJ2 173 yJ2_checkBoundsOffCount_d044e ∈ WA := WA_of (i := 1395) (by decide +kernel) (by decide +kernel)
theorem kl_J2_419 : Cond.methodLink RJ2 419 yJ0_checkBoundsOffCount_cabcc ∈ WA := WA_of (i := 1398) (by decide +kernel) (by decide +kernel)
theorem kl_J0_1065 : Cond.methodLink RJ0 1065 yJ3_checkFromIndexSize_8c36e ∈ WA := WA_of (i := 1401) (by decide +kernel) (by decide +kernel)
theorem kl_J5_399 : Cond.methodLink RJ5 399 yJ0_getBytes_840e7 ∈ WA := WA_of (i := 1404) (by decide +kernel) (by decide +kernel)
theorem kl_J0_212 : Cond.methodLink RJ0 212 ⟨"java/lang/System", "arraycopy", "(Ljava/lang/Object;ILjava/lang/Object;II)V"⟩ ∈ WA := WA_of (i := 1408) (by decide +kernel) (by decide +kernel)
theorem kl_J0_106 : Cond.methodLink RJ0 106 yJ1_inflate_0e8fd ∈ WA := WA_of (i := 1409) (by decide +kernel) (by decide +kernel)
theorem kl_Jx7c733_19 : Cond.methodLink RJx7c733 19 yJ4_append_bf812 ∈ WA := WA_of (i := 1410) (by decide +kernel) (by decide +kernel)
theorem kl_J4_53 : Cond.methodLink RJ4 53 yJ5_append_c97b9 ∈ WA := WA_of (i := 1414) (by decide +kernel) (by decide +kernel)
theorem kl_J5_245 : Cond.methodLink RJ5 245 yJ6_stringSize_0f7a4 ∈ WA := WA_of (i := 1417) (by decide +kernel) (by decide +kernel)
theorem kl_J5_248 : Cond.methodLink RJ5 248 yJ6_getChars_ba4f3 ∈ WA := WA_of (i := 1420) (by decide +kernel) (by decide +kernel)
theorem kf_J6_83 : Cond.fieldLink RJ6 83 "java/lang/Integer" "DigitOnes" "[B" ∈ WA := WA_of (i := 1423) (by decide +kernel) (by decide +kernel)
theorem kf_J6_87 : Cond.fieldLink RJ6 87 "java/lang/Integer" "DigitTens" "[B" ∈ WA := WA_of (i := 1425) (by decide +kernel) (by decide +kernel)
theorem kl_J5_251 : Cond.methodLink RJ5 251 yJ2_getChars_46870 ∈ WA := WA_of (i := 1427) (by decide +kernel) (by decide +kernel)
theorem kl_J2_393 : Cond.methodLink RJ2 393 yJ2_getChars_ba4f3 ∈ WA := WA_of (i := 1430) (by decide +kernel) (by decide +kernel)
theorem kf_J2_403 : Cond.fieldLink RJ2 403 "java/lang/Integer" "DigitOnes" "[B" ∈ WA := WA_of (i := 1433) (by decide +kernel) (by decide +kernel)
theorem kf_J2_407 : Cond.fieldLink RJ2 407 "java/lang/Integer" "DigitTens" "[B" ∈ WA := WA_of (i := 1434) (by decide +kernel) (by decide +kernel)
theorem kl_Jx7c733_22 : Cond.methodLink RJx7c733 22 yJ4_toString_0e30d ∈ WA := WA_of (i := 1435) (by decide +kernel) (by decide +kernel)
theorem kc_J4_18 : Cond.classLink RJ4 18 RJ0 ∈ WA := WA_of (i := 1439) (by decide +kernel) (by decide +kernel)
theorem kl_J4_137 : Cond.methodLink RJ4 137 yJ0_init_81219 ∈ WA := WA_of (i := 1440) (by decide +kernel) (by decide +kernel)
theorem kl_J0_489 : Cond.methodLink RJ0 489 yJ0_init_db425 ∈ WA := WA_of (i := 1443) (by decide +kernel) (by decide +kernel)
theorem kl_J0_1 : Cond.methodLink RJ0 1 ⟨"java/lang/Object", "<init>", "()V"⟩ ∈ WA := WA_of (i := 1446) (by decide +kernel) (by decide +kernel)
theorem kl_J0_552 : Cond.methodLink RJ0 552 yJ5_getValue_6d5f1 ∈ WA := WA_of (i := 1447) (by decide +kernel) (by decide +kernel)
theorem kl_J0_549 : Cond.methodLink RJ0 549 yJ5_length_8abf5 ∈ WA := WA_of (i := 1452) (by decide +kernel) (by decide +kernel)
theorem kl_J4_343 : Cond.methodLink RJ4 343 yJ5_length_8abf5 ∈ WA := WA_of (i := 1458) (by decide +kernel) (by decide +kernel)
theorem kl_J0_1047 : Cond.methodLink RJ0 1047 yJ5_isLatin1_aae02 ∈ WA := WA_of (i := 1460) (by decide +kernel) (by decide +kernel)
theorem kl_J0_54 : Cond.methodLink RJ0 54 yJ7_copyOfRange_39247 ∈ WA := WA_of (i := 1461) (by decide +kernel) (by decide +kernel)
theorem kl_J7_339 : Cond.methodLink RJ7 339 yJ7_copyOfRangeByte_39247 ∈ WA := WA_of (i := 1464) (by decide +kernel) (by decide +kernel)
theorem kl_J7_343 : Cond.methodLink RJ7 343 yJ7_checkLength_df160 ∈ WA := WA_of (i := 1467) (by decide +kernel) (by decide +kernel)
theorem kc_J7_43 : Cond.classLink RJ7 43 "java/lang/IllegalArgumentException" ∈ WA := WA_of (i := 1470) (by decide +kernel) (by decide +kernel)
theorem kc_J7_45 : Cond.classLink RJ7 45 RJ4 ∈ WA := WA_of (i := 1471) (by decide +kernel) (by decide +kernel)
theorem kl_J7_47 : Cond.methodLink RJ7 47 yJ4_init_da8c8 ∈ WA := WA_of (i := 1472) (by decide +kernel) (by decide +kernel)
theorem kl_J7_54 : Cond.methodLink RJ7 54 yJ4_append_bf812 ∈ WA := WA_of (i := 1473) (by decide +kernel) (by decide +kernel)
theorem kl_J7_50 : Cond.methodLink RJ7 50 yJ4_append_15ec4 ∈ WA := WA_of (i := 1475) (by decide +kernel) (by decide +kernel)
theorem kl_J7_61 : Cond.methodLink RJ7 61 yJ4_toString_0e30d ∈ WA := WA_of (i := 1476) (by decide +kernel) (by decide +kernel)
theorem kl_J7_65 : Cond.methodLink RJ7 65 ⟨"java/lang/IllegalArgumentException", "<init>", "(Ljava/lang/String;)V"⟩ ∈ WA := WA_of (i := 1477) (by decide +kernel) (by decide +kernel)
theorem kl_J0_1051 : Cond.methodLink RJ0 1051 yJ2_compress_39247 ∈ WA := WA_of (i := 1478) (by decide +kernel) (by decide +kernel)
theorem kl_J2_123 : Cond.methodLink RJ2 123 yJ2_compress_5af95 ∈ WA := WA_of (i := 1481) (by decide +kernel) (by decide +kernel)
theorem kl_J2_71 : Cond.methodLink RJ2 71 yJ2_getChar_3b067 ∈ WA := WA_of (i := 1484) (by decide +kernel) (by decide +kernel)
theorem kl_J2_126 : Cond.methodLink RJ2 126 yJ7_copyOfRange_39247 ∈ WA := WA_of (i := 1487) (by decide +kernel) (by decide +kernel)
theorem kl_J0_47 : Cond.methodLink RJ0 47 yJ2_coderFromArrayLen_85cad ∈ WA := WA_of (i := 1488) (by decide +kernel) (by decide +kernel)
theorem kf_J0_9 : Cond.fieldLink RJ0 9 "java/lang/String" "value" "[B" ∈ WA := WA_of (i := 1491) (by decide +kernel) (by decide +kernel)
theorem kf_J0_15 : Cond.fieldLink RJ0 15 "java/lang/String" "coder" "B" ∈ WA := WA_of (i := 1492) (by decide +kernel) (by decide +kernel)
theorem kl_Jx7c733_7 : Cond.methodLink RJx7c733 7 ⟨"java/lang/IndexOutOfBoundsException", "<init>", "(Ljava/lang/String;)V"⟩ ∈ WA := WA_of (i := 1498) (by decide +kernel) (by decide +kernel)
theorem kl_J5_133 : Cond.methodLink RJ5 133 yJ1_fillNull_b72d1 ∈ WA := WA_of (i := 1506) (by decide +kernel) (by decide +kernel)
theorem kl_J1_236 : Cond.methodLink RJ1 236 yJ7_fill_eb02e ∈ WA := WA_of (i := 1509) (by decide +kernel) (by decide +kernel)
theorem kl_J7_13 : Cond.methodLink RJ7 13 yJ7_rangeCheck_23922 ∈ WA := WA_of (i := 1512) (by decide +kernel) (by decide +kernel)
theorem kc_J7_68 : Cond.classLink RJ7 68 RJx00060 ∈ WA := WA_of (i := 1518) (by decide +kernel) (by decide +kernel)
theorem kl_J7_70 : Cond.methodLink RJ7 70 yJx00060_init_d00df ∈ WA := WA_of (i := 1519) (by decide +kernel) (by decide +kernel)
theorem kc_Jx00060_10 : Cond.classLink RJx00060 10 RJ4 ∈ WA := WA_of (i := 1522) (by decide +kernel) (by decide +kernel)
theorem kl_Jx00060_12 : Cond.methodLink RJx00060 12 yJ4_init_da8c8 ∈ WA := WA_of (i := 1523) (by decide +kernel) (by decide +kernel)
theorem kl_Jx00060_15 : Cond.methodLink RJx00060 15 yJ4_append_15ec4 ∈ WA := WA_of (i := 1525) (by decide +kernel) (by decide +kernel)
theorem kl_Jx00060_19 : Cond.methodLink RJx00060 19 yJ4_append_bf812 ∈ WA := WA_of (i := 1526) (by decide +kernel) (by decide +kernel)
theorem kl_Jx00060_22 : Cond.methodLink RJx00060 22 yJ4_toString_0e30d ∈ WA := WA_of (i := 1527) (by decide +kernel) (by decide +kernel)
theorem kl_J5_137 : Cond.methodLink RJ5 137 yJ2_fillNull_b72d1 ∈ WA := WA_of (i := 1528) (by decide +kernel) (by decide +kernel)
theorem kl_J2_380 : Cond.methodLink RJ2 380 yJ7_fill_eb02e ∈ WA := WA_of (i := 1531) (by decide +kernel) (by decide +kernel)
theorem kl_X9_293 : Cond.methodLink RX9 293 yX9_writeHead ∈ WA := WA_of (i := 1532) (by decide +kernel) (by decide +kernel)
theorem kl_X9_305 : Cond.methodLink RX9 305 yJ4_append_bf812 ∈ WA := WA_of (i := 1536) (by decide +kernel) (by decide +kernel)
theorem kl_X9_301 : Cond.methodLink RX9 301 yJ4_append_cf468 ∈ WA := WA_of (i := 1537) (by decide +kernel) (by decide +kernel)
theorem kl_J4_50 : Cond.methodLink RJ4 50 yJ5_append_3fe6f ∈ WA := WA_of (i := 1541) (by decide +kernel) (by decide +kernel)
theorem kl_J5_191 : Cond.methodLink RJ5 191 yJ1_canEncode_fc78d ∈ WA := WA_of (i := 1544) (by decide +kernel) (by decide +kernel)
theorem kl_J5_197 : Cond.methodLink RJ5 197 yJ2_putCharSB_b72d1 ∈ WA := WA_of (i := 1547) (by decide +kernel) (by decide +kernel)
theorem kl_J2_67 : Cond.methodLink RJ2 67 yJ2_checkIndex_2214a ∈ WA := WA_of (i := 1550) (by decide +kernel) (by decide +kernel)
theorem kl_J2_414 : Cond.methodLink RJ2 414 yJ0_checkIndex_df160 ∈ WA := WA_of (i := 1553) (by decide +kernel) (by decide +kernel)
theorem kl_J0_1059 : Cond.methodLink RJ0 1059 yJ3_checkIndex_8e157 ∈ WA := WA_of (i := 1556) (by decide +kernel) (by decide +kernel)
theorem kl_X9_296 : Cond.methodLink RX9 296 yX9_writeTestimony ∈ WA := WA_of (i := 1559) (by decide +kernel) (by decide +kernel)
theorem kl_X9_299 : Cond.methodLink RX9 299 yJ4_length_8abf5 ∈ WA := WA_of (i := 1563) (by decide +kernel) (by decide +kernel)
theorem kl_L_367 : Cond.methodLink RL 367 yL_formatWitness ∈ WA := WA_of (i := 1564) (by decide +kernel) (by decide +kernel)
theorem kl_L_154 : Cond.methodLink RL 154 yX9_formatWitness ∈ WA := WA_of (i := 1567) (by decide +kernel) (by decide +kernel)
theorem kl_L_370 : Cond.methodLink RL 370 yL_lineChar ∈ WA := WA_of (i := 1571) (by decide +kernel) (by decide +kernel)
theorem kl_L_157 : Cond.methodLink RL 157 yX9_lineChar ∈ WA := WA_of (i := 1574) (by decide +kernel) (by decide +kernel)
theorem kl_X9_313 : Cond.methodLink RX9 313 yJ4_charAt_5068e ∈ WA := WA_of (i := 1579) (by decide +kernel) (by decide +kernel)
theorem kl_J4_329 : Cond.methodLink RJ4 329 yJ5_charAt_5068e ∈ WA := WA_of (i := 1583) (by decide +kernel) (by decide +kernel)
theorem kl_J5_138 : Cond.methodLink RJ5 138 yJ9_min_7cf53 ∈ WA := WA_of (i := 1586) (by decide +kernel) (by decide +kernel)
theorem kl_J5_144 : Cond.methodLink RJ5 144 yJ0_checkIndex_df160 ∈ WA := WA_of (i := 1587) (by decide +kernel) (by decide +kernel)
theorem kl_J5_148 : Cond.methodLink RJ5 148 yJ2_getChar_3b067 ∈ WA := WA_of (i := 1588) (by decide +kernel) (by decide +kernel)
theorem kl_L_373 : Cond.methodLink RL 373 yL_append ∈ WA := WA_of (i := 1589) (by decide +kernel) (by decide +kernel)
theorem kl_L_161 : Cond.methodLink RL 161 yX9_append ∈ WA := WA_of (i := 1592) (by decide +kernel) (by decide +kernel)
theorem kl_L_377 : Cond.methodLink RL 377 yL_run ∈ WA := WA_of (i := 1598) (by decide +kernel) (by decide +kernel)
theorem kc_L_168 : Cond.classLink RL 168 "java/lang/UnsupportedOperationException" ∈ WA := WA_of (i := 1601) (by decide +kernel) (by decide +kernel)
theorem kl_L_165 : Cond.methodLink RL 165 yX9_run ∈ WA := WA_of (i := 1602) (by decide +kernel) (by decide +kernel)
theorem kl_X9_324 : Cond.methodLink RX9 324 yX5_parse ∈ WA := WA_of (i := 1606) (by decide +kernel) (by decide +kernel)
theorem kl_X5_46 : Cond.methodLink RX5 46 yX5_readKeyword ∈ WA := WA_of (i := 1610) (by decide +kernel) (by decide +kernel)
theorem kl_X5_65 : Cond.methodLink RX5 65 yX5_keywordOf ∈ WA := WA_of (i := 1614) (by decide +kernel) (by decide +kernel)
theorem kl_X5_69 : Cond.methodLink RX5 69 yX5_followed ∈ WA := WA_of (i := 1624) (by decide +kernel) (by decide +kernel)
theorem kl_X5_73 : Cond.methodLink RX5 73 yJ0_length_8abf5 ∈ WA := WA_of (i := 1628) (by decide +kernel) (by decide +kernel)
theorem kl_X5_76 : Cond.methodLink RX5 76 yX5_signAt ∈ WA := WA_of (i := 1629) (by decide +kernel) (by decide +kernel)
theorem kl_X5_58 : Cond.methodLink RX5 58 yJ4_length_8abf5 ∈ WA := WA_of (i := 1633) (by decide +kernel) (by decide +kernel)
theorem kl_X5_119 : Cond.methodLink RX5 119 yJ4_charAt_5068e ∈ WA := WA_of (i := 1634) (by decide +kernel) (by decide +kernel)
theorem kl_X5_80 : Cond.methodLink RX5 80 yJ0_charAt_5068e ∈ WA := WA_of (i := 1635) (by decide +kernel) (by decide +kernel)
theorem kl_J0_492 : Cond.methodLink RJ0 492 yJ0_isLatin1_aae02 ∈ WA := WA_of (i := 1639) (by decide +kernel) (by decide +kernel)
theorem kl_J0_495 : Cond.methodLink RJ0 495 yJ1_charAt_3b067 ∈ WA := WA_of (i := 1643) (by decide +kernel) (by decide +kernel)
theorem kl_J1_9 : Cond.methodLink RJ1 9 yJ0_checkIndex_df160 ∈ WA := WA_of (i := 1646) (by decide +kernel) (by decide +kernel)
theorem kl_J0_498 : Cond.methodLink RJ0 498 yJ2_charAt_3b067 ∈ WA := WA_of (i := 1647) (by decide +kernel) (by decide +kernel)
theorem kl_X5_50 : Cond.methodLink RX5 50 yX5_readArguments ∈ WA := WA_of (i := 1650) (by decide +kernel) (by decide +kernel)
theorem kl_X5_97 : Cond.methodLink RX5 97 yX5_readDigit ∈ WA := WA_of (i := 1654) (by decide +kernel) (by decide +kernel)
theorem kl_X5_54 : Cond.methodLink RX5 54 yX6_put ∈ WA := WA_of (i := 1658) (by decide +kernel) (by decide +kernel)
theorem kl_X5_61 : Cond.methodLink RX5 61 yX5_readSign ∈ WA := WA_of (i := 1659) (by decide +kernel) (by decide +kernel)
theorem kl_X5_101 : Cond.methodLink RX5 101 yX5_readCaseAndWitness ∈ WA := WA_of (i := 1663) (by decide +kernel) (by decide +kernel)
theorem kl_X5_109 : Cond.methodLink RX5 109 yX5_readNumber ∈ WA := WA_of (i := 1667) (by decide +kernel) (by decide +kernel)
theorem kl_X5_112 : Cond.methodLink RX5 112 yX6_get ∈ WA := WA_of (i := 1671) (by decide +kernel) (by decide +kernel)
theorem kl_X5_116 : Cond.methodLink RX5 116 yX6_add ∈ WA := WA_of (i := 1672) (by decide +kernel) (by decide +kernel)
theorem kl_X5_105 : Cond.methodLink RX5 105 yX5_readFlag ∈ WA := WA_of (i := 1673) (by decide +kernel) (by decide +kernel)
theorem kl_X9_332 : Cond.methodLink RX9 332 yX9_executeProgram ∈ WA := WA_of (i := 1678) (by decide +kernel) (by decide +kernel)
theorem kf_X9_411 : Cond.fieldLink RX9 411 "CaseManager$Fault" "NONE" "LCaseManager$Fault;" ∈ WA := WA_of (i := 1682) (by decide +kernel) (by decide +kernel)
theorem kc_X9_335 : Cond.classLink RX9 335 "java/lang/UnsupportedOperationException" ∈ WA := WA_of (i := 1683) (by decide +kernel) (by decide +kernel)
theorem kl_X9_339 : Cond.methodLink RX9 339 ⟨"java/lang/UnsupportedOperationException", "<init>", "(Ljava/lang/String;)V"⟩ ∈ WA := WA_of (i := 1693) (by decide +kernel) (by decide +kernel)
theorem kl_L_380 : Cond.methodLink RL 380 yL_errorPosition ∈ WA := WA_of (i := 1699) (by decide +kernel) (by decide +kernel)
theorem kl_L_170 : Cond.methodLink RL 170 yX9_errorPosition ∈ WA := WA_of (i := 1702) (by decide +kernel) (by decide +kernel)
theorem kl_L_383 : Cond.methodLink RL 383 yL_failedCommand ∈ WA := WA_of (i := 1707) (by decide +kernel) (by decide +kernel)
theorem kl_L_173 : Cond.methodLink RL 173 yX9_failedCommand ∈ WA := WA_of (i := 1710) (by decide +kernel) (by decide +kernel)
theorem kl_X9_345 : Cond.methodLink RX9 345 yX9_needFailure ∈ WA := WA_of (i := 1714) (by decide +kernel) (by decide +kernel)
theorem kl_L_386 : Cond.methodLink RL 386 yL_isFailureOfState ∈ WA := WA_of (i := 1719) (by decide +kernel) (by decide +kernel)
theorem kl_L_176 : Cond.methodLink RL 176 yX9_isFailureOfState ∈ WA := WA_of (i := 1722) (by decide +kernel) (by decide +kernel)
theorem kl_L_393 : Cond.methodLink RL 393 yL_undo ∈ WA := WA_of (i := 1726) (by decide +kernel) (by decide +kernel)
theorem kl_L_180 : Cond.methodLink RL 180 yX9_undo ∈ WA := WA_of (i := 1729) (by decide +kernel) (by decide +kernel)
theorem kl_X9_351 : Cond.methodLink RX9 351 yX4_takeLatest ∈ WA := WA_of (i := 1734) (by decide +kernel) (by decide +kernel)
theorem kl_L_400 : Cond.methodLink RL 400 yL_restore ∈ WA := WA_of (i := 1738) (by decide +kernel) (by decide +kernel)
theorem kl_L_183 : Cond.methodLink RL 183 yX9_restore ∈ WA := WA_of (i := 1741) (by decide +kernel) (by decide +kernel)
theorem kl_X9_359 : Cond.methodLink RX9 359 yX4_forgetAll ∈ WA := WA_of (i := 1746) (by decide +kernel) (by decide +kernel)
theorem kc_L_187 : Cond.classLink RL 187 RX10 ∈ WA := WA_of (i := 1750) (by decide +kernel) (by decide +kernel)
theorem kl_L_189 : Cond.methodLink RL 189 yX10_init ∈ WA := WA_of (i := 1752) (by decide +kernel) (by decide +kernel)
theorem kl_X10_1 : Cond.methodLink RX10 1 ⟨"java/lang/Object", "<init>", "()V"⟩ ∈ WA := WA_of (i := 1755) (by decide +kernel) (by decide +kernel)
theorem kf_X10_30 : Cond.fieldLink RX10 30 "CaseManagerModel" "thrown" "I" ∈ WA := WA_of (i := 1756) (by decide +kernel) (by decide +kernel)
theorem kf_X10_9 : Cond.fieldLink RX10 9 "CaseManagerModel" "all" "[I" ∈ WA := WA_of (i := 1757) (by decide +kernel) (by decide +kernel)
theorem kf_X10_37 : Cond.fieldLink RX10 37 "CaseManagerModel" "changes" "I" ∈ WA := WA_of (i := 1758) (by decide +kernel) (by decide +kernel)
theorem kf_X10_213 : Cond.fieldLink RX10 213 "CaseManagerModel" "isSaved" "Z" ∈ WA := WA_of (i := 1759) (by decide +kernel) (by decide +kernel)
theorem kf_X10_40 : Cond.fieldLink RX10 40 "CaseManagerModel" "result" "I" ∈ WA := WA_of (i := 1760) (by decide +kernel) (by decide +kernel)
theorem kf_X10_13 : Cond.fieldLink RX10 13 "CaseManagerModel" "line" "[C" ∈ WA := WA_of (i := 1761) (by decide +kernel) (by decide +kernel)
theorem kf_X10_156 : Cond.fieldLink RX10 156 "CaseManagerModel" "lineSize" "I" ∈ WA := WA_of (i := 1762) (by decide +kernel) (by decide +kernel)
theorem kf_X10_17 : Cond.fieldLink RX10 17 "CaseManagerModel" "input" "[C" ∈ WA := WA_of (i := 1763) (by decide +kernel) (by decide +kernel)
theorem kf_X10_166 : Cond.fieldLink RX10 166 "CaseManagerModel" "typed" "I" ∈ WA := WA_of (i := 1764) (by decide +kernel) (by decide +kernel)
theorem kf_X10_169 : Cond.fieldLink RX10 169 "CaseManagerModel" "here" "I" ∈ WA := WA_of (i := 1765) (by decide +kernel) (by decide +kernel)
theorem kf_X10_172 : Cond.fieldLink RX10 172 "CaseManagerModel" "error" "I" ∈ WA := WA_of (i := 1766) (by decide +kernel) (by decide +kernel)
theorem kf_X10_20 : Cond.fieldLink RX10 20 "CaseManagerModel" "errorAt" "I" ∈ WA := WA_of (i := 1767) (by decide +kernel) (by decide +kernel)
theorem kf_X10_24 : Cond.fieldLink RX10 24 "CaseManagerModel" "failedAt" "I" ∈ WA := WA_of (i := 1768) (by decide +kernel) (by decide +kernel)
theorem kf_X10_209 : Cond.fieldLink RX10 209 "CaseManagerModel" "isOfState" "Z" ∈ WA := WA_of (i := 1769) (by decide +kernel) (by decide +kernel)
theorem kf_X10_27 : Cond.fieldLink RX10 27 "CaseManagerModel" "commands" "[I" ∈ WA := WA_of (i := 1770) (by decide +kernel) (by decide +kernel)
theorem kf_X10_188 : Cond.fieldLink RX10 188 "CaseManagerModel" "commandMany" "I" ∈ WA := WA_of (i := 1771) (by decide +kernel) (by decide +kernel)
theorem kl_L_196 : Cond.methodLink RL 196 yX10_thrown ∈ WA := WA_of (i := 1806) (by decide +kernel) (by decide +kernel)
theorem kl_L_195 : Cond.methodLink RL 195 yX10_charge ∈ WA := WA_of (i := 1810) (by decide +kernel) (by decide +kernel)
theorem kl_X10_79 : Cond.methodLink RX10 79 yX10_begins ∈ WA := WA_of (i := 1814) (by decide +kernel) (by decide +kernel)
theorem kl_X10_33 : Cond.methodLink RX10 33 yX10_copies ∈ WA := WA_of (i := 1818) (by decide +kernel) (by decide +kernel)
theorem kl_X10_82 : Cond.methodLink RX10 82 yX10_charges ∈ WA := WA_of (i := 1822) (by decide +kernel) (by decide +kernel)
theorem kl_X10_65 : Cond.methodLink RX10 65 yX10_isDefendant ∈ WA := WA_of (i := 1826) (by decide +kernel) (by decide +kernel)
theorem kl_X10_43 : Cond.methodLink RX10 43 yX10_in ∈ WA := WA_of (i := 1829) (by decide +kernel) (by decide +kernel)
theorem kl_X10_69 : Cond.methodLink RX10 69 yX10_isOffence ∈ WA := WA_of (i := 1832) (by decide +kernel) (by decide +kernel)
theorem kl_X10_72 : Cond.methodLink RX10 72 yX10_findCase ∈ WA := WA_of (i := 1835) (by decide +kernel) (by decide +kernel)
theorem kl_X10_47 : Cond.methodLink RX10 47 yX10_c ∈ WA := WA_of (i := 1839) (by decide +kernel) (by decide +kernel)
theorem kl_X10_75 : Cond.methodLink RX10 75 yX10_set ∈ WA := WA_of (i := 1843) (by decide +kernel) (by decide +kernel)
theorem kl_X10_85 : Cond.methodLink RX10 85 yX10_ends ∈ WA := WA_of (i := 1847) (by decide +kernel) (by decide +kernel)
theorem kl_L_202 : Cond.methodLink RL 202 yX10_addWitness ∈ WA := WA_of (i := 1851) (by decide +kernel) (by decide +kernel)
theorem kl_X10_89 : Cond.methodLink RX10 89 yX10_registers ∈ WA := WA_of (i := 1855) (by decide +kernel) (by decide +kernel)
theorem kl_L_206 : Cond.methodLink RL 206 yX10_testify ∈ WA := WA_of (i := 1859) (by decide +kernel) (by decide +kernel)
theorem kl_X10_101 : Cond.methodLink RX10 101 yX10_testifies ∈ WA := WA_of (i := 1863) (by decide +kernel) (by decide +kernel)
theorem kl_X10_92 : Cond.methodLink RX10 92 yX10_isCase ∈ WA := WA_of (i := 1867) (by decide +kernel) (by decide +kernel)
theorem kl_X10_95 : Cond.methodLink RX10 95 yX10_isWitness ∈ WA := WA_of (i := 1871) (by decide +kernel) (by decide +kernel)
theorem kl_X10_98 : Cond.methodLink RX10 98 yX10_spokenBy ∈ WA := WA_of (i := 1875) (by decide +kernel) (by decide +kernel)
theorem kl_X10_51 : Cond.methodLink RX10 51 yX10_t ∈ WA := WA_of (i := 1879) (by decide +kernel) (by decide +kernel)
theorem kl_L_210 : Cond.methodLink RL 210 yX10_question ∈ WA := WA_of (i := 1883) (by decide +kernel) (by decide +kernel)
theorem kl_X10_105 : Cond.methodLink RX10 105 yX10_asks ∈ WA := WA_of (i := 1887) (by decide +kernel) (by decide +kernel)
theorem kl_L_213 : Cond.methodLink RL 213 yX10_decide ∈ WA := WA_of (i := 1891) (by decide +kernel) (by decide +kernel)
theorem kl_X10_112 : Cond.methodLink RX10 112 yX10_decides ∈ WA := WA_of (i := 1895) (by decide +kernel) (by decide +kernel)
theorem kl_X10_109 : Cond.methodLink RX10 109 yX10_marginOf ∈ WA := WA_of (i := 1899) (by decide +kernel) (by decide +kernel)
theorem kl_X10_58 : Cond.methodLink RX10 58 yX10_weightOf ∈ WA := WA_of (i := 1903) (by decide +kernel) (by decide +kernel)
theorem kl_X10_55 : Cond.methodLink RX10 55 yX10_weightAt ∈ WA := WA_of (i := 1907) (by decide +kernel) (by decide +kernel)
theorem kl_X10_61 : Cond.methodLink RX10 61 yX10_severity ∈ WA := WA_of (i := 1911) (by decide +kernel) (by decide +kernel)
theorem kl_L_216 : Cond.methodLink RL 216 yX10_appeal ∈ WA := WA_of (i := 1915) (by decide +kernel) (by decide +kernel)
theorem kl_X10_115 : Cond.methodLink RX10 115 yX10_appeals ∈ WA := WA_of (i := 1919) (by decide +kernel) (by decide +kernel)
theorem kl_L_219 : Cond.methodLink RL 219 yX10_close ∈ WA := WA_of (i := 1923) (by decide +kernel) (by decide +kernel)
theorem kl_X10_121 : Cond.methodLink RX10 121 yX10_closes ∈ WA := WA_of (i := 1927) (by decide +kernel) (by decide +kernel)
theorem kl_X10_118 : Cond.methodLink RX10 118 yX10_inPhase ∈ WA := WA_of (i := 1931) (by decide +kernel) (by decide +kernel)
theorem kl_L_223 : Cond.methodLink RL 223 yX10_caseCount ∈ WA := WA_of (i := 1935) (by decide +kernel) (by decide +kernel)
theorem kl_L_226 : Cond.methodLink RL 226 yX10_caseOf ∈ WA := WA_of (i := 1939) (by decide +kernel) (by decide +kernel)
theorem kl_L_229 : Cond.methodLink RL 229 yX10_defendantOf ∈ WA := WA_of (i := 1943) (by decide +kernel) (by decide +kernel)
theorem kl_X10_128 : Cond.methodLink RX10 128 yX10_ofCase ∈ WA := WA_of (i := 1947) (by decide +kernel) (by decide +kernel)
theorem kl_X10_124 : Cond.methodLink RX10 124 yX10_isFine ∈ WA := WA_of (i := 1951) (by decide +kernel) (by decide +kernel)
theorem kl_L_232 : Cond.methodLink RL 232 yX10_offenceOf ∈ WA := WA_of (i := 1955) (by decide +kernel) (by decide +kernel)
theorem kl_L_235 : Cond.methodLink RL 235 yX10_isOpen ∈ WA := WA_of (i := 1959) (by decide +kernel) (by decide +kernel)
theorem kl_L_238 : Cond.methodLink RL 238 yX10_isDecided ∈ WA := WA_of (i := 1963) (by decide +kernel) (by decide +kernel)
theorem kl_L_241 : Cond.methodLink RL 241 yX10_isClosed ∈ WA := WA_of (i := 1967) (by decide +kernel) (by decide +kernel)
theorem kl_L_244 : Cond.methodLink RL 244 yX10_isGuilty ∈ WA := WA_of (i := 1971) (by decide +kernel) (by decide +kernel)
theorem kl_L_247 : Cond.methodLink RL 247 yX10_appealCount ∈ WA := WA_of (i := 1975) (by decide +kernel) (by decide +kernel)
theorem kl_L_250 : Cond.methodLink RL 250 yX10_testimonyCount ∈ WA := WA_of (i := 1979) (by decide +kernel) (by decide +kernel)
theorem kl_L_253 : Cond.methodLink RL 253 yX10_witnessAt ∈ WA := WA_of (i := 1983) (by decide +kernel) (by decide +kernel)
theorem kl_L_256 : Cond.methodLink RL 256 yX10_hasTestified ∈ WA := WA_of (i := 1987) (by decide +kernel) (by decide +kernel)
theorem kl_L_259 : Cond.methodLink RL 259 yX10_isForProsecution ∈ WA := WA_of (i := 1991) (by decide +kernel) (by decide +kernel)
theorem kl_X10_131 : Cond.methodLink RX10 131 yX10_ofTestimony ∈ WA := WA_of (i := 1995) (by decide +kernel) (by decide +kernel)
theorem kl_L_262 : Cond.methodLink RL 262 yX10_strength ∈ WA := WA_of (i := 1999) (by decide +kernel) (by decide +kernel)
theorem kl_L_265 : Cond.methodLink RL 265 yX10_questionCount ∈ WA := WA_of (i := 2003) (by decide +kernel) (by decide +kernel)
theorem kl_L_269 : Cond.methodLink RL 269 yX10_witnessCount ∈ WA := WA_of (i := 2007) (by decide +kernel) (by decide +kernel)
theorem kl_L_272 : Cond.methodLink RL 272 yX10_credibility ∈ WA := WA_of (i := 2011) (by decide +kernel) (by decide +kernel)
theorem kl_L_275 : Cond.methodLink RL 275 yX10_casesOfWitness ∈ WA := WA_of (i := 2015) (by decide +kernel) (by decide +kernel)
theorem kl_X10_134 : Cond.methodLink RX10 134 yX10_casesBy ∈ WA := WA_of (i := 2019) (by decide +kernel) (by decide +kernel)
theorem kl_L_278 : Cond.methodLink RL 278 yX10_mostCredible ∈ WA := WA_of (i := 2023) (by decide +kernel) (by decide +kernel)
theorem kl_L_281 : Cond.methodLink RL 281 yX10_agreement ∈ WA := WA_of (i := 2027) (by decide +kernel) (by decide +kernel)
theorem kl_L_284 : Cond.methodLink RL 284 yX10_areConnected ∈ WA := WA_of (i := 2031) (by decide +kernel) (by decide +kernel)
theorem kl_X10_137 : Cond.methodLink RX10 137 yX10_groupOf ∈ WA := WA_of (i := 2035) (by decide +kernel) (by decide +kernel)
theorem kl_L_287 : Cond.methodLink RL 287 yX10_areConnectedBySearch ∈ WA := WA_of (i := 2039) (by decide +kernel) (by decide +kernel)
theorem kl_X10_140 : Cond.methodLink RX10 140 yX10_areConnected ∈ WA := WA_of (i := 2043) (by decide +kernel) (by decide +kernel)
theorem kl_L_290 : Cond.methodLink RL 290 yX10_groupSize ∈ WA := WA_of (i := 2044) (by decide +kernel) (by decide +kernel)
theorem kl_L_294 : Cond.methodLink RL 294 yX10_groupCount ∈ WA := WA_of (i := 2048) (by decide +kernel) (by decide +kernel)
theorem kl_L_297 : Cond.methodLink RL 297 yX10_heaviestWitness ∈ WA := WA_of (i := 2052) (by decide +kernel) (by decide +kernel)
theorem kl_L_304 : Cond.methodLink RL 304 yX10_prosecutionWeight ∈ WA := WA_of (i := 2056) (by decide +kernel) (by decide +kernel)
theorem kl_L_307 : Cond.methodLink RL 307 yX10_defenceWeight ∈ WA := WA_of (i := 2060) (by decide +kernel) (by decide +kernel)
theorem kl_L_310 : Cond.methodLink RL 310 yX10_margin ∈ WA := WA_of (i := 2064) (by decide +kernel) (by decide +kernel)
theorem kl_L_313 : Cond.methodLink RL 313 yX10_marginByCredibility ∈ WA := WA_of (i := 2068) (by decide +kernel) (by decide +kernel)
theorem kl_X10_144 : Cond.methodLink RX10 144 yX10_margin ∈ WA := WA_of (i := 2072) (by decide +kernel) (by decide +kernel)
theorem kl_L_316 : Cond.methodLink RL 316 yX10_firmAnswersToGuilty ∈ WA := WA_of (i := 2073) (by decide +kernel) (by decide +kernel)
theorem kl_L_319 : Cond.methodLink RL 319 yX10_sentence ∈ WA := WA_of (i := 2077) (by decide +kernel) (by decide +kernel)
theorem kl_X10_147 : Cond.methodLink RX10 147 yX10_sentenceOf ∈ WA := WA_of (i := 2081) (by decide +kernel) (by decide +kernel)
theorem kl_L_322 : Cond.methodLink RL 322 yX10_sentenceByCases ∈ WA := WA_of (i := 2085) (by decide +kernel) (by decide +kernel)
theorem kl_X10_150 : Cond.methodLink RX10 150 yX10_sentence ∈ WA := WA_of (i := 2089) (by decide +kernel) (by decide +kernel)
theorem kl_L_326 : Cond.methodLink RL 326 yX10_mostSentenced ∈ WA := WA_of (i := 2090) (by decide +kernel) (by decide +kernel)
theorem kl_L_330 : Cond.methodLink RL 330 yX10_docketLength ∈ WA := WA_of (i := 2094) (by decide +kernel) (by decide +kernel)
theorem kl_L_333 : Cond.methodLink RL 333 yX10_docketAt ∈ WA := WA_of (i := 2098) (by decide +kernel) (by decide +kernel)
theorem kl_X10_153 : Cond.methodLink RX10 153 yX10_rankOf ∈ WA := WA_of (i := 2102) (by decide +kernel) (by decide +kernel)
theorem kl_L_336 : Cond.methodLink RL 336 yX10_docketPosition ∈ WA := WA_of (i := 2106) (by decide +kernel) (by decide +kernel)
theorem kl_L_301 : Cond.methodLink RL 301 yX10_nextToDecide ∈ WA := WA_of (i := 2110) (by decide +kernel) (by decide +kernel)
theorem kl_L_340 : Cond.methodLink RL 340 yX10_closedCount ∈ WA := WA_of (i := 2114) (by decide +kernel) (by decide +kernel)
theorem kl_L_344 : Cond.methodLink RL 344 yX10_guiltyCount ∈ WA := WA_of (i := 2118) (by decide +kernel) (by decide +kernel)
theorem kl_L_348 : Cond.methodLink RL 348 yX10_decisionCount ∈ WA := WA_of (i := 2122) (by decide +kernel) (by decide +kernel)
theorem kl_L_352 : Cond.methodLink RL 352 yX10_questionTotal ∈ WA := WA_of (i := 2126) (by decide +kernel) (by decide +kernel)
theorem kl_L_356 : Cond.methodLink RL 356 yX10_meanCredibility ∈ WA := WA_of (i := 2130) (by decide +kernel) (by decide +kernel)
theorem kl_L_359 : Cond.methodLink RL 359 yX10_guiltyShare ∈ WA := WA_of (i := 2134) (by decide +kernel) (by decide +kernel)
theorem kl_L_363 : Cond.methodLink RL 363 yX10_isConsistent ∈ WA := WA_of (i := 2138) (by decide +kernel) (by decide +kernel)
theorem kl_L_366 : Cond.methodLink RL 366 yX10_formatCase ∈ WA := WA_of (i := 2142) (by decide +kernel) (by decide +kernel)
theorem kl_X10_159 : Cond.methodLink RX10 159 yX10_writesNumber ∈ WA := WA_of (i := 2146) (by decide +kernel) (by decide +kernel)
theorem kl_X10_163 : Cond.methodLink RX10 163 yX10_writes ∈ WA := WA_of (i := 2150) (by decide +kernel) (by decide +kernel)
theorem kl_L_369 : Cond.methodLink RL 369 yX10_formatWitness ∈ WA := WA_of (i := 2154) (by decide +kernel) (by decide +kernel)
theorem kl_L_372 : Cond.methodLink RL 372 yX10_lineChar ∈ WA := WA_of (i := 2158) (by decide +kernel) (by decide +kernel)
theorem kl_L_376 : Cond.methodLink RL 376 yX10_append ∈ WA := WA_of (i := 2162) (by decide +kernel) (by decide +kernel)
theorem kl_L_379 : Cond.methodLink RL 379 yX10_run ∈ WA := WA_of (i := 2166) (by decide +kernel) (by decide +kernel)
theorem kl_X10_203 : Cond.methodLink RX10 203 yX10_parse ∈ WA := WA_of (i := 2170) (by decide +kernel) (by decide +kernel)
theorem kl_X10_200 : Cond.methodLink RX10 200 yX10_command ∈ WA := WA_of (i := 2174) (by decide +kernel) (by decide +kernel)
theorem kl_X10_175 : Cond.methodLink RX10 175 yX10_sign ∈ WA := WA_of (i := 2178) (by decide +kernel) (by decide +kernel)
theorem kl_X10_191 : Cond.methodLink RX10 191 yX10_word ∈ WA := WA_of (i := 2182) (by decide +kernel) (by decide +kernel)
theorem kl_X10_185 : Cond.methodLink RX10 185 yX10_letters ∈ WA := WA_of (i := 2186) (by decide +kernel) (by decide +kernel)
theorem kl_X10_179 : Cond.methodLink RX10 179 yX10_needs ∈ WA := WA_of (i := 2190) (by decide +kernel) (by decide +kernel)
theorem kl_X10_194 : Cond.methodLink RX10 194 yX10_behind ∈ WA := WA_of (i := 2194) (by decide +kernel) (by decide +kernel)
theorem kl_X10_182 : Cond.methodLink RX10 182 yX10_number ∈ WA := WA_of (i := 2198) (by decide +kernel) (by decide +kernel)
theorem kl_X10_197 : Cond.methodLink RX10 197 yX10_either ∈ WA := WA_of (i := 2202) (by decide +kernel) (by decide +kernel)
theorem kl_X10_206 : Cond.methodLink RX10 206 yX10_does ∈ WA := WA_of (i := 2206) (by decide +kernel) (by decide +kernel)
theorem kl_L_382 : Cond.methodLink RL 382 yX10_errorPosition ∈ WA := WA_of (i := 2210) (by decide +kernel) (by decide +kernel)
theorem kl_L_385 : Cond.methodLink RL 385 yX10_failedCommand ∈ WA := WA_of (i := 2214) (by decide +kernel) (by decide +kernel)
theorem kl_L_388 : Cond.methodLink RL 388 yX10_isFailureOfState ∈ WA := WA_of (i := 2218) (by decide +kernel) (by decide +kernel)
theorem kl_L_392 : Cond.methodLink RL 392 yX10_undoableCount ∈ WA := WA_of (i := 2222) (by decide +kernel) (by decide +kernel)
theorem kl_L_395 : Cond.methodLink RL 395 yX10_undo ∈ WA := WA_of (i := 2226) (by decide +kernel) (by decide +kernel)
theorem kl_L_399 : Cond.methodLink RL 399 yX10_save ∈ WA := WA_of (i := 2230) (by decide +kernel) (by decide +kernel)
theorem kl_L_402 : Cond.methodLink RL 402 yX10_restore ∈ WA := WA_of (i := 2234) (by decide +kernel) (by decide +kernel)
theorem kiiX0_init : Cond.instanceMethod yX0_init ∈ WA := WA_of (i := 131) (by decide +kernel) (by decide +kernel)
theorem kiX0_copyFrom : (Cond.instanceMethod yX0_copyFrom ∈ WA) ∧ (Cond.selects yX0_copyFrom.cls yX0_copyFrom yX0_copyFrom ∈ WA) := ⟨WA_of (i := 591) (by decide +kernel) (by decide +kernel), WA_of (i := 592) (by decide +kernel) (by decide +kernel)⟩
theorem kiX0_faultOf : (Cond.instanceMethod yX0_faultOf ∈ WA) ∧ (Cond.selects yX0_faultOf.cls yX0_faultOf yX0_faultOf ∈ WA) := ⟨WA_of (i := 618) (by decide +kernel) (by decide +kernel), WA_of (i := 619) (by decide +kernel) (by decide +kernel)⟩
theorem kiX0_perform : (Cond.instanceMethod yX0_perform ∈ WA) ∧ (Cond.selects yX0_perform.cls yX0_perform yX0_perform ∈ WA) := ⟨WA_of (i := 816) (by decide +kernel) (by decide +kernel), WA_of (i := 817) (by decide +kernel) (by decide +kernel)⟩
theorem kiX0_faultOfCharge : (Cond.instanceMethod yX0_faultOfCharge ∈ WA) ∧ (Cond.selects yX0_faultOfCharge.cls yX0_faultOfCharge yX0_faultOfCharge ∈ WA) := ⟨WA_of (i := 623) (by decide +kernel) (by decide +kernel), WA_of (i := 10) (by decide +kernel) (by decide +kernel)⟩
theorem kiX0_faultOfWitness : (Cond.instanceMethod yX0_faultOfWitness ∈ WA) ∧ (Cond.selects yX0_faultOfWitness.cls yX0_faultOfWitness yX0_faultOfWitness ∈ WA) := ⟨WA_of (i := 643) (by decide +kernel) (by decide +kernel), WA_of (i := 11) (by decide +kernel) (by decide +kernel)⟩
theorem kiX0_faultOfTestimony : (Cond.instanceMethod yX0_faultOfTestimony ∈ WA) ∧ (Cond.selects yX0_faultOfTestimony.cls yX0_faultOfTestimony yX0_faultOfTestimony ∈ WA) := ⟨WA_of (i := 647) (by decide +kernel) (by decide +kernel), WA_of (i := 12) (by decide +kernel) (by decide +kernel)⟩
theorem kiX0_faultOfQuestion : (Cond.instanceMethod yX0_faultOfQuestion ∈ WA) ∧ (Cond.selects yX0_faultOfQuestion.cls yX0_faultOfQuestion yX0_faultOfQuestion ∈ WA) := ⟨WA_of (i := 662) (by decide +kernel) (by decide +kernel), WA_of (i := 13) (by decide +kernel) (by decide +kernel)⟩
theorem kiX0_faultOfDecision : (Cond.instanceMethod yX0_faultOfDecision ∈ WA) ∧ (Cond.selects yX0_faultOfDecision.cls yX0_faultOfDecision yX0_faultOfDecision ∈ WA) := ⟨WA_of (i := 672) (by decide +kernel) (by decide +kernel), WA_of (i := 14) (by decide +kernel) (by decide +kernel)⟩
theorem kiX0_faultAfterVerdict : (Cond.instanceMethod yX0_faultAfterVerdict ∈ WA) ∧ (Cond.selects yX0_faultAfterVerdict.cls yX0_faultAfterVerdict yX0_faultAfterVerdict ∈ WA) := ⟨WA_of (i := 676) (by decide +kernel) (by decide +kernel), WA_of (i := 15) (by decide +kernel) (by decide +kernel)⟩
theorem kiX0_openCase : (Cond.instanceMethod yX0_openCase ∈ WA) ∧ (Cond.selects yX0_openCase.cls yX0_openCase yX0_openCase ∈ WA) := ⟨WA_of (i := 821) (by decide +kernel) (by decide +kernel), WA_of (i := 18) (by decide +kernel) (by decide +kernel)⟩
theorem kiX0_register : (Cond.instanceMethod yX0_register ∈ WA) ∧ (Cond.selects yX0_register.cls yX0_register yX0_register ∈ WA) := ⟨WA_of (i := 826) (by decide +kernel) (by decide +kernel), WA_of (i := 19) (by decide +kernel) (by decide +kernel)⟩
theorem kiX0_hear : (Cond.instanceMethod yX0_hear ∈ WA) ∧ (Cond.selects yX0_hear.cls yX0_hear yX0_hear ∈ WA) := ⟨WA_of (i := 835) (by decide +kernel) (by decide +kernel), WA_of (i := 20) (by decide +kernel) (by decide +kernel)⟩
theorem kiX0_ask : (Cond.instanceMethod yX0_ask ∈ WA) ∧ (Cond.selects yX0_ask.cls yX0_ask yX0_ask ∈ WA) := ⟨WA_of (i := 844) (by decide +kernel) (by decide +kernel), WA_of (i := 21) (by decide +kernel) (by decide +kernel)⟩
theorem kiX0_judge : (Cond.instanceMethod yX0_judge ∈ WA) ∧ (Cond.selects yX0_judge.cls yX0_judge yX0_judge ∈ WA) := ⟨WA_of (i := 858) (by decide +kernel) (by decide +kernel), WA_of (i := 22) (by decide +kernel) (by decide +kernel)⟩
theorem kiX0_reopen : (Cond.instanceMethod yX0_reopen ∈ WA) ∧ (Cond.selects yX0_reopen.cls yX0_reopen yX0_reopen ∈ WA) := ⟨WA_of (i := 863) (by decide +kernel) (by decide +kernel), WA_of (i := 23) (by decide +kernel) (by decide +kernel)⟩
theorem kiX0_finish : (Cond.instanceMethod yX0_finish ∈ WA) ∧ (Cond.selects yX0_finish.cls yX0_finish yX0_finish ∈ WA) := ⟨WA_of (i := 867) (by decide +kernel) (by decide +kernel), WA_of (i := 24) (by decide +kernel) (by decide +kernel)⟩
theorem kiX0_hasCase : (Cond.instanceMethod yX0_hasCase ∈ WA) ∧ (Cond.selects yX0_hasCase.cls yX0_hasCase yX0_hasCase ∈ WA) := ⟨WA_of (i := 650) (by decide +kernel) (by decide +kernel), WA_of (i := 651) (by decide +kernel) (by decide +kernel)⟩
theorem kiX0_hasWitness : (Cond.instanceMethod yX0_hasWitness ∈ WA) ∧ (Cond.selects yX0_hasWitness.cls yX0_hasWitness yX0_hasWitness ∈ WA) := ⟨WA_of (i := 654) (by decide +kernel) (by decide +kernel), WA_of (i := 655) (by decide +kernel) (by decide +kernel)⟩
theorem kiX0_isIn : (Cond.instanceMethod yX0_isIn ∈ WA) ∧ (Cond.selects yX0_isIn.cls yX0_isIn yX0_isIn ∈ WA) := ⟨WA_of (i := 429) (by decide +kernel) (by decide +kernel), WA_of (i := 430) (by decide +kernel) (by decide +kernel)⟩
theorem kiX0_isFoundGuilty : (Cond.instanceMethod yX0_isFoundGuilty ∈ WA) ∧ (Cond.selects yX0_isFoundGuilty.cls yX0_isFoundGuilty yX0_isFoundGuilty ∈ WA) := ⟨WA_of (i := 446) (by decide +kernel) (by decide +kernel), WA_of (i := 447) (by decide +kernel) (by decide +kernel)⟩
theorem kiX0_severityIn : (Cond.instanceMethod yX0_severityIn ∈ WA) ∧ (Cond.selects yX0_severityIn.cls yX0_severityIn yX0_severityIn ∈ WA) := ⟨WA_of (i := 469) (by decide +kernel) (by decide +kernel), WA_of (i := 470) (by decide +kernel) (by decide +kernel)⟩
theorem kiX0_caseAgainst : (Cond.instanceMethod yX0_caseAgainst ∈ WA) ∧ (Cond.selects yX0_caseAgainst.cls yX0_caseAgainst yX0_caseAgainst ∈ WA) := ⟨WA_of (i := 634) (by decide +kernel) (by decide +kernel), WA_of (i := 635) (by decide +kernel) (by decide +kernel)⟩
theorem ksX0_cellOf : Cond.static yX0_cellOf ∈ WA := WA_of (i := 482) (by decide +kernel) (by decide +kernel)
theorem kiX0_hasHeard : (Cond.instanceMethod yX0_hasHeard ∈ WA) ∧ (Cond.selects yX0_hasHeard.cls yX0_hasHeard yX0_hasHeard ∈ WA) := ⟨WA_of (i := 533) (by decide +kernel) (by decide +kernel), WA_of (i := 534) (by decide +kernel) (by decide +kernel)⟩
theorem kiX0_witnessHeardAt : (Cond.instanceMethod yX0_witnessHeardAt ∈ WA) ∧ (Cond.selects yX0_witnessHeardAt.cls yX0_witnessHeardAt yX0_witnessHeardAt ∈ WA) := ⟨WA_of (i := 474) (by decide +kernel) (by decide +kernel), WA_of (i := 475) (by decide +kernel) (by decide +kernel)⟩
theorem kiX0_sideOf : (Cond.instanceMethod yX0_sideOf ∈ WA) ∧ (Cond.selects yX0_sideOf.cls yX0_sideOf yX0_sideOf ∈ WA) := ⟨WA_of (i := 478) (by decide +kernel) (by decide +kernel), WA_of (i := 479) (by decide +kernel) (by decide +kernel)⟩
theorem kiX0_strengthOf : (Cond.instanceMethod yX0_strengthOf ∈ WA) ∧ (Cond.selects yX0_strengthOf.cls yX0_strengthOf yX0_strengthOf ∈ WA) := ⟨WA_of (i := 495) (by decide +kernel) (by decide +kernel), WA_of (i := 496) (by decide +kernel) (by decide +kernel)⟩
theorem kiX0_weightOf : (Cond.instanceMethod yX0_weightOf ∈ WA) ∧ (Cond.selects yX0_weightOf.cls yX0_weightOf yX0_weightOf ∈ WA) := ⟨WA_of (i := 485) (by decide +kernel) (by decide +kernel), WA_of (i := 486) (by decide +kernel) (by decide +kernel)⟩
theorem kiX0_questionsTo : (Cond.instanceMethod yX0_questionsTo ∈ WA) ∧ (Cond.selects yX0_questionsTo.cls yX0_questionsTo yX0_questionsTo ∈ WA) := ⟨WA_of (i := 667) (by decide +kernel) (by decide +kernel), WA_of (i := 668) (by decide +kernel) (by decide +kernel)⟩
theorem kiX0_casesHearing : (Cond.instanceMethod yX0_casesHearing ∈ WA) ∧ (Cond.selects yX0_casesHearing.cls yX0_casesHearing yX0_casesHearing ∈ WA) := ⟨WA_of (i := 1076) (by decide +kernel) (by decide +kernel), WA_of (i := 1077) (by decide +kernel) (by decide +kernel)⟩
theorem kiX0_agreementOf : (Cond.instanceMethod yX0_agreementOf ∈ WA) ∧ (Cond.selects yX0_agreementOf.cls yX0_agreementOf yX0_agreementOf ∈ WA) := ⟨WA_of (i := 1108) (by decide +kernel) (by decide +kernel), WA_of (i := 1109) (by decide +kernel) (by decide +kernel)⟩
theorem kiX0_witnessOfRank : (Cond.instanceMethod yX0_witnessOfRank ∈ WA) ∧ (Cond.selects yX0_witnessOfRank.cls yX0_witnessOfRank yX0_witnessOfRank ∈ WA) := ⟨WA_of (i := 1087) (by decide +kernel) (by decide +kernel), WA_of (i := 1088) (by decide +kernel) (by decide +kernel)⟩
theorem kiX0_rankOf : (Cond.instanceMethod yX0_rankOf ∈ WA) ∧ (Cond.selects yX0_rankOf.cls yX0_rankOf yX0_rankOf ∈ WA) := ⟨WA_of (i := 1092) (by decide +kernel) (by decide +kernel), WA_of (i := 28) (by decide +kernel) (by decide +kernel)⟩
theorem kiX0_isMoreCredible : (Cond.instanceMethod yX0_isMoreCredible ∈ WA) ∧ (Cond.selects yX0_isMoreCredible.cls yX0_isMoreCredible yX0_isMoreCredible ∈ WA) := ⟨WA_of (i := 1096) (by decide +kernel) (by decide +kernel), WA_of (i := 29) (by decide +kernel) (by decide +kernel)⟩
theorem kiX0_credibilitySum : (Cond.instanceMethod yX0_credibilitySum ∈ WA) ∧ (Cond.selects yX0_credibilitySum.cls yX0_credibilitySum yX0_credibilitySum ∈ WA) := ⟨WA_of (i := 1263) (by decide +kernel) (by decide +kernel), WA_of (i := 1264) (by decide +kernel) (by decide +kernel)⟩
theorem kiX0_addedSentence : (Cond.instanceMethod yX0_addedSentence ∈ WA) ∧ (Cond.selects yX0_addedSentence.cls yX0_addedSentence yX0_addedSentence ∈ WA) := ⟨WA_of (i := 503) (by decide +kernel) (by decide +kernel), WA_of (i := 504) (by decide +kernel) (by decide +kernel)⟩
theorem kiX0_countIn : (Cond.instanceMethod yX0_countIn ∈ WA) ∧ (Cond.selects yX0_countIn.cls yX0_countIn yX0_countIn ∈ WA) := ⟨WA_of (i := 425) (by decide +kernel) (by decide +kernel), WA_of (i := 426) (by decide +kernel) (by decide +kernel)⟩
theorem kiX0_countGuilty : (Cond.instanceMethod yX0_countGuilty ∈ WA) ∧ (Cond.selects yX0_countGuilty.cls yX0_countGuilty yX0_countGuilty ∈ WA) := ⟨WA_of (i := 442) (by decide +kernel) (by decide +kernel), WA_of (i := 443) (by decide +kernel) (by decide +kernel)⟩
theorem kiX0_openCasesBefore : (Cond.instanceMethod yX0_openCasesBefore ∈ WA) ∧ (Cond.selects yX0_openCasesBefore.cls yX0_openCasesBefore yX0_openCasesBefore ∈ WA) := ⟨WA_of (i := 574) (by decide +kernel) (by decide +kernel), WA_of (i := 575) (by decide +kernel) (by decide +kernel)⟩
theorem kiX0_comesBefore : (Cond.instanceMethod yX0_comesBefore ∈ WA) ∧ (Cond.selects yX0_comesBefore.cls yX0_comesBefore yX0_comesBefore ∈ WA) := ⟨WA_of (i := 568) (by decide +kernel) (by decide +kernel), WA_of (i := 569) (by decide +kernel) (by decide +kernel)⟩
theorem kiiX1_init : Cond.instanceMethod yX1_init ∈ WA := WA_of (i := 250) (by decide +kernel) (by decide +kernel)
theorem kiX1_fill : (Cond.instanceMethod yX1_fill ∈ WA) ∧ (Cond.selects yX1_fill.cls yX1_fill yX1_fill ∈ WA) := ⟨WA_of (i := 558) (by decide +kernel) (by decide +kernel), WA_of (i := 559) (by decide +kernel) (by decide +kernel)⟩
theorem kiX1_insert : (Cond.instanceMethod yX1_insert ∈ WA) ∧ (Cond.selects yX1_insert.cls yX1_insert yX1_insert ∈ WA) := ⟨WA_of (i := 564) (by decide +kernel) (by decide +kernel), WA_of (i := 8) (by decide +kernel) (by decide +kernel)⟩
theorem kiX1_holdsAt : (Cond.instanceMethod yX1_holdsAt ∈ WA) ∧ (Cond.selects yX1_holdsAt.cls yX1_holdsAt yX1_holdsAt ∈ WA) := ⟨WA_of (i := 579) (by decide +kernel) (by decide +kernel), WA_of (i := 580) (by decide +kernel) (by decide +kernel)⟩
theorem kiX1_firstHeard : (Cond.instanceMethod yX1_firstHeard ∈ WA) ∧ (Cond.selects yX1_firstHeard.cls yX1_firstHeard yX1_firstHeard ∈ WA) := ⟨WA_of (i := 1157) (by decide +kernel) (by decide +kernel), WA_of (i := 1158) (by decide +kernel) (by decide +kernel)⟩
theorem kiiX3_init : Cond.instanceMethod yX3_init ∈ WA := WA_of (i := 148) (by decide +kernel) (by decide +kernel)
theorem kiX3_found : (Cond.instanceMethod yX3_found ∈ WA) ∧ (Cond.selects yX3_found.cls yX3_found yX3_found ∈ WA) := ⟨WA_of (i := 829) (by decide +kernel) (by decide +kernel), WA_of (i := 830) (by decide +kernel) (by decide +kernel)⟩
theorem kiX3_unite : (Cond.instanceMethod yX3_unite ∈ WA) ∧ (Cond.selects yX3_unite.cls yX3_unite yX3_unite ∈ WA) := ⟨WA_of (i := 839) (by decide +kernel) (by decide +kernel), WA_of (i := 840) (by decide +kernel) (by decide +kernel)⟩
theorem kiX3_areUnited : (Cond.instanceMethod yX3_areUnited ∈ WA) ∧ (Cond.selects yX3_areUnited.cls yX3_areUnited yX3_areUnited ∈ WA) := ⟨WA_of (i := 542) (by decide +kernel) (by decide +kernel), WA_of (i := 543) (by decide +kernel) (by decide +kernel)⟩
theorem kiX3_sizeAround : (Cond.instanceMethod yX3_sizeAround ∈ WA) ∧ (Cond.selects yX3_sizeAround.cls yX3_sizeAround yX3_sizeAround ∈ WA) := ⟨WA_of (i := 1134) (by decide +kernel) (by decide +kernel), WA_of (i := 1135) (by decide +kernel) (by decide +kernel)⟩
theorem kiX3_countAmong : (Cond.instanceMethod yX3_countAmong ∈ WA) ∧ (Cond.selects yX3_countAmong.cls yX3_countAmong yX3_countAmong ∈ WA) := ⟨WA_of (i := 408) (by decide +kernel) (by decide +kernel), WA_of (i := 409) (by decide +kernel) (by decide +kernel)⟩
theorem kiX3_rootOf : (Cond.instanceMethod yX3_rootOf ∈ WA) ∧ (Cond.selects yX3_rootOf.cls yX3_rootOf yX3_rootOf ∈ WA) := ⟨WA_of (i := 547) (by decide +kernel) (by decide +kernel), WA_of (i := 6) (by decide +kernel) (by decide +kernel)⟩
theorem kiiX4_init : Cond.instanceMethod yX4_init ∈ WA := WA_of (i := 230) (by decide +kernel) (by decide +kernel)
theorem kiX4_keep : (Cond.instanceMethod yX4_keep ∈ WA) ∧ (Cond.selects yX4_keep.cls yX4_keep yX4_keep ∈ WA) := ⟨WA_of (i := 806) (by decide +kernel) (by decide +kernel), WA_of (i := 807) (by decide +kernel) (by decide +kernel)⟩
theorem kiX4_takeLatest : (Cond.instanceMethod yX4_takeLatest ∈ WA) ∧ (Cond.selects yX4_takeLatest.cls yX4_takeLatest yX4_takeLatest ∈ WA) := ⟨WA_of (i := 1735) (by decide +kernel) (by decide +kernel), WA_of (i := 1736) (by decide +kernel) (by decide +kernel)⟩
theorem kiX4_forgetAll : (Cond.instanceMethod yX4_forgetAll ∈ WA) ∧ (Cond.selects yX4_forgetAll.cls yX4_forgetAll yX4_forgetAll ∈ WA) := ⟨WA_of (i := 1747) (by decide +kernel) (by decide +kernel), WA_of (i := 1748) (by decide +kernel) (by decide +kernel)⟩
theorem kiX4_placeAt : (Cond.instanceMethod yX4_placeAt ∈ WA) ∧ (Cond.selects yX4_placeAt.cls yX4_placeAt yX4_placeAt ∈ WA) := ⟨WA_of (i := 811) (by decide +kernel) (by decide +kernel), WA_of (i := 17) (by decide +kernel) (by decide +kernel)⟩
theorem kiiX5_init : Cond.instanceMethod yX5_init ∈ WA := WA_of (i := 285) (by decide +kernel) (by decide +kernel)
theorem kiX5_parse : (Cond.instanceMethod yX5_parse ∈ WA) ∧ (Cond.selects yX5_parse.cls yX5_parse yX5_parse ∈ WA) := ⟨WA_of (i := 1607) (by decide +kernel) (by decide +kernel), WA_of (i := 1608) (by decide +kernel) (by decide +kernel)⟩
theorem kiX5_readKeyword : (Cond.instanceMethod yX5_readKeyword ∈ WA) ∧ (Cond.selects yX5_readKeyword.cls yX5_readKeyword yX5_readKeyword ∈ WA) := ⟨WA_of (i := 1612) (by decide +kernel) (by decide +kernel), WA_of (i := 32) (by decide +kernel) (by decide +kernel)⟩
theorem kiX5_followed : (Cond.instanceMethod yX5_followed ∈ WA) ∧ (Cond.selects yX5_followed.cls yX5_followed yX5_followed ∈ WA) := ⟨WA_of (i := 1626) (by decide +kernel) (by decide +kernel), WA_of (i := 33) (by decide +kernel) (by decide +kernel)⟩
theorem ksX5_keywordOf : Cond.static yX5_keywordOf ∈ WA := WA_of (i := 1615) (by decide +kernel) (by decide +kernel)
theorem kiX5_readArguments : (Cond.instanceMethod yX5_readArguments ∈ WA) ∧ (Cond.selects yX5_readArguments.cls yX5_readArguments yX5_readArguments ∈ WA) := ⟨WA_of (i := 1652) (by decide +kernel) (by decide +kernel), WA_of (i := 35) (by decide +kernel) (by decide +kernel)⟩
theorem kiX5_readCaseAndWitness : (Cond.instanceMethod yX5_readCaseAndWitness ∈ WA) ∧ (Cond.selects yX5_readCaseAndWitness.cls yX5_readCaseAndWitness yX5_readCaseAndWitness ∈ WA) := ⟨WA_of (i := 1665) (by decide +kernel) (by decide +kernel), WA_of (i := 38) (by decide +kernel) (by decide +kernel)⟩
theorem kiX5_readNumber : (Cond.instanceMethod yX5_readNumber ∈ WA) ∧ (Cond.selects yX5_readNumber.cls yX5_readNumber yX5_readNumber ∈ WA) := ⟨WA_of (i := 1669) (by decide +kernel) (by decide +kernel), WA_of (i := 39) (by decide +kernel) (by decide +kernel)⟩
theorem kiX5_readDigit : (Cond.instanceMethod yX5_readDigit ∈ WA) ∧ (Cond.selects yX5_readDigit.cls yX5_readDigit yX5_readDigit ∈ WA) := ⟨WA_of (i := 1656) (by decide +kernel) (by decide +kernel), WA_of (i := 36) (by decide +kernel) (by decide +kernel)⟩
theorem kiX5_readFlag : (Cond.instanceMethod yX5_readFlag ∈ WA) ∧ (Cond.selects yX5_readFlag.cls yX5_readFlag yX5_readFlag ∈ WA) := ⟨WA_of (i := 1675) (by decide +kernel) (by decide +kernel), WA_of (i := 40) (by decide +kernel) (by decide +kernel)⟩
theorem kiX5_readSign : (Cond.instanceMethod yX5_readSign ∈ WA) ∧ (Cond.selects yX5_readSign.cls yX5_readSign yX5_readSign ∈ WA) := ⟨WA_of (i := 1661) (by decide +kernel) (by decide +kernel), WA_of (i := 37) (by decide +kernel) (by decide +kernel)⟩
theorem kiX5_signAt : (Cond.instanceMethod yX5_signAt ∈ WA) ∧ (Cond.selects yX5_signAt.cls yX5_signAt yX5_signAt ∈ WA) := ⟨WA_of (i := 1631) (by decide +kernel) (by decide +kernel), WA_of (i := 34) (by decide +kernel) (by decide +kernel)⟩
theorem kiiX6_init : Cond.instanceMethod yX6_init ∈ WA := WA_of (i := 137) (by decide +kernel) (by decide +kernel)
theorem kiX6_get : (Cond.instanceMethod yX6_get ∈ WA) ∧ (Cond.selects yX6_get.cls yX6_get yX6_get ∈ WA) := ⟨WA_of (i := 412) (by decide +kernel) (by decide +kernel), WA_of (i := 413) (by decide +kernel) (by decide +kernel)⟩
theorem kiX6_put : (Cond.instanceMethod yX6_put ∈ WA) ∧ (Cond.selects yX6_put.cls yX6_put yX6_put ∈ WA) := ⟨WA_of (i := 525) (by decide +kernel) (by decide +kernel), WA_of (i := 526) (by decide +kernel) (by decide +kernel)⟩
theorem kiX6_add : (Cond.instanceMethod yX6_add ∈ WA) ∧ (Cond.selects yX6_add.cls yX6_add yX6_add ∈ WA) := ⟨WA_of (i := 851) (by decide +kernel) (by decide +kernel), WA_of (i := 852) (by decide +kernel) (by decide +kernel)⟩
theorem kiX6_clear : (Cond.instanceMethod yX6_clear ∈ WA) ∧ (Cond.selects yX6_clear.cls yX6_clear yX6_clear ∈ WA) := ⟨WA_of (i := 516) (by decide +kernel) (by decide +kernel), WA_of (i := 517) (by decide +kernel) (by decide +kernel)⟩
theorem kiX6_copyFrom : (Cond.instanceMethod yX6_copyFrom ∈ WA) ∧ (Cond.selects yX6_copyFrom.cls yX6_copyFrom yX6_copyFrom ∈ WA) := ⟨WA_of (i := 595) (by decide +kernel) (by decide +kernel), WA_of (i := 596) (by decide +kernel) (by decide +kernel)⟩
theorem kiiX7_init : Cond.instanceMethod yX7_init ∈ WA := WA_of (i := 267) (by decide +kernel) (by decide +kernel)
theorem kiX7_startAt : (Cond.instanceMethod yX7_startAt ∈ WA) ∧ (Cond.selects yX7_startAt.cls yX7_startAt yX7_startAt ∈ WA) := ⟨WA_of (i := 512) (by decide +kernel) (by decide +kernel), WA_of (i := 513) (by decide +kernel) (by decide +kernel)⟩
theorem kiX7_hasReached : (Cond.instanceMethod yX7_hasReached ∈ WA) ∧ (Cond.selects yX7_hasReached.cls yX7_hasReached yX7_hasReached ∈ WA) := ⟨WA_of (i := 550) (by decide +kernel) (by decide +kernel), WA_of (i := 551) (by decide +kernel) (by decide +kernel)⟩
theorem kiX7_spreadFrom : (Cond.instanceMethod yX7_spreadFrom ∈ WA) ∧ (Cond.selects yX7_spreadFrom.cls yX7_spreadFrom yX7_spreadFrom ∈ WA) := ⟨WA_of (i := 530) (by decide +kernel) (by decide +kernel), WA_of (i := 4) (by decide +kernel) (by decide +kernel)⟩
theorem kiX7_reachAllOf : (Cond.instanceMethod yX7_reachAllOf ∈ WA) ∧ (Cond.selects yX7_reachAllOf.cls yX7_reachAllOf yX7_reachAllOf ∈ WA) := ⟨WA_of (i := 538) (by decide +kernel) (by decide +kernel), WA_of (i := 5) (by decide +kernel) (by decide +kernel)⟩
theorem kiX7_reach : (Cond.instanceMethod yX7_reach ∈ WA) ∧ (Cond.selects yX7_reach.cls yX7_reach yX7_reach ∈ WA) := ⟨WA_of (i := 521) (by decide +kernel) (by decide +kernel), WA_of (i := 3) (by decide +kernel) (by decide +kernel)⟩
theorem ksX8_ofSide : Cond.static yX8_ofSide ∈ WA := WA_of (i := 1169) (by decide +kernel) (by decide +kernel)
theorem ksX8_marginByTestimony : Cond.static yX8_marginByTestimony ∈ WA := WA_of (i := 466) (by decide +kernel) (by decide +kernel)
theorem ksX8_marginByLevel : Cond.static yX8_marginByLevel ∈ WA := WA_of (i := 489) (by decide +kernel) (by decide +kernel)
theorem ksX8_signedStrengthsAt : Cond.static yX8_signedStrengthsAt ∈ WA := WA_of (i := 492) (by decide +kernel) (by decide +kernel)
theorem ksX8_heaviestIn : Cond.static yX8_heaviestIn ∈ WA := WA_of (i := 1147) (by decide +kernel) (by decide +kernel)
theorem ksX8_firmAnswersNeeded : Cond.static yX8_firmAnswersNeeded ∈ WA := WA_of (i := 1200) (by decide +kernel) (by decide +kernel)
theorem kiiX9_init : Cond.instanceMethod yX9_init ∈ WA := WA_of (i := 123) (by decide +kernel) (by decide +kernel)
theorem kiX9_charge : (Cond.instanceMethod yX9_charge ∈ WA) ∧ (Cond.selects yX9_charge.cls yX9_charge yX9_charge ∈ WA) := ⟨WA_of (i := 610) (by decide +kernel) (by decide +kernel), WA_of (i := 611) (by decide +kernel) (by decide +kernel)⟩
theorem kiX9_addWitness : (Cond.instanceMethod yX9_addWitness ∈ WA) ∧ (Cond.selects yX9_addWitness.cls yX9_addWitness yX9_addWitness ∈ WA) := ⟨WA_of (i := 874) (by decide +kernel) (by decide +kernel), WA_of (i := 875) (by decide +kernel) (by decide +kernel)⟩
theorem kiX9_testify : (Cond.instanceMethod yX9_testify ∈ WA) ∧ (Cond.selects yX9_testify.cls yX9_testify yX9_testify ∈ WA) := ⟨WA_of (i := 902) (by decide +kernel) (by decide +kernel), WA_of (i := 903) (by decide +kernel) (by decide +kernel)⟩
theorem kiX9_question : (Cond.instanceMethod yX9_question ∈ WA) ∧ (Cond.selects yX9_question.cls yX9_question yX9_question ∈ WA) := ⟨WA_of (i := 910) (by decide +kernel) (by decide +kernel), WA_of (i := 911) (by decide +kernel) (by decide +kernel)⟩
theorem kiX9_decide : (Cond.instanceMethod yX9_decide ∈ WA) ∧ (Cond.selects yX9_decide.cls yX9_decide yX9_decide ∈ WA) := ⟨WA_of (i := 917) (by decide +kernel) (by decide +kernel), WA_of (i := 918) (by decide +kernel) (by decide +kernel)⟩
theorem kiX9_appeal : (Cond.instanceMethod yX9_appeal ∈ WA) ∧ (Cond.selects yX9_appeal.cls yX9_appeal yX9_appeal ∈ WA) := ⟨WA_of (i := 924) (by decide +kernel) (by decide +kernel), WA_of (i := 925) (by decide +kernel) (by decide +kernel)⟩
theorem kiX9_close : (Cond.instanceMethod yX9_close ∈ WA) ∧ (Cond.selects yX9_close.cls yX9_close yX9_close ∈ WA) := ⟨WA_of (i := 931) (by decide +kernel) (by decide +kernel), WA_of (i := 932) (by decide +kernel) (by decide +kernel)⟩
theorem kiX9_caseCount : (Cond.instanceMethod yX9_caseCount ∈ WA) ∧ (Cond.selects yX9_caseCount.cls yX9_caseCount yX9_caseCount ∈ WA) := ⟨WA_of (i := 396) (by decide +kernel) (by decide +kernel), WA_of (i := 397) (by decide +kernel) (by decide +kernel)⟩
theorem kiX9_caseOf : (Cond.instanceMethod yX9_caseOf ∈ WA) ∧ (Cond.selects yX9_caseOf.cls yX9_caseOf yX9_caseOf ∈ WA) := ⟨WA_of (i := 938) (by decide +kernel) (by decide +kernel), WA_of (i := 939) (by decide +kernel) (by decide +kernel)⟩
theorem kiX9_defendantOf : (Cond.instanceMethod yX9_defendantOf ∈ WA) ∧ (Cond.selects yX9_defendantOf.cls yX9_defendantOf yX9_defendantOf ∈ WA) := ⟨WA_of (i := 950) (by decide +kernel) (by decide +kernel), WA_of (i := 951) (by decide +kernel) (by decide +kernel)⟩
theorem kiX9_offenceOf : (Cond.instanceMethod yX9_offenceOf ∈ WA) ∧ (Cond.selects yX9_offenceOf.cls yX9_offenceOf yX9_offenceOf ∈ WA) := ⟨WA_of (i := 963) (by decide +kernel) (by decide +kernel), WA_of (i := 964) (by decide +kernel) (by decide +kernel)⟩
theorem kiX9_isOpen : (Cond.instanceMethod yX9_isOpen ∈ WA) ∧ (Cond.selects yX9_isOpen.cls yX9_isOpen yX9_isOpen ∈ WA) := ⟨WA_of (i := 970) (by decide +kernel) (by decide +kernel), WA_of (i := 971) (by decide +kernel) (by decide +kernel)⟩
theorem kiX9_isDecided : (Cond.instanceMethod yX9_isDecided ∈ WA) ∧ (Cond.selects yX9_isDecided.cls yX9_isDecided yX9_isDecided ∈ WA) := ⟨WA_of (i := 977) (by decide +kernel) (by decide +kernel), WA_of (i := 978) (by decide +kernel) (by decide +kernel)⟩
theorem kiX9_isClosed : (Cond.instanceMethod yX9_isClosed ∈ WA) ∧ (Cond.selects yX9_isClosed.cls yX9_isClosed yX9_isClosed ∈ WA) := ⟨WA_of (i := 984) (by decide +kernel) (by decide +kernel), WA_of (i := 985) (by decide +kernel) (by decide +kernel)⟩
theorem kiX9_isGuilty : (Cond.instanceMethod yX9_isGuilty ∈ WA) ∧ (Cond.selects yX9_isGuilty.cls yX9_isGuilty yX9_isGuilty ∈ WA) := ⟨WA_of (i := 991) (by decide +kernel) (by decide +kernel), WA_of (i := 992) (by decide +kernel) (by decide +kernel)⟩
theorem kiX9_appealCount : (Cond.instanceMethod yX9_appealCount ∈ WA) ∧ (Cond.selects yX9_appealCount.cls yX9_appealCount yX9_appealCount ∈ WA) := ⟨WA_of (i := 1000) (by decide +kernel) (by decide +kernel), WA_of (i := 1001) (by decide +kernel) (by decide +kernel)⟩
theorem kiX9_testimonyCount : (Cond.instanceMethod yX9_testimonyCount ∈ WA) ∧ (Cond.selects yX9_testimonyCount.cls yX9_testimonyCount yX9_testimonyCount ∈ WA) := ⟨WA_of (i := 1007) (by decide +kernel) (by decide +kernel), WA_of (i := 1008) (by decide +kernel) (by decide +kernel)⟩
theorem kiX9_witnessAt : (Cond.instanceMethod yX9_witnessAt ∈ WA) ∧ (Cond.selects yX9_witnessAt.cls yX9_witnessAt yX9_witnessAt ∈ WA) := ⟨WA_of (i := 1014) (by decide +kernel) (by decide +kernel), WA_of (i := 1015) (by decide +kernel) (by decide +kernel)⟩
theorem kiX9_hasTestified : (Cond.instanceMethod yX9_hasTestified ∈ WA) ∧ (Cond.selects yX9_hasTestified.cls yX9_hasTestified yX9_hasTestified ∈ WA) := ⟨WA_of (i := 1023) (by decide +kernel) (by decide +kernel), WA_of (i := 1024) (by decide +kernel) (by decide +kernel)⟩
theorem kiX9_isForProsecution : (Cond.instanceMethod yX9_isForProsecution ∈ WA) ∧ (Cond.selects yX9_isForProsecution.cls yX9_isForProsecution yX9_isForProsecution ∈ WA) := ⟨WA_of (i := 1037) (by decide +kernel) (by decide +kernel), WA_of (i := 1038) (by decide +kernel) (by decide +kernel)⟩
theorem kiX9_strength : (Cond.instanceMethod yX9_strength ∈ WA) ∧ (Cond.selects yX9_strength.cls yX9_strength yX9_strength ∈ WA) := ⟨WA_of (i := 1049) (by decide +kernel) (by decide +kernel), WA_of (i := 1050) (by decide +kernel) (by decide +kernel)⟩
theorem kiX9_questionCount : (Cond.instanceMethod yX9_questionCount ∈ WA) ∧ (Cond.selects yX9_questionCount.cls yX9_questionCount yX9_questionCount ∈ WA) := ⟨WA_of (i := 1057) (by decide +kernel) (by decide +kernel), WA_of (i := 1058) (by decide +kernel) (by decide +kernel)⟩
theorem kiX9_witnessCount : (Cond.instanceMethod yX9_witnessCount ∈ WA) ∧ (Cond.selects yX9_witnessCount.cls yX9_witnessCount yX9_witnessCount ∈ WA) := ⟨WA_of (i := 400) (by decide +kernel) (by decide +kernel), WA_of (i := 401) (by decide +kernel) (by decide +kernel)⟩
theorem kiX9_credibility : (Cond.instanceMethod yX9_credibility ∈ WA) ∧ (Cond.selects yX9_credibility.cls yX9_credibility yX9_credibility ∈ WA) := ⟨WA_of (i := 1065) (by decide +kernel) (by decide +kernel), WA_of (i := 1066) (by decide +kernel) (by decide +kernel)⟩
theorem kiX9_casesOfWitness : (Cond.instanceMethod yX9_casesOfWitness ∈ WA) ∧ (Cond.selects yX9_casesOfWitness.cls yX9_casesOfWitness yX9_casesOfWitness ∈ WA) := ⟨WA_of (i := 1072) (by decide +kernel) (by decide +kernel), WA_of (i := 1073) (by decide +kernel) (by decide +kernel)⟩
theorem kiX9_mostCredible : (Cond.instanceMethod yX9_mostCredible ∈ WA) ∧ (Cond.selects yX9_mostCredible.cls yX9_mostCredible yX9_mostCredible ∈ WA) := ⟨WA_of (i := 1083) (by decide +kernel) (by decide +kernel), WA_of (i := 1084) (by decide +kernel) (by decide +kernel)⟩
theorem kiX9_agreement : (Cond.instanceMethod yX9_agreement ∈ WA) ∧ (Cond.selects yX9_agreement.cls yX9_agreement yX9_agreement ∈ WA) := ⟨WA_of (i := 1104) (by decide +kernel) (by decide +kernel), WA_of (i := 1105) (by decide +kernel) (by decide +kernel)⟩
theorem kiX9_areConnected : (Cond.instanceMethod yX9_areConnected ∈ WA) ∧ (Cond.selects yX9_areConnected.cls yX9_areConnected yX9_areConnected ∈ WA) := ⟨WA_of (i := 1116) (by decide +kernel) (by decide +kernel), WA_of (i := 1117) (by decide +kernel) (by decide +kernel)⟩
theorem kiX9_areConnectedBySearch : (Cond.instanceMethod yX9_areConnectedBySearch ∈ WA) ∧ (Cond.selects yX9_areConnectedBySearch.cls yX9_areConnectedBySearch yX9_areConnectedBySearch ∈ WA) := ⟨WA_of (i := 1123) (by decide +kernel) (by decide +kernel), WA_of (i := 1124) (by decide +kernel) (by decide +kernel)⟩
theorem kiX9_groupSize : (Cond.instanceMethod yX9_groupSize ∈ WA) ∧ (Cond.selects yX9_groupSize.cls yX9_groupSize yX9_groupSize ∈ WA) := ⟨WA_of (i := 1130) (by decide +kernel) (by decide +kernel), WA_of (i := 1131) (by decide +kernel) (by decide +kernel)⟩
theorem kiX9_groupCount : (Cond.instanceMethod yX9_groupCount ∈ WA) ∧ (Cond.selects yX9_groupCount.cls yX9_groupCount yX9_groupCount ∈ WA) := ⟨WA_of (i := 404) (by decide +kernel) (by decide +kernel), WA_of (i := 405) (by decide +kernel) (by decide +kernel)⟩
theorem kiX9_heaviestWitness : (Cond.instanceMethod yX9_heaviestWitness ∈ WA) ∧ (Cond.selects yX9_heaviestWitness.cls yX9_heaviestWitness yX9_heaviestWitness ∈ WA) := ⟨WA_of (i := 1142) (by decide +kernel) (by decide +kernel), WA_of (i := 1143) (by decide +kernel) (by decide +kernel)⟩
theorem kiX9_nextToDecide : (Cond.instanceMethod yX9_nextToDecide ∈ WA) ∧ (Cond.selects yX9_nextToDecide.cls yX9_nextToDecide yX9_nextToDecide ∈ WA) := ⟨WA_of (i := 1153) (by decide +kernel) (by decide +kernel), WA_of (i := 1154) (by decide +kernel) (by decide +kernel)⟩
theorem kiX9_prosecutionWeight : (Cond.instanceMethod yX9_prosecutionWeight ∈ WA) ∧ (Cond.selects yX9_prosecutionWeight.cls yX9_prosecutionWeight yX9_prosecutionWeight ∈ WA) := ⟨WA_of (i := 1165) (by decide +kernel) (by decide +kernel), WA_of (i := 1166) (by decide +kernel) (by decide +kernel)⟩
theorem kiX9_defenceWeight : (Cond.instanceMethod yX9_defenceWeight ∈ WA) ∧ (Cond.selects yX9_defenceWeight.cls yX9_defenceWeight yX9_defenceWeight ∈ WA) := ⟨WA_of (i := 1175) (by decide +kernel) (by decide +kernel), WA_of (i := 1176) (by decide +kernel) (by decide +kernel)⟩
theorem kiX9_margin : (Cond.instanceMethod yX9_margin ∈ WA) ∧ (Cond.selects yX9_margin.cls yX9_margin yX9_margin ∈ WA) := ⟨WA_of (i := 1182) (by decide +kernel) (by decide +kernel), WA_of (i := 1183) (by decide +kernel) (by decide +kernel)⟩
theorem kiX9_marginByCredibility : (Cond.instanceMethod yX9_marginByCredibility ∈ WA) ∧ (Cond.selects yX9_marginByCredibility.cls yX9_marginByCredibility yX9_marginByCredibility ∈ WA) := ⟨WA_of (i := 1189) (by decide +kernel) (by decide +kernel), WA_of (i := 1190) (by decide +kernel) (by decide +kernel)⟩
theorem kiX9_firmAnswersToGuilty : (Cond.instanceMethod yX9_firmAnswersToGuilty ∈ WA) ∧ (Cond.selects yX9_firmAnswersToGuilty.cls yX9_firmAnswersToGuilty yX9_firmAnswersToGuilty ∈ WA) := ⟨WA_of (i := 1196) (by decide +kernel) (by decide +kernel), WA_of (i := 1197) (by decide +kernel) (by decide +kernel)⟩
theorem kiX9_sentence : (Cond.instanceMethod yX9_sentence ∈ WA) ∧ (Cond.selects yX9_sentence.cls yX9_sentence yX9_sentence ∈ WA) := ⟨WA_of (i := 1208) (by decide +kernel) (by decide +kernel), WA_of (i := 1209) (by decide +kernel) (by decide +kernel)⟩
theorem kiX9_sentenceByCases : (Cond.instanceMethod yX9_sentenceByCases ∈ WA) ∧ (Cond.selects yX9_sentenceByCases.cls yX9_sentenceByCases yX9_sentenceByCases ∈ WA) := ⟨WA_of (i := 1219) (by decide +kernel) (by decide +kernel), WA_of (i := 1220) (by decide +kernel) (by decide +kernel)⟩
theorem kiX9_mostSentenced : (Cond.instanceMethod yX9_mostSentenced ∈ WA) ∧ (Cond.selects yX9_mostSentenced.cls yX9_mostSentenced yX9_mostSentenced ∈ WA) := ⟨WA_of (i := 416) (by decide +kernel) (by decide +kernel), WA_of (i := 417) (by decide +kernel) (by decide +kernel)⟩
theorem kiX9_docketLength : (Cond.instanceMethod yX9_docketLength ∈ WA) ∧ (Cond.selects yX9_docketLength.cls yX9_docketLength yX9_docketLength ∈ WA) := ⟨WA_of (i := 421) (by decide +kernel) (by decide +kernel), WA_of (i := 422) (by decide +kernel) (by decide +kernel)⟩
theorem kiX9_docketAt : (Cond.instanceMethod yX9_docketAt ∈ WA) ∧ (Cond.selects yX9_docketAt.cls yX9_docketAt yX9_docketAt ∈ WA) := ⟨WA_of (i := 1226) (by decide +kernel) (by decide +kernel), WA_of (i := 1227) (by decide +kernel) (by decide +kernel)⟩
theorem kiX9_docketPosition : (Cond.instanceMethod yX9_docketPosition ∈ WA) ∧ (Cond.selects yX9_docketPosition.cls yX9_docketPosition yX9_docketPosition ∈ WA) := ⟨WA_of (i := 1234) (by decide +kernel) (by decide +kernel), WA_of (i := 1235) (by decide +kernel) (by decide +kernel)⟩
theorem kiX9_closedCount : (Cond.instanceMethod yX9_closedCount ∈ WA) ∧ (Cond.selects yX9_closedCount.cls yX9_closedCount yX9_closedCount ∈ WA) := ⟨WA_of (i := 434) (by decide +kernel) (by decide +kernel), WA_of (i := 435) (by decide +kernel) (by decide +kernel)⟩
theorem kiX9_guiltyCount : (Cond.instanceMethod yX9_guiltyCount ∈ WA) ∧ (Cond.selects yX9_guiltyCount.cls yX9_guiltyCount yX9_guiltyCount ∈ WA) := ⟨WA_of (i := 438) (by decide +kernel) (by decide +kernel), WA_of (i := 439) (by decide +kernel) (by decide +kernel)⟩
theorem kiX9_decisionCount : (Cond.instanceMethod yX9_decisionCount ∈ WA) ∧ (Cond.selects yX9_decisionCount.cls yX9_decisionCount yX9_decisionCount ∈ WA) := ⟨WA_of (i := 450) (by decide +kernel) (by decide +kernel), WA_of (i := 451) (by decide +kernel) (by decide +kernel)⟩
theorem kiX9_questionTotal : (Cond.instanceMethod yX9_questionTotal ∈ WA) ∧ (Cond.selects yX9_questionTotal.cls yX9_questionTotal yX9_questionTotal ∈ WA) := ⟨WA_of (i := 454) (by decide +kernel) (by decide +kernel), WA_of (i := 455) (by decide +kernel) (by decide +kernel)⟩
theorem kiX9_meanCredibility : (Cond.instanceMethod yX9_meanCredibility ∈ WA) ∧ (Cond.selects yX9_meanCredibility.cls yX9_meanCredibility yX9_meanCredibility ∈ WA) := ⟨WA_of (i := 1256) (by decide +kernel) (by decide +kernel), WA_of (i := 1257) (by decide +kernel) (by decide +kernel)⟩
theorem kiX9_guiltyShare : (Cond.instanceMethod yX9_guiltyShare ∈ WA) ∧ (Cond.selects yX9_guiltyShare.cls yX9_guiltyShare yX9_guiltyShare ∈ WA) := ⟨WA_of (i := 1270) (by decide +kernel) (by decide +kernel), WA_of (i := 1271) (by decide +kernel) (by decide +kernel)⟩
theorem kiX9_isConsistent : (Cond.instanceMethod yX9_isConsistent ∈ WA) ∧ (Cond.selects yX9_isConsistent.cls yX9_isConsistent yX9_isConsistent ∈ WA) := ⟨WA_of (i := 458) (by decide +kernel) (by decide +kernel), WA_of (i := 459) (by decide +kernel) (by decide +kernel)⟩
theorem kiX9_formatCase : (Cond.instanceMethod yX9_formatCase ∈ WA) ∧ (Cond.selects yX9_formatCase.cls yX9_formatCase yX9_formatCase ∈ WA) := ⟨WA_of (i := 1278) (by decide +kernel) (by decide +kernel), WA_of (i := 1279) (by decide +kernel) (by decide +kernel)⟩
theorem kiX9_formatWitness : (Cond.instanceMethod yX9_formatWitness ∈ WA) ∧ (Cond.selects yX9_formatWitness.cls yX9_formatWitness yX9_formatWitness ∈ WA) := ⟨WA_of (i := 1568) (by decide +kernel) (by decide +kernel), WA_of (i := 1569) (by decide +kernel) (by decide +kernel)⟩
theorem kiX9_lineChar : (Cond.instanceMethod yX9_lineChar ∈ WA) ∧ (Cond.selects yX9_lineChar.cls yX9_lineChar yX9_lineChar ∈ WA) := ⟨WA_of (i := 1575) (by decide +kernel) (by decide +kernel), WA_of (i := 1576) (by decide +kernel) (by decide +kernel)⟩
theorem kiX9_append : (Cond.instanceMethod yX9_append ∈ WA) ∧ (Cond.selects yX9_append.cls yX9_append yX9_append ∈ WA) := ⟨WA_of (i := 1593) (by decide +kernel) (by decide +kernel), WA_of (i := 1594) (by decide +kernel) (by decide +kernel)⟩
theorem kiX9_run : (Cond.instanceMethod yX9_run ∈ WA) ∧ (Cond.selects yX9_run.cls yX9_run yX9_run ∈ WA) := ⟨WA_of (i := 1603) (by decide +kernel) (by decide +kernel), WA_of (i := 1604) (by decide +kernel) (by decide +kernel)⟩
theorem kiX9_errorPosition : (Cond.instanceMethod yX9_errorPosition ∈ WA) ∧ (Cond.selects yX9_errorPosition.cls yX9_errorPosition yX9_errorPosition ∈ WA) := ⟨WA_of (i := 1703) (by decide +kernel) (by decide +kernel), WA_of (i := 1704) (by decide +kernel) (by decide +kernel)⟩
theorem kiX9_failedCommand : (Cond.instanceMethod yX9_failedCommand ∈ WA) ∧ (Cond.selects yX9_failedCommand.cls yX9_failedCommand yX9_failedCommand ∈ WA) := ⟨WA_of (i := 1711) (by decide +kernel) (by decide +kernel), WA_of (i := 1712) (by decide +kernel) (by decide +kernel)⟩
theorem kiX9_isFailureOfState : (Cond.instanceMethod yX9_isFailureOfState ∈ WA) ∧ (Cond.selects yX9_isFailureOfState.cls yX9_isFailureOfState yX9_isFailureOfState ∈ WA) := ⟨WA_of (i := 1723) (by decide +kernel) (by decide +kernel), WA_of (i := 1724) (by decide +kernel) (by decide +kernel)⟩
theorem kiX9_undoableCount : (Cond.instanceMethod yX9_undoableCount ∈ WA) ∧ (Cond.selects yX9_undoableCount.cls yX9_undoableCount yX9_undoableCount ∈ WA) := ⟨WA_of (i := 583) (by decide +kernel) (by decide +kernel), WA_of (i := 584) (by decide +kernel) (by decide +kernel)⟩
theorem kiX9_undo : (Cond.instanceMethod yX9_undo ∈ WA) ∧ (Cond.selects yX9_undo.cls yX9_undo yX9_undo ∈ WA) := ⟨WA_of (i := 1730) (by decide +kernel) (by decide +kernel), WA_of (i := 1731) (by decide +kernel) (by decide +kernel)⟩
theorem kiX9_save : (Cond.instanceMethod yX9_save ∈ WA) ∧ (Cond.selects yX9_save.cls yX9_save yX9_save ∈ WA) := ⟨WA_of (i := 587) (by decide +kernel) (by decide +kernel), WA_of (i := 588) (by decide +kernel) (by decide +kernel)⟩
theorem kiX9_restore : (Cond.instanceMethod yX9_restore ∈ WA) ∧ (Cond.selects yX9_restore.cls yX9_restore yX9_restore ∈ WA) := ⟨WA_of (i := 1742) (by decide +kernel) (by decide +kernel), WA_of (i := 1743) (by decide +kernel) (by decide +kernel)⟩
theorem kiX9_change : (Cond.instanceMethod yX9_change ∈ WA) ∧ (Cond.selects yX9_change.cls yX9_change yX9_change ∈ WA) := ⟨WA_of (i := 615) (by decide +kernel) (by decide +kernel), WA_of (i := 9) (by decide +kernel) (by decide +kernel)⟩
theorem ksX9_refuse : Cond.static yX9_refuse ∈ WA := WA_of (i := 679) (by decide +kernel) (by decide +kernel)
theorem kiX9_executeProgram : (Cond.instanceMethod yX9_executeProgram ∈ WA) ∧ (Cond.selects yX9_executeProgram.cls yX9_executeProgram yX9_executeProgram ∈ WA) := ⟨WA_of (i := 1680) (by decide +kernel) (by decide +kernel), WA_of (i := 41) (by decide +kernel) (by decide +kernel)⟩
theorem kiX9_needCase : (Cond.instanceMethod yX9_needCase ∈ WA) ∧ (Cond.selects yX9_needCase.cls yX9_needCase yX9_needCase ∈ WA) := ⟨WA_of (i := 955) (by decide +kernel) (by decide +kernel), WA_of (i := 25) (by decide +kernel) (by decide +kernel)⟩
theorem kiX9_needWitness : (Cond.instanceMethod yX9_needWitness ∈ WA) ∧ (Cond.selects yX9_needWitness.cls yX9_needWitness yX9_needWitness ∈ WA) := ⟨WA_of (i := 1028) (by decide +kernel) (by decide +kernel), WA_of (i := 26) (by decide +kernel) (by decide +kernel)⟩
theorem kiX9_needTestimony : (Cond.instanceMethod yX9_needTestimony ∈ WA) ∧ (Cond.selects yX9_needTestimony.cls yX9_needTestimony yX9_needTestimony ∈ WA) := ⟨WA_of (i := 1042) (by decide +kernel) (by decide +kernel), WA_of (i := 27) (by decide +kernel) (by decide +kernel)⟩
theorem kiX9_needFailure : (Cond.instanceMethod yX9_needFailure ∈ WA) ∧ (Cond.selects yX9_needFailure.cls yX9_needFailure yX9_needFailure ∈ WA) := ⟨WA_of (i := 1716) (by decide +kernel) (by decide +kernel), WA_of (i := 42) (by decide +kernel) (by decide +kernel)⟩
theorem ksX9_needDefendant : Cond.static yX9_needDefendant ∈ WA := WA_of (i := 1212) (by decide +kernel) (by decide +kernel)
theorem ksX9_isDefendant : Cond.static yX9_isDefendant ∈ WA := WA_of (i := 626) (by decide +kernel) (by decide +kernel)
theorem ksX9_isOffence : Cond.static yX9_isOffence ∈ WA := WA_of (i := 629) (by decide +kernel) (by decide +kernel)
theorem kiX9_writeHead : (Cond.instanceMethod yX9_writeHead ∈ WA) ∧ (Cond.selects yX9_writeHead.cls yX9_writeHead yX9_writeHead ∈ WA) := ⟨WA_of (i := 1534) (by decide +kernel) (by decide +kernel), WA_of (i := 30) (by decide +kernel) (by decide +kernel)⟩
theorem kiX9_writeTestimony : (Cond.instanceMethod yX9_writeTestimony ∈ WA) ∧ (Cond.selects yX9_writeTestimony.cls yX9_writeTestimony yX9_writeTestimony ∈ WA) := ⟨WA_of (i := 1561) (by decide +kernel) (by decide +kernel), WA_of (i := 31) (by decide +kernel) (by decide +kernel)⟩
theorem kiX9_doMarginsAgree : (Cond.instanceMethod yX9_doMarginsAgree ∈ WA) ∧ (Cond.selects yX9_doMarginsAgree.cls yX9_doMarginsAgree yX9_doMarginsAgree ∈ WA) := ⟨WA_of (i := 463) (by decide +kernel) (by decide +kernel), WA_of (i := 0) (by decide +kernel) (by decide +kernel)⟩
theorem kiX9_doSentencesAgree : (Cond.instanceMethod yX9_doSentencesAgree ∈ WA) ∧ (Cond.selects yX9_doSentencesAgree.cls yX9_doSentencesAgree yX9_doSentencesAgree ∈ WA) := ⟨WA_of (i := 500) (by decide +kernel) (by decide +kernel), WA_of (i := 1) (by decide +kernel) (by decide +kernel)⟩
theorem kiX9_doConnectionsAgree : (Cond.instanceMethod yX9_doConnectionsAgree ∈ WA) ∧ (Cond.selects yX9_doConnectionsAgree.cls yX9_doConnectionsAgree yX9_doConnectionsAgree ∈ WA) := ⟨WA_of (i := 509) (by decide +kernel) (by decide +kernel), WA_of (i := 2) (by decide +kernel) (by decide +kernel)⟩
theorem kiX9_doesDocketAgree : (Cond.instanceMethod yX9_doesDocketAgree ∈ WA) ∧ (Cond.selects yX9_doesDocketAgree.cls yX9_doesDocketAgree yX9_doesDocketAgree ∈ WA) := ⟨WA_of (i := 555) (by decide +kernel) (by decide +kernel), WA_of (i := 7) (by decide +kernel) (by decide +kernel)⟩
theorem kiiX10_init : Cond.instanceMethod yX10_init ∈ WA := WA_of (i := 1753) (by decide +kernel) (by decide +kernel)
theorem kiX10_thrown : (Cond.instanceMethod yX10_thrown ∈ WA) ∧ (Cond.selects yX10_thrown.cls yX10_thrown yX10_thrown ∈ WA) := ⟨WA_of (i := 1807) (by decide +kernel) (by decide +kernel), WA_of (i := 1808) (by decide +kernel) (by decide +kernel)⟩
theorem ksX10_in : Cond.static yX10_in ∈ WA := WA_of (i := 1830) (by decide +kernel) (by decide +kernel)
theorem kiX10_copies : (Cond.instanceMethod yX10_copies ∈ WA) ∧ (Cond.selects yX10_copies.cls yX10_copies yX10_copies ∈ WA) := ⟨WA_of (i := 1820) (by decide +kernel) (by decide +kernel), WA_of (i := 44) (by decide +kernel) (by decide +kernel)⟩
theorem kiX10_begins : (Cond.instanceMethod yX10_begins ∈ WA) ∧ (Cond.selects yX10_begins.cls yX10_begins yX10_begins ∈ WA) := ⟨WA_of (i := 1816) (by decide +kernel) (by decide +kernel), WA_of (i := 43) (by decide +kernel) (by decide +kernel)⟩
theorem kiX10_ends : (Cond.instanceMethod yX10_ends ∈ WA) ∧ (Cond.selects yX10_ends.cls yX10_ends yX10_ends ∈ WA) := ⟨WA_of (i := 1849) (by decide +kernel) (by decide +kernel), WA_of (i := 49) (by decide +kernel) (by decide +kernel)⟩
theorem kiX10_isFine : (Cond.instanceMethod yX10_isFine ∈ WA) ∧ (Cond.selects yX10_isFine.cls yX10_isFine yX10_isFine ∈ WA) := ⟨WA_of (i := 1953) (by decide +kernel) (by decide +kernel), WA_of (i := 66) (by decide +kernel) (by decide +kernel)⟩
theorem kiX10_c : (Cond.instanceMethod yX10_c ∈ WA) ∧ (Cond.selects yX10_c.cls yX10_c yX10_c ∈ WA) := ⟨WA_of (i := 1841) (by decide +kernel) (by decide +kernel), WA_of (i := 47) (by decide +kernel) (by decide +kernel)⟩
theorem kiX10_set : (Cond.instanceMethod yX10_set ∈ WA) ∧ (Cond.selects yX10_set.cls yX10_set yX10_set ∈ WA) := ⟨WA_of (i := 1845) (by decide +kernel) (by decide +kernel), WA_of (i := 48) (by decide +kernel) (by decide +kernel)⟩
theorem kiX10_t : (Cond.instanceMethod yX10_t ∈ WA) ∧ (Cond.selects yX10_t.cls yX10_t yX10_t ∈ WA) := ⟨WA_of (i := 1881) (by decide +kernel) (by decide +kernel), WA_of (i := 55) (by decide +kernel) (by decide +kernel)⟩
theorem kiX10_isCase : (Cond.instanceMethod yX10_isCase ∈ WA) ∧ (Cond.selects yX10_isCase.cls yX10_isCase yX10_isCase ∈ WA) := ⟨WA_of (i := 1869) (by decide +kernel) (by decide +kernel), WA_of (i := 52) (by decide +kernel) (by decide +kernel)⟩
theorem kiX10_isWitness : (Cond.instanceMethod yX10_isWitness ∈ WA) ∧ (Cond.selects yX10_isWitness.cls yX10_isWitness yX10_isWitness ∈ WA) := ⟨WA_of (i := 1873) (by decide +kernel) (by decide +kernel), WA_of (i := 53) (by decide +kernel) (by decide +kernel)⟩
theorem kiX10_spokenBy : (Cond.instanceMethod yX10_spokenBy ∈ WA) ∧ (Cond.selects yX10_spokenBy.cls yX10_spokenBy yX10_spokenBy ∈ WA) := ⟨WA_of (i := 1877) (by decide +kernel) (by decide +kernel), WA_of (i := 54) (by decide +kernel) (by decide +kernel)⟩
theorem kiX10_severity : (Cond.instanceMethod yX10_severity ∈ WA) ∧ (Cond.selects yX10_severity.cls yX10_severity yX10_severity ∈ WA) := ⟨WA_of (i := 1913) (by decide +kernel) (by decide +kernel), WA_of (i := 61) (by decide +kernel) (by decide +kernel)⟩
theorem kiX10_weightAt : (Cond.instanceMethod yX10_weightAt ∈ WA) ∧ (Cond.selects yX10_weightAt.cls yX10_weightAt yX10_weightAt ∈ WA) := ⟨WA_of (i := 1909) (by decide +kernel) (by decide +kernel), WA_of (i := 60) (by decide +kernel) (by decide +kernel)⟩
theorem kiX10_weightOf : (Cond.instanceMethod yX10_weightOf ∈ WA) ∧ (Cond.selects yX10_weightOf.cls yX10_weightOf yX10_weightOf ∈ WA) := ⟨WA_of (i := 1905) (by decide +kernel) (by decide +kernel), WA_of (i := 59) (by decide +kernel) (by decide +kernel)⟩
theorem kiX10_marginOf : (Cond.instanceMethod yX10_marginOf ∈ WA) ∧ (Cond.selects yX10_marginOf.cls yX10_marginOf yX10_marginOf ∈ WA) := ⟨WA_of (i := 1901) (by decide +kernel) (by decide +kernel), WA_of (i := 58) (by decide +kernel) (by decide +kernel)⟩
theorem kiX10_findCase : (Cond.instanceMethod yX10_findCase ∈ WA) ∧ (Cond.selects yX10_findCase.cls yX10_findCase yX10_findCase ∈ WA) := ⟨WA_of (i := 1837) (by decide +kernel) (by decide +kernel), WA_of (i := 46) (by decide +kernel) (by decide +kernel)⟩
theorem ksX10_isDefendant : Cond.static yX10_isDefendant ∈ WA := WA_of (i := 1827) (by decide +kernel) (by decide +kernel)
theorem ksX10_isOffence : Cond.static yX10_isOffence ∈ WA := WA_of (i := 1833) (by decide +kernel) (by decide +kernel)
theorem kiX10_charges : (Cond.instanceMethod yX10_charges ∈ WA) ∧ (Cond.selects yX10_charges.cls yX10_charges yX10_charges ∈ WA) := ⟨WA_of (i := 1824) (by decide +kernel) (by decide +kernel), WA_of (i := 45) (by decide +kernel) (by decide +kernel)⟩
theorem kiX10_charge : (Cond.instanceMethod yX10_charge ∈ WA) ∧ (Cond.selects yX10_charge.cls yX10_charge yX10_charge ∈ WA) := ⟨WA_of (i := 1811) (by decide +kernel) (by decide +kernel), WA_of (i := 1812) (by decide +kernel) (by decide +kernel)⟩
theorem kiX10_registers : (Cond.instanceMethod yX10_registers ∈ WA) ∧ (Cond.selects yX10_registers.cls yX10_registers yX10_registers ∈ WA) := ⟨WA_of (i := 1857) (by decide +kernel) (by decide +kernel), WA_of (i := 50) (by decide +kernel) (by decide +kernel)⟩
theorem kiX10_addWitness : (Cond.instanceMethod yX10_addWitness ∈ WA) ∧ (Cond.selects yX10_addWitness.cls yX10_addWitness yX10_addWitness ∈ WA) := ⟨WA_of (i := 1852) (by decide +kernel) (by decide +kernel), WA_of (i := 1853) (by decide +kernel) (by decide +kernel)⟩
theorem kiX10_testifies : (Cond.instanceMethod yX10_testifies ∈ WA) ∧ (Cond.selects yX10_testifies.cls yX10_testifies yX10_testifies ∈ WA) := ⟨WA_of (i := 1865) (by decide +kernel) (by decide +kernel), WA_of (i := 51) (by decide +kernel) (by decide +kernel)⟩
theorem kiX10_testify : (Cond.instanceMethod yX10_testify ∈ WA) ∧ (Cond.selects yX10_testify.cls yX10_testify yX10_testify ∈ WA) := ⟨WA_of (i := 1860) (by decide +kernel) (by decide +kernel), WA_of (i := 1861) (by decide +kernel) (by decide +kernel)⟩
theorem kiX10_asks : (Cond.instanceMethod yX10_asks ∈ WA) ∧ (Cond.selects yX10_asks.cls yX10_asks yX10_asks ∈ WA) := ⟨WA_of (i := 1889) (by decide +kernel) (by decide +kernel), WA_of (i := 56) (by decide +kernel) (by decide +kernel)⟩
theorem kiX10_question : (Cond.instanceMethod yX10_question ∈ WA) ∧ (Cond.selects yX10_question.cls yX10_question yX10_question ∈ WA) := ⟨WA_of (i := 1884) (by decide +kernel) (by decide +kernel), WA_of (i := 1885) (by decide +kernel) (by decide +kernel)⟩
theorem kiX10_decides : (Cond.instanceMethod yX10_decides ∈ WA) ∧ (Cond.selects yX10_decides.cls yX10_decides yX10_decides ∈ WA) := ⟨WA_of (i := 1897) (by decide +kernel) (by decide +kernel), WA_of (i := 57) (by decide +kernel) (by decide +kernel)⟩
theorem kiX10_decide : (Cond.instanceMethod yX10_decide ∈ WA) ∧ (Cond.selects yX10_decide.cls yX10_decide yX10_decide ∈ WA) := ⟨WA_of (i := 1892) (by decide +kernel) (by decide +kernel), WA_of (i := 1893) (by decide +kernel) (by decide +kernel)⟩
theorem kiX10_appeals : (Cond.instanceMethod yX10_appeals ∈ WA) ∧ (Cond.selects yX10_appeals.cls yX10_appeals yX10_appeals ∈ WA) := ⟨WA_of (i := 1921) (by decide +kernel) (by decide +kernel), WA_of (i := 62) (by decide +kernel) (by decide +kernel)⟩
theorem kiX10_appeal : (Cond.instanceMethod yX10_appeal ∈ WA) ∧ (Cond.selects yX10_appeal.cls yX10_appeal yX10_appeal ∈ WA) := ⟨WA_of (i := 1916) (by decide +kernel) (by decide +kernel), WA_of (i := 1917) (by decide +kernel) (by decide +kernel)⟩
theorem kiX10_inPhase : (Cond.instanceMethod yX10_inPhase ∈ WA) ∧ (Cond.selects yX10_inPhase.cls yX10_inPhase yX10_inPhase ∈ WA) := ⟨WA_of (i := 1933) (by decide +kernel) (by decide +kernel), WA_of (i := 64) (by decide +kernel) (by decide +kernel)⟩
theorem kiX10_closes : (Cond.instanceMethod yX10_closes ∈ WA) ∧ (Cond.selects yX10_closes.cls yX10_closes yX10_closes ∈ WA) := ⟨WA_of (i := 1929) (by decide +kernel) (by decide +kernel), WA_of (i := 63) (by decide +kernel) (by decide +kernel)⟩
theorem kiX10_close : (Cond.instanceMethod yX10_close ∈ WA) ∧ (Cond.selects yX10_close.cls yX10_close yX10_close ∈ WA) := ⟨WA_of (i := 1924) (by decide +kernel) (by decide +kernel), WA_of (i := 1925) (by decide +kernel) (by decide +kernel)⟩
theorem kiX10_caseCount : (Cond.instanceMethod yX10_caseCount ∈ WA) ∧ (Cond.selects yX10_caseCount.cls yX10_caseCount yX10_caseCount ∈ WA) := ⟨WA_of (i := 1936) (by decide +kernel) (by decide +kernel), WA_of (i := 1937) (by decide +kernel) (by decide +kernel)⟩
theorem kiX10_caseOf : (Cond.instanceMethod yX10_caseOf ∈ WA) ∧ (Cond.selects yX10_caseOf.cls yX10_caseOf yX10_caseOf ∈ WA) := ⟨WA_of (i := 1940) (by decide +kernel) (by decide +kernel), WA_of (i := 1941) (by decide +kernel) (by decide +kernel)⟩
theorem kiX10_ofCase : (Cond.instanceMethod yX10_ofCase ∈ WA) ∧ (Cond.selects yX10_ofCase.cls yX10_ofCase yX10_ofCase ∈ WA) := ⟨WA_of (i := 1949) (by decide +kernel) (by decide +kernel), WA_of (i := 65) (by decide +kernel) (by decide +kernel)⟩
theorem kiX10_defendantOf : (Cond.instanceMethod yX10_defendantOf ∈ WA) ∧ (Cond.selects yX10_defendantOf.cls yX10_defendantOf yX10_defendantOf ∈ WA) := ⟨WA_of (i := 1944) (by decide +kernel) (by decide +kernel), WA_of (i := 1945) (by decide +kernel) (by decide +kernel)⟩
theorem kiX10_offenceOf : (Cond.instanceMethod yX10_offenceOf ∈ WA) ∧ (Cond.selects yX10_offenceOf.cls yX10_offenceOf yX10_offenceOf ∈ WA) := ⟨WA_of (i := 1956) (by decide +kernel) (by decide +kernel), WA_of (i := 1957) (by decide +kernel) (by decide +kernel)⟩
theorem kiX10_isOpen : (Cond.instanceMethod yX10_isOpen ∈ WA) ∧ (Cond.selects yX10_isOpen.cls yX10_isOpen yX10_isOpen ∈ WA) := ⟨WA_of (i := 1960) (by decide +kernel) (by decide +kernel), WA_of (i := 1961) (by decide +kernel) (by decide +kernel)⟩
theorem kiX10_isDecided : (Cond.instanceMethod yX10_isDecided ∈ WA) ∧ (Cond.selects yX10_isDecided.cls yX10_isDecided yX10_isDecided ∈ WA) := ⟨WA_of (i := 1964) (by decide +kernel) (by decide +kernel), WA_of (i := 1965) (by decide +kernel) (by decide +kernel)⟩
theorem kiX10_isClosed : (Cond.instanceMethod yX10_isClosed ∈ WA) ∧ (Cond.selects yX10_isClosed.cls yX10_isClosed yX10_isClosed ∈ WA) := ⟨WA_of (i := 1968) (by decide +kernel) (by decide +kernel), WA_of (i := 1969) (by decide +kernel) (by decide +kernel)⟩
theorem kiX10_isGuilty : (Cond.instanceMethod yX10_isGuilty ∈ WA) ∧ (Cond.selects yX10_isGuilty.cls yX10_isGuilty yX10_isGuilty ∈ WA) := ⟨WA_of (i := 1972) (by decide +kernel) (by decide +kernel), WA_of (i := 1973) (by decide +kernel) (by decide +kernel)⟩
theorem kiX10_appealCount : (Cond.instanceMethod yX10_appealCount ∈ WA) ∧ (Cond.selects yX10_appealCount.cls yX10_appealCount yX10_appealCount ∈ WA) := ⟨WA_of (i := 1976) (by decide +kernel) (by decide +kernel), WA_of (i := 1977) (by decide +kernel) (by decide +kernel)⟩
theorem kiX10_testimonyCount : (Cond.instanceMethod yX10_testimonyCount ∈ WA) ∧ (Cond.selects yX10_testimonyCount.cls yX10_testimonyCount yX10_testimonyCount ∈ WA) := ⟨WA_of (i := 1980) (by decide +kernel) (by decide +kernel), WA_of (i := 1981) (by decide +kernel) (by decide +kernel)⟩
theorem kiX10_witnessAt : (Cond.instanceMethod yX10_witnessAt ∈ WA) ∧ (Cond.selects yX10_witnessAt.cls yX10_witnessAt yX10_witnessAt ∈ WA) := ⟨WA_of (i := 1984) (by decide +kernel) (by decide +kernel), WA_of (i := 1985) (by decide +kernel) (by decide +kernel)⟩
theorem kiX10_hasTestified : (Cond.instanceMethod yX10_hasTestified ∈ WA) ∧ (Cond.selects yX10_hasTestified.cls yX10_hasTestified yX10_hasTestified ∈ WA) := ⟨WA_of (i := 1988) (by decide +kernel) (by decide +kernel), WA_of (i := 1989) (by decide +kernel) (by decide +kernel)⟩
theorem kiX10_ofTestimony : (Cond.instanceMethod yX10_ofTestimony ∈ WA) ∧ (Cond.selects yX10_ofTestimony.cls yX10_ofTestimony yX10_ofTestimony ∈ WA) := ⟨WA_of (i := 1997) (by decide +kernel) (by decide +kernel), WA_of (i := 67) (by decide +kernel) (by decide +kernel)⟩
theorem kiX10_isForProsecution : (Cond.instanceMethod yX10_isForProsecution ∈ WA) ∧ (Cond.selects yX10_isForProsecution.cls yX10_isForProsecution yX10_isForProsecution ∈ WA) := ⟨WA_of (i := 1992) (by decide +kernel) (by decide +kernel), WA_of (i := 1993) (by decide +kernel) (by decide +kernel)⟩
theorem kiX10_strength : (Cond.instanceMethod yX10_strength ∈ WA) ∧ (Cond.selects yX10_strength.cls yX10_strength yX10_strength ∈ WA) := ⟨WA_of (i := 2000) (by decide +kernel) (by decide +kernel), WA_of (i := 2001) (by decide +kernel) (by decide +kernel)⟩
theorem kiX10_questionCount : (Cond.instanceMethod yX10_questionCount ∈ WA) ∧ (Cond.selects yX10_questionCount.cls yX10_questionCount yX10_questionCount ∈ WA) := ⟨WA_of (i := 2004) (by decide +kernel) (by decide +kernel), WA_of (i := 2005) (by decide +kernel) (by decide +kernel)⟩
theorem kiX10_witnessCount : (Cond.instanceMethod yX10_witnessCount ∈ WA) ∧ (Cond.selects yX10_witnessCount.cls yX10_witnessCount yX10_witnessCount ∈ WA) := ⟨WA_of (i := 2008) (by decide +kernel) (by decide +kernel), WA_of (i := 2009) (by decide +kernel) (by decide +kernel)⟩
theorem kiX10_credibility : (Cond.instanceMethod yX10_credibility ∈ WA) ∧ (Cond.selects yX10_credibility.cls yX10_credibility yX10_credibility ∈ WA) := ⟨WA_of (i := 2012) (by decide +kernel) (by decide +kernel), WA_of (i := 2013) (by decide +kernel) (by decide +kernel)⟩
theorem kiX10_casesBy : (Cond.instanceMethod yX10_casesBy ∈ WA) ∧ (Cond.selects yX10_casesBy.cls yX10_casesBy yX10_casesBy ∈ WA) := ⟨WA_of (i := 2021) (by decide +kernel) (by decide +kernel), WA_of (i := 68) (by decide +kernel) (by decide +kernel)⟩
theorem kiX10_casesOfWitness : (Cond.instanceMethod yX10_casesOfWitness ∈ WA) ∧ (Cond.selects yX10_casesOfWitness.cls yX10_casesOfWitness yX10_casesOfWitness ∈ WA) := ⟨WA_of (i := 2016) (by decide +kernel) (by decide +kernel), WA_of (i := 2017) (by decide +kernel) (by decide +kernel)⟩
theorem kiX10_mostCredible : (Cond.instanceMethod yX10_mostCredible ∈ WA) ∧ (Cond.selects yX10_mostCredible.cls yX10_mostCredible yX10_mostCredible ∈ WA) := ⟨WA_of (i := 2024) (by decide +kernel) (by decide +kernel), WA_of (i := 2025) (by decide +kernel) (by decide +kernel)⟩
theorem kiX10_agreement : (Cond.instanceMethod yX10_agreement ∈ WA) ∧ (Cond.selects yX10_agreement.cls yX10_agreement yX10_agreement ∈ WA) := ⟨WA_of (i := 2028) (by decide +kernel) (by decide +kernel), WA_of (i := 2029) (by decide +kernel) (by decide +kernel)⟩
theorem kiX10_groupOf : (Cond.instanceMethod yX10_groupOf ∈ WA) ∧ (Cond.selects yX10_groupOf.cls yX10_groupOf yX10_groupOf ∈ WA) := ⟨WA_of (i := 2037) (by decide +kernel) (by decide +kernel), WA_of (i := 69) (by decide +kernel) (by decide +kernel)⟩
theorem kiX10_areConnected : (Cond.instanceMethod yX10_areConnected ∈ WA) ∧ (Cond.selects yX10_areConnected.cls yX10_areConnected yX10_areConnected ∈ WA) := ⟨WA_of (i := 2032) (by decide +kernel) (by decide +kernel), WA_of (i := 2033) (by decide +kernel) (by decide +kernel)⟩
theorem kiX10_areConnectedBySearch : (Cond.instanceMethod yX10_areConnectedBySearch ∈ WA) ∧ (Cond.selects yX10_areConnectedBySearch.cls yX10_areConnectedBySearch yX10_areConnectedBySearch ∈ WA) := ⟨WA_of (i := 2040) (by decide +kernel) (by decide +kernel), WA_of (i := 2041) (by decide +kernel) (by decide +kernel)⟩
theorem kiX10_groupSize : (Cond.instanceMethod yX10_groupSize ∈ WA) ∧ (Cond.selects yX10_groupSize.cls yX10_groupSize yX10_groupSize ∈ WA) := ⟨WA_of (i := 2045) (by decide +kernel) (by decide +kernel), WA_of (i := 2046) (by decide +kernel) (by decide +kernel)⟩
theorem kiX10_groupCount : (Cond.instanceMethod yX10_groupCount ∈ WA) ∧ (Cond.selects yX10_groupCount.cls yX10_groupCount yX10_groupCount ∈ WA) := ⟨WA_of (i := 2049) (by decide +kernel) (by decide +kernel), WA_of (i := 2050) (by decide +kernel) (by decide +kernel)⟩
theorem kiX10_heaviestWitness : (Cond.instanceMethod yX10_heaviestWitness ∈ WA) ∧ (Cond.selects yX10_heaviestWitness.cls yX10_heaviestWitness yX10_heaviestWitness ∈ WA) := ⟨WA_of (i := 2053) (by decide +kernel) (by decide +kernel), WA_of (i := 2054) (by decide +kernel) (by decide +kernel)⟩
theorem kiX10_prosecutionWeight : (Cond.instanceMethod yX10_prosecutionWeight ∈ WA) ∧ (Cond.selects yX10_prosecutionWeight.cls yX10_prosecutionWeight yX10_prosecutionWeight ∈ WA) := ⟨WA_of (i := 2057) (by decide +kernel) (by decide +kernel), WA_of (i := 2058) (by decide +kernel) (by decide +kernel)⟩
theorem kiX10_defenceWeight : (Cond.instanceMethod yX10_defenceWeight ∈ WA) ∧ (Cond.selects yX10_defenceWeight.cls yX10_defenceWeight yX10_defenceWeight ∈ WA) := ⟨WA_of (i := 2061) (by decide +kernel) (by decide +kernel), WA_of (i := 2062) (by decide +kernel) (by decide +kernel)⟩
theorem kiX10_margin : (Cond.instanceMethod yX10_margin ∈ WA) ∧ (Cond.selects yX10_margin.cls yX10_margin yX10_margin ∈ WA) := ⟨WA_of (i := 2065) (by decide +kernel) (by decide +kernel), WA_of (i := 2066) (by decide +kernel) (by decide +kernel)⟩
theorem kiX10_marginByCredibility : (Cond.instanceMethod yX10_marginByCredibility ∈ WA) ∧ (Cond.selects yX10_marginByCredibility.cls yX10_marginByCredibility yX10_marginByCredibility ∈ WA) := ⟨WA_of (i := 2069) (by decide +kernel) (by decide +kernel), WA_of (i := 2070) (by decide +kernel) (by decide +kernel)⟩
theorem kiX10_firmAnswersToGuilty : (Cond.instanceMethod yX10_firmAnswersToGuilty ∈ WA) ∧ (Cond.selects yX10_firmAnswersToGuilty.cls yX10_firmAnswersToGuilty yX10_firmAnswersToGuilty ∈ WA) := ⟨WA_of (i := 2074) (by decide +kernel) (by decide +kernel), WA_of (i := 2075) (by decide +kernel) (by decide +kernel)⟩
theorem kiX10_sentenceOf : (Cond.instanceMethod yX10_sentenceOf ∈ WA) ∧ (Cond.selects yX10_sentenceOf.cls yX10_sentenceOf yX10_sentenceOf ∈ WA) := ⟨WA_of (i := 2083) (by decide +kernel) (by decide +kernel), WA_of (i := 70) (by decide +kernel) (by decide +kernel)⟩
theorem kiX10_sentence : (Cond.instanceMethod yX10_sentence ∈ WA) ∧ (Cond.selects yX10_sentence.cls yX10_sentence yX10_sentence ∈ WA) := ⟨WA_of (i := 2078) (by decide +kernel) (by decide +kernel), WA_of (i := 2079) (by decide +kernel) (by decide +kernel)⟩
theorem kiX10_sentenceByCases : (Cond.instanceMethod yX10_sentenceByCases ∈ WA) ∧ (Cond.selects yX10_sentenceByCases.cls yX10_sentenceByCases yX10_sentenceByCases ∈ WA) := ⟨WA_of (i := 2086) (by decide +kernel) (by decide +kernel), WA_of (i := 2087) (by decide +kernel) (by decide +kernel)⟩
theorem kiX10_mostSentenced : (Cond.instanceMethod yX10_mostSentenced ∈ WA) ∧ (Cond.selects yX10_mostSentenced.cls yX10_mostSentenced yX10_mostSentenced ∈ WA) := ⟨WA_of (i := 2091) (by decide +kernel) (by decide +kernel), WA_of (i := 2092) (by decide +kernel) (by decide +kernel)⟩
theorem kiX10_rankOf : (Cond.instanceMethod yX10_rankOf ∈ WA) ∧ (Cond.selects yX10_rankOf.cls yX10_rankOf yX10_rankOf ∈ WA) := ⟨WA_of (i := 2104) (by decide +kernel) (by decide +kernel), WA_of (i := 71) (by decide +kernel) (by decide +kernel)⟩
theorem kiX10_docketLength : (Cond.instanceMethod yX10_docketLength ∈ WA) ∧ (Cond.selects yX10_docketLength.cls yX10_docketLength yX10_docketLength ∈ WA) := ⟨WA_of (i := 2095) (by decide +kernel) (by decide +kernel), WA_of (i := 2096) (by decide +kernel) (by decide +kernel)⟩
theorem kiX10_docketAt : (Cond.instanceMethod yX10_docketAt ∈ WA) ∧ (Cond.selects yX10_docketAt.cls yX10_docketAt yX10_docketAt ∈ WA) := ⟨WA_of (i := 2099) (by decide +kernel) (by decide +kernel), WA_of (i := 2100) (by decide +kernel) (by decide +kernel)⟩
theorem kiX10_docketPosition : (Cond.instanceMethod yX10_docketPosition ∈ WA) ∧ (Cond.selects yX10_docketPosition.cls yX10_docketPosition yX10_docketPosition ∈ WA) := ⟨WA_of (i := 2107) (by decide +kernel) (by decide +kernel), WA_of (i := 2108) (by decide +kernel) (by decide +kernel)⟩
theorem kiX10_nextToDecide : (Cond.instanceMethod yX10_nextToDecide ∈ WA) ∧ (Cond.selects yX10_nextToDecide.cls yX10_nextToDecide yX10_nextToDecide ∈ WA) := ⟨WA_of (i := 2111) (by decide +kernel) (by decide +kernel), WA_of (i := 2112) (by decide +kernel) (by decide +kernel)⟩
theorem kiX10_closedCount : (Cond.instanceMethod yX10_closedCount ∈ WA) ∧ (Cond.selects yX10_closedCount.cls yX10_closedCount yX10_closedCount ∈ WA) := ⟨WA_of (i := 2115) (by decide +kernel) (by decide +kernel), WA_of (i := 2116) (by decide +kernel) (by decide +kernel)⟩
theorem kiX10_guiltyCount : (Cond.instanceMethod yX10_guiltyCount ∈ WA) ∧ (Cond.selects yX10_guiltyCount.cls yX10_guiltyCount yX10_guiltyCount ∈ WA) := ⟨WA_of (i := 2119) (by decide +kernel) (by decide +kernel), WA_of (i := 2120) (by decide +kernel) (by decide +kernel)⟩
theorem kiX10_decisionCount : (Cond.instanceMethod yX10_decisionCount ∈ WA) ∧ (Cond.selects yX10_decisionCount.cls yX10_decisionCount yX10_decisionCount ∈ WA) := ⟨WA_of (i := 2123) (by decide +kernel) (by decide +kernel), WA_of (i := 2124) (by decide +kernel) (by decide +kernel)⟩
theorem kiX10_questionTotal : (Cond.instanceMethod yX10_questionTotal ∈ WA) ∧ (Cond.selects yX10_questionTotal.cls yX10_questionTotal yX10_questionTotal ∈ WA) := ⟨WA_of (i := 2127) (by decide +kernel) (by decide +kernel), WA_of (i := 2128) (by decide +kernel) (by decide +kernel)⟩
theorem kiX10_meanCredibility : (Cond.instanceMethod yX10_meanCredibility ∈ WA) ∧ (Cond.selects yX10_meanCredibility.cls yX10_meanCredibility yX10_meanCredibility ∈ WA) := ⟨WA_of (i := 2131) (by decide +kernel) (by decide +kernel), WA_of (i := 2132) (by decide +kernel) (by decide +kernel)⟩
theorem kiX10_guiltyShare : (Cond.instanceMethod yX10_guiltyShare ∈ WA) ∧ (Cond.selects yX10_guiltyShare.cls yX10_guiltyShare yX10_guiltyShare ∈ WA) := ⟨WA_of (i := 2135) (by decide +kernel) (by decide +kernel), WA_of (i := 2136) (by decide +kernel) (by decide +kernel)⟩
theorem kiX10_isConsistent : (Cond.instanceMethod yX10_isConsistent ∈ WA) ∧ (Cond.selects yX10_isConsistent.cls yX10_isConsistent yX10_isConsistent ∈ WA) := ⟨WA_of (i := 2139) (by decide +kernel) (by decide +kernel), WA_of (i := 2140) (by decide +kernel) (by decide +kernel)⟩
theorem kiX10_writes : (Cond.instanceMethod yX10_writes ∈ WA) ∧ (Cond.selects yX10_writes.cls yX10_writes yX10_writes ∈ WA) := ⟨WA_of (i := 2152) (by decide +kernel) (by decide +kernel), WA_of (i := 73) (by decide +kernel) (by decide +kernel)⟩
theorem kiX10_writesNumber : (Cond.instanceMethod yX10_writesNumber ∈ WA) ∧ (Cond.selects yX10_writesNumber.cls yX10_writesNumber yX10_writesNumber ∈ WA) := ⟨WA_of (i := 2148) (by decide +kernel) (by decide +kernel), WA_of (i := 72) (by decide +kernel) (by decide +kernel)⟩
theorem kiX10_formatCase : (Cond.instanceMethod yX10_formatCase ∈ WA) ∧ (Cond.selects yX10_formatCase.cls yX10_formatCase yX10_formatCase ∈ WA) := ⟨WA_of (i := 2143) (by decide +kernel) (by decide +kernel), WA_of (i := 2144) (by decide +kernel) (by decide +kernel)⟩
theorem kiX10_formatWitness : (Cond.instanceMethod yX10_formatWitness ∈ WA) ∧ (Cond.selects yX10_formatWitness.cls yX10_formatWitness yX10_formatWitness ∈ WA) := ⟨WA_of (i := 2155) (by decide +kernel) (by decide +kernel), WA_of (i := 2156) (by decide +kernel) (by decide +kernel)⟩
theorem kiX10_lineChar : (Cond.instanceMethod yX10_lineChar ∈ WA) ∧ (Cond.selects yX10_lineChar.cls yX10_lineChar yX10_lineChar ∈ WA) := ⟨WA_of (i := 2159) (by decide +kernel) (by decide +kernel), WA_of (i := 2160) (by decide +kernel) (by decide +kernel)⟩
theorem kiX10_append : (Cond.instanceMethod yX10_append ∈ WA) ∧ (Cond.selects yX10_append.cls yX10_append yX10_append ∈ WA) := ⟨WA_of (i := 2163) (by decide +kernel) (by decide +kernel), WA_of (i := 2164) (by decide +kernel) (by decide +kernel)⟩
theorem kiX10_sign : (Cond.instanceMethod yX10_sign ∈ WA) ∧ (Cond.selects yX10_sign.cls yX10_sign yX10_sign ∈ WA) := ⟨WA_of (i := 2180) (by decide +kernel) (by decide +kernel), WA_of (i := 76) (by decide +kernel) (by decide +kernel)⟩
theorem kiX10_needs : (Cond.instanceMethod yX10_needs ∈ WA) ∧ (Cond.selects yX10_needs.cls yX10_needs yX10_needs ∈ WA) := ⟨WA_of (i := 2192) (by decide +kernel) (by decide +kernel), WA_of (i := 79) (by decide +kernel) (by decide +kernel)⟩
theorem kiX10_letters : (Cond.instanceMethod yX10_letters ∈ WA) ∧ (Cond.selects yX10_letters.cls yX10_letters yX10_letters ∈ WA) := ⟨WA_of (i := 2188) (by decide +kernel) (by decide +kernel), WA_of (i := 78) (by decide +kernel) (by decide +kernel)⟩
theorem kiX10_number : (Cond.instanceMethod yX10_number ∈ WA) ∧ (Cond.selects yX10_number.cls yX10_number yX10_number ∈ WA) := ⟨WA_of (i := 2200) (by decide +kernel) (by decide +kernel), WA_of (i := 81) (by decide +kernel) (by decide +kernel)⟩
theorem kiX10_behind : (Cond.instanceMethod yX10_behind ∈ WA) ∧ (Cond.selects yX10_behind.cls yX10_behind yX10_behind ∈ WA) := ⟨WA_of (i := 2196) (by decide +kernel) (by decide +kernel), WA_of (i := 80) (by decide +kernel) (by decide +kernel)⟩
theorem kiX10_either : (Cond.instanceMethod yX10_either ∈ WA) ∧ (Cond.selects yX10_either.cls yX10_either yX10_either ∈ WA) := ⟨WA_of (i := 2204) (by decide +kernel) (by decide +kernel), WA_of (i := 82) (by decide +kernel) (by decide +kernel)⟩
theorem kiX10_word : (Cond.instanceMethod yX10_word ∈ WA) ∧ (Cond.selects yX10_word.cls yX10_word yX10_word ∈ WA) := ⟨WA_of (i := 2184) (by decide +kernel) (by decide +kernel), WA_of (i := 77) (by decide +kernel) (by decide +kernel)⟩
theorem kiX10_command : (Cond.instanceMethod yX10_command ∈ WA) ∧ (Cond.selects yX10_command.cls yX10_command yX10_command ∈ WA) := ⟨WA_of (i := 2176) (by decide +kernel) (by decide +kernel), WA_of (i := 75) (by decide +kernel) (by decide +kernel)⟩
theorem kiX10_parse : (Cond.instanceMethod yX10_parse ∈ WA) ∧ (Cond.selects yX10_parse.cls yX10_parse yX10_parse ∈ WA) := ⟨WA_of (i := 2172) (by decide +kernel) (by decide +kernel), WA_of (i := 74) (by decide +kernel) (by decide +kernel)⟩
theorem kiX10_does : (Cond.instanceMethod yX10_does ∈ WA) ∧ (Cond.selects yX10_does.cls yX10_does yX10_does ∈ WA) := ⟨WA_of (i := 2208) (by decide +kernel) (by decide +kernel), WA_of (i := 83) (by decide +kernel) (by decide +kernel)⟩
theorem kiX10_run : (Cond.instanceMethod yX10_run ∈ WA) ∧ (Cond.selects yX10_run.cls yX10_run yX10_run ∈ WA) := ⟨WA_of (i := 2167) (by decide +kernel) (by decide +kernel), WA_of (i := 2168) (by decide +kernel) (by decide +kernel)⟩
theorem kiX10_errorPosition : (Cond.instanceMethod yX10_errorPosition ∈ WA) ∧ (Cond.selects yX10_errorPosition.cls yX10_errorPosition yX10_errorPosition ∈ WA) := ⟨WA_of (i := 2211) (by decide +kernel) (by decide +kernel), WA_of (i := 2212) (by decide +kernel) (by decide +kernel)⟩
theorem kiX10_failedCommand : (Cond.instanceMethod yX10_failedCommand ∈ WA) ∧ (Cond.selects yX10_failedCommand.cls yX10_failedCommand yX10_failedCommand ∈ WA) := ⟨WA_of (i := 2215) (by decide +kernel) (by decide +kernel), WA_of (i := 2216) (by decide +kernel) (by decide +kernel)⟩
theorem kiX10_isFailureOfState : (Cond.instanceMethod yX10_isFailureOfState ∈ WA) ∧ (Cond.selects yX10_isFailureOfState.cls yX10_isFailureOfState yX10_isFailureOfState ∈ WA) := ⟨WA_of (i := 2219) (by decide +kernel) (by decide +kernel), WA_of (i := 2220) (by decide +kernel) (by decide +kernel)⟩
theorem kiX10_undoableCount : (Cond.instanceMethod yX10_undoableCount ∈ WA) ∧ (Cond.selects yX10_undoableCount.cls yX10_undoableCount yX10_undoableCount ∈ WA) := ⟨WA_of (i := 2223) (by decide +kernel) (by decide +kernel), WA_of (i := 2224) (by decide +kernel) (by decide +kernel)⟩
theorem kiX10_undo : (Cond.instanceMethod yX10_undo ∈ WA) ∧ (Cond.selects yX10_undo.cls yX10_undo yX10_undo ∈ WA) := ⟨WA_of (i := 2227) (by decide +kernel) (by decide +kernel), WA_of (i := 2228) (by decide +kernel) (by decide +kernel)⟩
theorem kiX10_save : (Cond.instanceMethod yX10_save ∈ WA) ∧ (Cond.selects yX10_save.cls yX10_save yX10_save ∈ WA) := ⟨WA_of (i := 2231) (by decide +kernel) (by decide +kernel), WA_of (i := 2232) (by decide +kernel) (by decide +kernel)⟩
theorem kiX10_restore : (Cond.instanceMethod yX10_restore ∈ WA) ∧ (Cond.selects yX10_restore.cls yX10_restore yX10_restore ∈ WA) := ⟨WA_of (i := 2235) (by decide +kernel) (by decide +kernel), WA_of (i := 2236) (by decide +kernel) (by decide +kernel)⟩
theorem kiiJ5_init_d00df : Cond.instanceMethod yJ5_init_d00df ∈ WA := WA_of (i := 294) (by decide +kernel) (by decide +kernel)
theorem kiiJ5_length_8abf5 : Cond.instanceMethod yJ5_length_8abf5 ∈ WA := WA_of (i := 1453) (by decide +kernel) (by decide +kernel)
theorem kiiJ5_ensureCapacityInternal_d00df : Cond.instanceMethod yJ5_ensureCapacityInternal_d00df ∈ WA := WA_of (i := 1309) (by decide +kernel) (by decide +kernel)
theorem kiiJ5_newCapacity_0f7a4 : Cond.instanceMethod yJ5_newCapacity_0f7a4 ∈ WA := WA_of (i := 1313) (by decide +kernel) (by decide +kernel)
theorem kiiJ5_inflate_da8c8 : Cond.instanceMethod yJ5_inflate_da8c8 ∈ WA := WA_of (i := 1387) (by decide +kernel) (by decide +kernel)
theorem kiiJ5_setLength_d00df : Cond.instanceMethod yJ5_setLength_d00df ∈ WA := WA_of (i := 1286) (by decide +kernel) (by decide +kernel)
theorem kiiJ5_charAt_5068e : Cond.instanceMethod yJ5_charAt_5068e ∈ WA := WA_of (i := 1584) (by decide +kernel) (by decide +kernel)
theorem kiiJ5_append_cf1ce : Cond.instanceMethod yJ5_append_cf1ce ∈ WA := WA_of (i := 1301) (by decide +kernel) (by decide +kernel)
theorem kiiJ5_appendNull_278bc : Cond.instanceMethod yJ5_appendNull_278bc ∈ WA := WA_of (i := 1305) (by decide +kernel) (by decide +kernel)
theorem kiiJ5_append_3fe6f : Cond.instanceMethod yJ5_append_3fe6f ∈ WA := WA_of (i := 1542) (by decide +kernel) (by decide +kernel)
theorem kiiJ5_append_c97b9 : Cond.instanceMethod yJ5_append_c97b9 ∈ WA := WA_of (i := 1415) (by decide +kernel) (by decide +kernel)
theorem kiiJ5_getValue_6d5f1 : Cond.instanceMethod yJ5_getValue_6d5f1 ∈ WA := WA_of (i := 1448) (by decide +kernel) (by decide +kernel)
theorem kiiJ5_isLatin1_aae02 : Cond.instanceMethod yJ5_isLatin1_aae02 ∈ WA := WA_of (i := 1337) (by decide +kernel) (by decide +kernel)
theorem kiiJ5_inflateIfNeededFor_a7421 : Cond.instanceMethod yJ5_inflateIfNeededFor_a7421 ∈ WA := WA_of (i := 1382) (by decide +kernel) (by decide +kernel)
theorem kiiJ5_putStringAt_47b60 : Cond.instanceMethod yJ5_putStringAt_47b60 ∈ WA := WA_of (i := 1378) (by decide +kernel) (by decide +kernel)
theorem kiiJx00060_init_a7421 : Cond.instanceMethod yJx00060_init_a7421 ∈ WA := WA_of (i := 882) (by decide +kernel) (by decide +kernel)
theorem kiiJx00060_init_d00df : Cond.instanceMethod yJx00060_init_d00df ∈ WA := WA_of (i := 1520) (by decide +kernel) (by decide +kernel)
theorem ksJ6_getChars_ba4f3 : Cond.static yJ6_getChars_ba4f3 ∈ WA := WA_of (i := 1421) (by decide +kernel) (by decide +kernel)
theorem ksJ6_stringSize_0f7a4 : Cond.static yJ6_stringSize_0f7a4 ∈ WA := WA_of (i := 1418) (by decide +kernel) (by decide +kernel)
theorem ksJ9_max_7cf53 : Cond.static yJ9_max_7cf53 ∈ WA := WA_of (i := 848) (by decide +kernel) (by decide +kernel)
theorem ksJ9_min_7cf53 : Cond.static yJ9_min_7cf53 ∈ WA := WA_of (i := 599) (by decide +kernel) (by decide +kernel)
theorem kiiJ0_init_81219 : Cond.instanceMethod yJ0_init_81219 ∈ WA := WA_of (i := 1441) (by decide +kernel) (by decide +kernel)
theorem kiJ0_length_8abf5 : (Cond.instanceMethod yJ0_length_8abf5 ∈ WA) ∧ (Cond.selects yJ0_length_8abf5.cls yJ0_length_8abf5 yJ0_length_8abf5 ∈ WA) := ⟨WA_of (i := 1368) (by decide +kernel) (by decide +kernel), WA_of (i := 1369) (by decide +kernel) (by decide +kernel)⟩
theorem kiJ0_charAt_5068e : (Cond.instanceMethod yJ0_charAt_5068e ∈ WA) ∧ (Cond.selects yJ0_charAt_5068e.cls yJ0_charAt_5068e yJ0_charAt_5068e ∈ WA) := ⟨WA_of (i := 1636) (by decide +kernel) (by decide +kernel), WA_of (i := 1637) (by decide +kernel) (by decide +kernel)⟩
theorem kiJ0_getBytes_840e7 : (Cond.instanceMethod yJ0_getBytes_840e7 ∈ WA) ∧ (Cond.selects yJ0_getBytes_840e7.cls yJ0_getBytes_840e7 yJ0_getBytes_840e7 ∈ WA) := ⟨WA_of (i := 1405) (by decide +kernel) (by decide +kernel), WA_of (i := 1406) (by decide +kernel) (by decide +kernel)⟩
theorem kiiJ0_init_db425 : Cond.instanceMethod yJ0_init_db425 ∈ WA := WA_of (i := 1444) (by decide +kernel) (by decide +kernel)
theorem kiJ0_coder_7d493 : (Cond.instanceMethod yJ0_coder_7d493 ∈ WA) ∧ (Cond.selects yJ0_coder_7d493.cls yJ0_coder_7d493 yJ0_coder_7d493 ∈ WA) := ⟨WA_of (i := 1372) (by decide +kernel) (by decide +kernel), WA_of (i := 1373) (by decide +kernel) (by decide +kernel)⟩
theorem kiJ0_isLatin1_aae02 : (Cond.instanceMethod yJ0_isLatin1_aae02 ∈ WA) ∧ (Cond.selects yJ0_isLatin1_aae02.cls yJ0_isLatin1_aae02 yJ0_isLatin1_aae02 ∈ WA) := ⟨WA_of (i := 1640) (by decide +kernel) (by decide +kernel), WA_of (i := 1641) (by decide +kernel) (by decide +kernel)⟩
theorem ksJ0_checkIndex_df160 : Cond.static yJ0_checkIndex_df160 ∈ WA := WA_of (i := 1554) (by decide +kernel) (by decide +kernel)
theorem ksJ0_checkBoundsOffCount_cabcc : Cond.static yJ0_checkBoundsOffCount_cabcc ∈ WA := WA_of (i := 1399) (by decide +kernel) (by decide +kernel)
theorem ksJ0_checkBoundsBeginEnd_23922 : Cond.static yJ0_checkBoundsBeginEnd_23922 ∈ WA := WA_of (i := 1351) (by decide +kernel) (by decide +kernel)
theorem kiiJ4_init_da8c8 : Cond.instanceMethod yJ4_init_da8c8 ∈ WA := WA_of (i := 291) (by decide +kernel) (by decide +kernel)
theorem kiJ4_append_15ec4 : (Cond.instanceMethod yJ4_append_15ec4 ∈ WA) ∧ (Cond.selects yJ4_append_15ec4.cls yJ4_append_15ec4 yJ4_append_15ec4 ∈ WA) := ⟨WA_of (i := 1297) (by decide +kernel) (by decide +kernel), WA_of (i := 1298) (by decide +kernel) (by decide +kernel)⟩
theorem kiJ4_append_cf468 : (Cond.instanceMethod yJ4_append_cf468 ∈ WA) ∧ (Cond.selects yJ4_append_cf468.cls yJ4_append_cf468 yJ4_append_cf468 ∈ WA) := ⟨WA_of (i := 1538) (by decide +kernel) (by decide +kernel), WA_of (i := 1539) (by decide +kernel) (by decide +kernel)⟩
theorem kiJ4_append_bf812 : (Cond.instanceMethod yJ4_append_bf812 ∈ WA) ∧ (Cond.selects yJ4_append_bf812.cls yJ4_append_bf812 yJ4_append_bf812 ∈ WA) := ⟨WA_of (i := 1411) (by decide +kernel) (by decide +kernel), WA_of (i := 1412) (by decide +kernel) (by decide +kernel)⟩
theorem kiJ4_toString_0e30d : (Cond.instanceMethod yJ4_toString_0e30d ∈ WA) ∧ (Cond.selects yJ4_toString_0e30d.cls yJ4_toString_0e30d yJ4_toString_0e30d ∈ WA) := ⟨WA_of (i := 1436) (by decide +kernel) (by decide +kernel), WA_of (i := 1437) (by decide +kernel) (by decide +kernel)⟩
theorem kiJ4_charAt_5068e : (Cond.instanceMethod yJ4_charAt_5068e ∈ WA) ∧ (Cond.selects yJ4_charAt_5068e.cls yJ4_charAt_5068e yJ4_charAt_5068e ∈ WA) := ⟨WA_of (i := 1580) (by decide +kernel) (by decide +kernel), WA_of (i := 1581) (by decide +kernel) (by decide +kernel)⟩
theorem kiJ4_setLength_d00df : (Cond.instanceMethod yJ4_setLength_d00df ∈ WA) ∧ (Cond.selects yJ4_setLength_d00df.cls yJ4_setLength_d00df yJ4_setLength_d00df ∈ WA) := ⟨WA_of (i := 1282) (by decide +kernel) (by decide +kernel), WA_of (i := 1283) (by decide +kernel) (by decide +kernel)⟩
theorem kiJ4_length_8abf5 : (Cond.instanceMethod yJ4_length_8abf5 ∈ WA) ∧ (Cond.selects yJ4_length_8abf5.cls yJ4_length_8abf5 yJ4_length_8abf5 ∈ WA) := ⟨WA_of (i := 1456) (by decide +kernel) (by decide +kernel), WA_of (i := 2251) (by decide +kernel) (by decide +kernel)⟩
theorem kiiJx7c733_init_d00df : Cond.instanceMethod yJx7c733_init_d00df ∈ WA := WA_of (i := 1291) (by decide +kernel) (by decide +kernel)
theorem ksJ1_charAt_3b067 : Cond.static yJ1_charAt_3b067 ∈ WA := WA_of (i := 1644) (by decide +kernel) (by decide +kernel)
theorem ksJ1_canEncode_fc78d : Cond.static yJ1_canEncode_fc78d ∈ WA := WA_of (i := 1545) (by decide +kernel) (by decide +kernel)
theorem ksJ1_fillNull_b72d1 : Cond.static yJ1_fillNull_b72d1 ∈ WA := WA_of (i := 1507) (by decide +kernel) (by decide +kernel)
theorem ksJ1_inflate_0e8fd : Cond.static yJ1_inflate_0e8fd ∈ WA := WA_of (i := 1390) (by decide +kernel) (by decide +kernel)
theorem ksJ2_newBytesFor_77867 : Cond.static yJ2_newBytesFor_77867 ∈ WA := WA_of (i := 300) (by decide +kernel) (by decide +kernel)
theorem ksJ2_newBytesLength_0f7a4 : Cond.static yJ2_newBytesLength_0f7a4 ∈ WA := WA_of (i := 303) (by decide +kernel) (by decide +kernel)
theorem ksJ2_putChar_b72d1 : Cond.static yJ2_putChar_b72d1 ∈ WA := WA_of (i := 1359) (by decide +kernel) (by decide +kernel)
theorem ksJ2_getChar_3b067 : Cond.static yJ2_getChar_3b067 ∈ WA := WA_of (i := 1485) (by decide +kernel) (by decide +kernel)
theorem ksJ2_length_9d52b : Cond.static yJ2_length_9d52b ∈ WA := WA_of (i := 1348) (by decide +kernel) (by decide +kernel)
theorem ksJ2_coderFromArrayLen_85cad : Cond.static yJ2_coderFromArrayLen_85cad ∈ WA := WA_of (i := 1489) (by decide +kernel) (by decide +kernel)
theorem ksJ2_compress_39247 : Cond.static yJ2_compress_39247 ∈ WA := WA_of (i := 1479) (by decide +kernel) (by decide +kernel)
theorem ksJ2_compress_5af95 : Cond.static yJ2_compress_5af95 ∈ WA := WA_of (i := 1482) (by decide +kernel) (by decide +kernel)
theorem ksJ2_fillNull_b72d1 : Cond.static yJ2_fillNull_b72d1 ∈ WA := WA_of (i := 1529) (by decide +kernel) (by decide +kernel)
theorem ksJ2_putCharSB_b72d1 : Cond.static yJ2_putCharSB_b72d1 ∈ WA := WA_of (i := 1548) (by decide +kernel) (by decide +kernel)
theorem ksJ2_getChars_46870 : Cond.static yJ2_getChars_46870 ∈ WA := WA_of (i := 1428) (by decide +kernel) (by decide +kernel)
theorem ksJ2_putCharsAt_cd4e5 : Cond.static yJ2_putCharsAt_cd4e5 ∈ WA := WA_of (i := 1342) (by decide +kernel) (by decide +kernel)
theorem ksJ2_charAt_3b067 : Cond.static yJ2_charAt_3b067 ∈ WA := WA_of (i := 1648) (by decide +kernel) (by decide +kernel)
theorem ksJ2_inflate_0e8fd : Cond.static yJ2_inflate_0e8fd ∈ WA := WA_of (i := 1393) (by decide +kernel) (by decide +kernel)
theorem ksJ2_getChars_ba4f3 : Cond.static yJ2_getChars_ba4f3 ∈ WA := WA_of (i := 1431) (by decide +kernel) (by decide +kernel)
theorem ksJ2_checkIndex_2214a : Cond.static yJ2_checkIndex_2214a ∈ WA := WA_of (i := 1551) (by decide +kernel) (by decide +kernel)
theorem ksJ2_checkBoundsBeginEnd_d044e : Cond.static yJ2_checkBoundsBeginEnd_d044e ∈ WA := WA_of (i := 1345) (by decide +kernel) (by decide +kernel)
theorem ksJ2_checkBoundsOffCount_d044e : Cond.static yJ2_checkBoundsOffCount_d044e ∈ WA := WA_of (i := 1396) (by decide +kernel) (by decide +kernel)
theorem ksJ7_rangeCheck_23922 : Cond.static yJ7_rangeCheck_23922 ∈ WA := WA_of (i := 1513) (by decide +kernel) (by decide +kernel)
theorem ksJ7_fill_eb02e : Cond.static yJ7_fill_eb02e ∈ WA := WA_of (i := 1510) (by decide +kernel) (by decide +kernel)
theorem ksJ7_copyOf_9075b : Cond.static yJ7_copyOf_9075b ∈ WA := WA_of (i := 1325) (by decide +kernel) (by decide +kernel)
theorem ksJ7_checkLength_df160 : Cond.static yJ7_checkLength_df160 ∈ WA := WA_of (i := 1468) (by decide +kernel) (by decide +kernel)
theorem ksJ7_copyOfRange_39247 : Cond.static yJ7_copyOfRange_39247 ∈ WA := WA_of (i := 1462) (by decide +kernel) (by decide +kernel)
theorem ksJ7_copyOfRangeByte_39247 : Cond.static yJ7_copyOfRangeByte_39247 ∈ WA := WA_of (i := 1465) (by decide +kernel) (by decide +kernel)
theorem ksJ8_newLength_cabcc : Cond.static yJ8_newLength_cabcc ∈ WA := WA_of (i := 1316) (by decide +kernel) (by decide +kernel)
theorem ksJ8_hugeLength_7cf53 : Cond.static yJ8_hugeLength_7cf53 ∈ WA := WA_of (i := 1321) (by decide +kernel) (by decide +kernel)
theorem ksJ3_checkIndex_8e157 : Cond.static yJ3_checkIndex_8e157 ∈ WA := WA_of (i := 1557) (by decide +kernel) (by decide +kernel)
theorem ksJ3_checkFromToIndex_8c36e : Cond.static yJ3_checkFromToIndex_8c36e ∈ WA := WA_of (i := 1356) (by decide +kernel) (by decide +kernel)
theorem ksJ3_checkFromIndexSize_8c36e : Cond.static yJ3_checkFromIndexSize_8c36e ∈ WA := WA_of (i := 1402) (by decide +kernel) (by decide +kernel)
theorem ksL_charge : Cond.static yL_charge ∈ WA := WA_of (i := 605) (by decide +kernel) (by decide +kernel)
theorem ksL_addWitness : Cond.static yL_addWitness ∈ WA := WA_of (i := 871) (by decide +kernel) (by decide +kernel)
theorem ksL_testify : Cond.static yL_testify ∈ WA := WA_of (i := 878) (by decide +kernel) (by decide +kernel)
theorem ksL_question : Cond.static yL_question ∈ WA := WA_of (i := 906) (by decide +kernel) (by decide +kernel)
theorem ksL_decide : Cond.static yL_decide ∈ WA := WA_of (i := 914) (by decide +kernel) (by decide +kernel)
theorem ksL_appeal : Cond.static yL_appeal ∈ WA := WA_of (i := 921) (by decide +kernel) (by decide +kernel)
theorem ksL_close : Cond.static yL_close ∈ WA := WA_of (i := 928) (by decide +kernel) (by decide +kernel)
theorem ksL_caseOf : Cond.static yL_caseOf ∈ WA := WA_of (i := 935) (by decide +kernel) (by decide +kernel)
theorem ksL_defendantOf : Cond.static yL_defendantOf ∈ WA := WA_of (i := 947) (by decide +kernel) (by decide +kernel)
theorem ksL_offenceOf : Cond.static yL_offenceOf ∈ WA := WA_of (i := 960) (by decide +kernel) (by decide +kernel)
theorem ksL_isOpen : Cond.static yL_isOpen ∈ WA := WA_of (i := 967) (by decide +kernel) (by decide +kernel)
theorem ksL_isDecided : Cond.static yL_isDecided ∈ WA := WA_of (i := 974) (by decide +kernel) (by decide +kernel)
theorem ksL_isClosed : Cond.static yL_isClosed ∈ WA := WA_of (i := 981) (by decide +kernel) (by decide +kernel)
theorem ksL_isGuilty : Cond.static yL_isGuilty ∈ WA := WA_of (i := 988) (by decide +kernel) (by decide +kernel)
theorem ksL_appealCount : Cond.static yL_appealCount ∈ WA := WA_of (i := 997) (by decide +kernel) (by decide +kernel)
theorem ksL_testimonyCount : Cond.static yL_testimonyCount ∈ WA := WA_of (i := 1004) (by decide +kernel) (by decide +kernel)
theorem ksL_witnessAt : Cond.static yL_witnessAt ∈ WA := WA_of (i := 1011) (by decide +kernel) (by decide +kernel)
theorem ksL_hasTestified : Cond.static yL_hasTestified ∈ WA := WA_of (i := 1020) (by decide +kernel) (by decide +kernel)
theorem ksL_isForProsecution : Cond.static yL_isForProsecution ∈ WA := WA_of (i := 1034) (by decide +kernel) (by decide +kernel)
theorem ksL_strength : Cond.static yL_strength ∈ WA := WA_of (i := 1046) (by decide +kernel) (by decide +kernel)
theorem ksL_questionCount : Cond.static yL_questionCount ∈ WA := WA_of (i := 1054) (by decide +kernel) (by decide +kernel)
theorem ksL_credibility : Cond.static yL_credibility ∈ WA := WA_of (i := 1062) (by decide +kernel) (by decide +kernel)
theorem ksL_casesOfWitness : Cond.static yL_casesOfWitness ∈ WA := WA_of (i := 1069) (by decide +kernel) (by decide +kernel)
theorem ksL_mostCredible : Cond.static yL_mostCredible ∈ WA := WA_of (i := 1080) (by decide +kernel) (by decide +kernel)
theorem ksL_agreement : Cond.static yL_agreement ∈ WA := WA_of (i := 1101) (by decide +kernel) (by decide +kernel)
theorem ksL_areConnected : Cond.static yL_areConnected ∈ WA := WA_of (i := 1113) (by decide +kernel) (by decide +kernel)
theorem ksL_areConnectedBySearch : Cond.static yL_areConnectedBySearch ∈ WA := WA_of (i := 1120) (by decide +kernel) (by decide +kernel)
theorem ksL_groupSize : Cond.static yL_groupSize ∈ WA := WA_of (i := 1127) (by decide +kernel) (by decide +kernel)
theorem ksL_heaviestWitness : Cond.static yL_heaviestWitness ∈ WA := WA_of (i := 1139) (by decide +kernel) (by decide +kernel)
theorem ksL_nextToDecide : Cond.static yL_nextToDecide ∈ WA := WA_of (i := 1150) (by decide +kernel) (by decide +kernel)
theorem ksL_prosecutionWeight : Cond.static yL_prosecutionWeight ∈ WA := WA_of (i := 1162) (by decide +kernel) (by decide +kernel)
theorem ksL_defenceWeight : Cond.static yL_defenceWeight ∈ WA := WA_of (i := 1172) (by decide +kernel) (by decide +kernel)
theorem ksL_margin : Cond.static yL_margin ∈ WA := WA_of (i := 1179) (by decide +kernel) (by decide +kernel)
theorem ksL_marginByCredibility : Cond.static yL_marginByCredibility ∈ WA := WA_of (i := 1186) (by decide +kernel) (by decide +kernel)
theorem ksL_firmAnswersToGuilty : Cond.static yL_firmAnswersToGuilty ∈ WA := WA_of (i := 1193) (by decide +kernel) (by decide +kernel)
theorem ksL_sentence : Cond.static yL_sentence ∈ WA := WA_of (i := 1205) (by decide +kernel) (by decide +kernel)
theorem ksL_sentenceByCases : Cond.static yL_sentenceByCases ∈ WA := WA_of (i := 1216) (by decide +kernel) (by decide +kernel)
theorem ksL_docketAt : Cond.static yL_docketAt ∈ WA := WA_of (i := 1223) (by decide +kernel) (by decide +kernel)
theorem ksL_docketPosition : Cond.static yL_docketPosition ∈ WA := WA_of (i := 1231) (by decide +kernel) (by decide +kernel)
theorem ksL_meanCredibility : Cond.static yL_meanCredibility ∈ WA := WA_of (i := 1239) (by decide +kernel) (by decide +kernel)
theorem ksL_guiltyShare : Cond.static yL_guiltyShare ∈ WA := WA_of (i := 1267) (by decide +kernel) (by decide +kernel)
theorem ksL_formatCase : Cond.static yL_formatCase ∈ WA := WA_of (i := 1275) (by decide +kernel) (by decide +kernel)
theorem ksL_formatWitness : Cond.static yL_formatWitness ∈ WA := WA_of (i := 1565) (by decide +kernel) (by decide +kernel)
theorem ksL_lineChar : Cond.static yL_lineChar ∈ WA := WA_of (i := 1572) (by decide +kernel) (by decide +kernel)
theorem ksL_append : Cond.static yL_append ∈ WA := WA_of (i := 1590) (by decide +kernel) (by decide +kernel)
theorem ksL_run : Cond.static yL_run ∈ WA := WA_of (i := 1599) (by decide +kernel) (by decide +kernel)
theorem ksL_errorPosition : Cond.static yL_errorPosition ∈ WA := WA_of (i := 1700) (by decide +kernel) (by decide +kernel)
theorem ksL_failedCommand : Cond.static yL_failedCommand ∈ WA := WA_of (i := 1708) (by decide +kernel) (by decide +kernel)
theorem ksL_isFailureOfState : Cond.static yL_isFailureOfState ∈ WA := WA_of (i := 1720) (by decide +kernel) (by decide +kernel)
theorem ksL_undo : Cond.static yL_undo ∈ WA := WA_of (i := 1727) (by decide +kernel) (by decide +kernel)
theorem ksL_restore : Cond.static yL_restore ∈ WA := WA_of (i := 1739) (by decide +kernel) (by decide +kernel)
theorem klay_X0_0 : u_lay RX0 TX0 0 ∈ WA := WA_of (i := 192) (by decide +kernel) (by decide +kernel)
theorem klay_X0_1 : u_lay RX0 TX0 1 ∈ WA := WA_of (i := 194) (by decide +kernel) (by decide +kernel)
theorem klay_X0_2 : u_lay RX0 TX0 2 ∈ WA := WA_of (i := 196) (by decide +kernel) (by decide +kernel)
theorem klay_X0_3 : u_lay RX0 TX0 3 ∈ WA := WA_of (i := 198) (by decide +kernel) (by decide +kernel)
theorem klay_X0_4 : u_lay RX0 TX0 4 ∈ WA := WA_of (i := 200) (by decide +kernel) (by decide +kernel)
theorem klay_X0_5 : u_lay RX0 TX0 5 ∈ WA := WA_of (i := 202) (by decide +kernel) (by decide +kernel)
theorem klay_X0_6 : u_lay RX0 TX0 6 ∈ WA := WA_of (i := 204) (by decide +kernel) (by decide +kernel)
theorem klay_X0_7 : u_lay RX0 TX0 7 ∈ WA := WA_of (i := 206) (by decide +kernel) (by decide +kernel)
theorem klay_X0_8 : u_lay RX0 TX0 8 ∈ WA := WA_of (i := 208) (by decide +kernel) (by decide +kernel)
theorem klay_X0_9 : u_lay RX0 TX0 9 ∈ WA := WA_of (i := 210) (by decide +kernel) (by decide +kernel)
theorem klay_X0_10 : u_lay RX0 TX0 10 ∈ WA := WA_of (i := 212) (by decide +kernel) (by decide +kernel)
theorem klay_X0_11 : u_lay RX0 TX0 11 ∈ WA := WA_of (i := 214) (by decide +kernel) (by decide +kernel)
theorem klay_X0_12 : u_lay RX0 TX0 12 ∈ WA := WA_of (i := 216) (by decide +kernel) (by decide +kernel)
theorem klay_X0_13 : u_lay RX0 TX0 13 ∈ WA := WA_of (i := 218) (by decide +kernel) (by decide +kernel)
theorem klay_X0_14 : u_lay RX0 TX0 14 ∈ WA := WA_of (i := 220) (by decide +kernel) (by decide +kernel)
theorem klay_X0_15 : u_lay RX0 TX0 15 ∈ WA := WA_of (i := 222) (by decide +kernel) (by decide +kernel)
theorem klay_X0_16 : u_lay RX0 TX0 16 ∈ WA := WA_of (i := 224) (by decide +kernel) (by decide +kernel)
theorem inX0 : ∀ w ∈ u_ws RX0 TX0 17, w ∈ WA := by
  intro w h
  obtain ⟨k, hk, rfl⟩ := List.mem_map.mp h
  have hk := List.mem_range.mp hk
  rcases (show k = 0 ∨ k = 1 ∨ k = 2 ∨ k = 3 ∨ k = 4 ∨ k = 5 ∨ k = 6 ∨ k = 7 ∨ k = 8 ∨ k = 9 ∨ k = 10 ∨ k = 11 ∨ k = 12 ∨ k = 13 ∨ k = 14 ∨ k = 15 ∨ k = 16 by omega) with rfl | rfl | rfl | rfl | rfl | rfl | rfl | rfl | rfl | rfl | rfl | rfl | rfl | rfl | rfl | rfl | rfl
  · exact klay_X0_0
  · exact klay_X0_1
  · exact klay_X0_2
  · exact klay_X0_3
  · exact klay_X0_4
  · exact klay_X0_5
  · exact klay_X0_6
  · exact klay_X0_7
  · exact klay_X0_8
  · exact klay_X0_9
  · exact klay_X0_10
  · exact klay_X0_11
  · exact klay_X0_12
  · exact klay_X0_13
  · exact klay_X0_14
  · exact klay_X0_15
  · exact klay_X0_16
theorem klay_X1_0 : u_lay RX1 TX1 0 ∈ WA := WA_of (i := 259) (by decide +kernel) (by decide +kernel)
theorem klay_X1_1 : u_lay RX1 TX1 1 ∈ WA := WA_of (i := 261) (by decide +kernel) (by decide +kernel)
theorem inX1 : ∀ w ∈ u_ws RX1 TX1 2, w ∈ WA := by
  intro w h
  obtain ⟨k, hk, rfl⟩ := List.mem_map.mp h
  have hk := List.mem_range.mp hk
  rcases (show k = 0 ∨ k = 1 by omega) with rfl | rfl
  · exact klay_X1_0
  · exact klay_X1_1
theorem klay_X3_0 : u_lay RX3 TX3 0 ∈ WA := WA_of (i := 155) (by decide +kernel) (by decide +kernel)
theorem inX3 : ∀ w ∈ u_ws RX3 TX3 1, w ∈ WA := by
  intro w h
  obtain ⟨k, hk, rfl⟩ := List.mem_map.mp h
  have hk := List.mem_range.mp hk
  rcases (show k = 0 by omega) with rfl
  · exact klay_X3_0
theorem klay_X4_0 : u_lay RX4 TX4 0 ∈ WA := WA_of (i := 240) (by decide +kernel) (by decide +kernel)
theorem klay_X4_1 : u_lay RX4 TX4 1 ∈ WA := WA_of (i := 242) (by decide +kernel) (by decide +kernel)
theorem klay_X4_2 : u_lay RX4 TX4 2 ∈ WA := WA_of (i := 244) (by decide +kernel) (by decide +kernel)
theorem inX4 : ∀ w ∈ u_ws RX4 TX4 3, w ∈ WA := by
  intro w h
  obtain ⟨k, hk, rfl⟩ := List.mem_map.mp h
  have hk := List.mem_range.mp hk
  rcases (show k = 0 ∨ k = 1 ∨ k = 2 by omega) with rfl | rfl | rfl
  · exact klay_X4_0
  · exact klay_X4_1
  · exact klay_X4_2
theorem klay_X5_0 : u_lay RX5 TX5 0 ∈ WA := WA_of (i := 339) (by decide +kernel) (by decide +kernel)
theorem klay_X5_1 : u_lay RX5 TX5 1 ∈ WA := WA_of (i := 341) (by decide +kernel) (by decide +kernel)
theorem klay_X5_2 : u_lay RX5 TX5 2 ∈ WA := WA_of (i := 343) (by decide +kernel) (by decide +kernel)
theorem klay_X5_3 : u_lay RX5 TX5 3 ∈ WA := WA_of (i := 345) (by decide +kernel) (by decide +kernel)
theorem klay_X5_4 : u_lay RX5 TX5 4 ∈ WA := WA_of (i := 347) (by decide +kernel) (by decide +kernel)
theorem klay_X5_5 : u_lay RX5 TX5 5 ∈ WA := WA_of (i := 349) (by decide +kernel) (by decide +kernel)
theorem klay_X5_6 : u_lay RX5 TX5 6 ∈ WA := WA_of (i := 351) (by decide +kernel) (by decide +kernel)
theorem klay_X5_7 : u_lay RX5 TX5 7 ∈ WA := WA_of (i := 353) (by decide +kernel) (by decide +kernel)
theorem inX5 : ∀ w ∈ u_ws RX5 TX5 8, w ∈ WA := by
  intro w h
  obtain ⟨k, hk, rfl⟩ := List.mem_map.mp h
  have hk := List.mem_range.mp hk
  rcases (show k = 0 ∨ k = 1 ∨ k = 2 ∨ k = 3 ∨ k = 4 ∨ k = 5 ∨ k = 6 ∨ k = 7 by omega) with rfl | rfl | rfl | rfl | rfl | rfl | rfl | rfl
  · exact klay_X5_0
  · exact klay_X5_1
  · exact klay_X5_2
  · exact klay_X5_3
  · exact klay_X5_4
  · exact klay_X5_5
  · exact klay_X5_6
  · exact klay_X5_7
theorem klay_X6_0 : u_lay RX6 TX6 0 ∈ WA := WA_of (i := 141) (by decide +kernel) (by decide +kernel)
theorem inX6 : ∀ w ∈ u_ws RX6 TX6 1, w ∈ WA := by
  intro w h
  obtain ⟨k, hk, rfl⟩ := List.mem_map.mp h
  have hk := List.mem_range.mp hk
  rcases (show k = 0 by omega) with rfl
  · exact klay_X6_0
theorem klay_X7_0 : u_lay RX7 TX7 0 ∈ WA := WA_of (i := 275) (by decide +kernel) (by decide +kernel)
theorem klay_X7_1 : u_lay RX7 TX7 1 ∈ WA := WA_of (i := 277) (by decide +kernel) (by decide +kernel)
theorem klay_X7_2 : u_lay RX7 TX7 2 ∈ WA := WA_of (i := 279) (by decide +kernel) (by decide +kernel)
theorem inX7 : ∀ w ∈ u_ws RX7 TX7 3, w ∈ WA := by
  intro w h
  obtain ⟨k, hk, rfl⟩ := List.mem_map.mp h
  have hk := List.mem_range.mp hk
  rcases (show k = 0 ∨ k = 1 ∨ k = 2 by omega) with rfl | rfl | rfl
  · exact klay_X7_0
  · exact klay_X7_1
  · exact klay_X7_2
theorem klay_X9_0 : u_lay RX9 TX9 0 ∈ WA := WA_of (i := 370) (by decide +kernel) (by decide +kernel)
theorem klay_X9_1 : u_lay RX9 TX9 1 ∈ WA := WA_of (i := 372) (by decide +kernel) (by decide +kernel)
theorem klay_X9_2 : u_lay RX9 TX9 2 ∈ WA := WA_of (i := 374) (by decide +kernel) (by decide +kernel)
theorem klay_X9_3 : u_lay RX9 TX9 3 ∈ WA := WA_of (i := 376) (by decide +kernel) (by decide +kernel)
theorem klay_X9_4 : u_lay RX9 TX9 4 ∈ WA := WA_of (i := 378) (by decide +kernel) (by decide +kernel)
theorem klay_X9_5 : u_lay RX9 TX9 5 ∈ WA := WA_of (i := 380) (by decide +kernel) (by decide +kernel)
theorem klay_X9_6 : u_lay RX9 TX9 6 ∈ WA := WA_of (i := 382) (by decide +kernel) (by decide +kernel)
theorem klay_X9_7 : u_lay RX9 TX9 7 ∈ WA := WA_of (i := 384) (by decide +kernel) (by decide +kernel)
theorem klay_X9_8 : u_lay RX9 TX9 8 ∈ WA := WA_of (i := 386) (by decide +kernel) (by decide +kernel)
theorem klay_X9_9 : u_lay RX9 TX9 9 ∈ WA := WA_of (i := 388) (by decide +kernel) (by decide +kernel)
theorem klay_X9_10 : u_lay RX9 TX9 10 ∈ WA := WA_of (i := 390) (by decide +kernel) (by decide +kernel)
theorem klay_X9_11 : u_lay RX9 TX9 11 ∈ WA := WA_of (i := 392) (by decide +kernel) (by decide +kernel)
theorem inX9 : ∀ w ∈ u_ws RX9 TX9 12, w ∈ WA := by
  intro w h
  obtain ⟨k, hk, rfl⟩ := List.mem_map.mp h
  have hk := List.mem_range.mp hk
  rcases (show k = 0 ∨ k = 1 ∨ k = 2 ∨ k = 3 ∨ k = 4 ∨ k = 5 ∨ k = 6 ∨ k = 7 ∨ k = 8 ∨ k = 9 ∨ k = 10 ∨ k = 11 by omega) with rfl | rfl | rfl | rfl | rfl | rfl | rfl | rfl | rfl | rfl | rfl | rfl
  · exact klay_X9_0
  · exact klay_X9_1
  · exact klay_X9_2
  · exact klay_X9_3
  · exact klay_X9_4
  · exact klay_X9_5
  · exact klay_X9_6
  · exact klay_X9_7
  · exact klay_X9_8
  · exact klay_X9_9
  · exact klay_X9_10
  · exact klay_X9_11
theorem klay_X10_0 : u_lay RX10 TX10 0 ∈ WA := WA_of (i := 1772) (by decide +kernel) (by decide +kernel)
theorem klay_X10_1 : u_lay RX10 TX10 1 ∈ WA := WA_of (i := 1774) (by decide +kernel) (by decide +kernel)
theorem klay_X10_2 : u_lay RX10 TX10 2 ∈ WA := WA_of (i := 1776) (by decide +kernel) (by decide +kernel)
theorem klay_X10_3 : u_lay RX10 TX10 3 ∈ WA := WA_of (i := 1778) (by decide +kernel) (by decide +kernel)
theorem klay_X10_4 : u_lay RX10 TX10 4 ∈ WA := WA_of (i := 1780) (by decide +kernel) (by decide +kernel)
theorem klay_X10_5 : u_lay RX10 TX10 5 ∈ WA := WA_of (i := 1782) (by decide +kernel) (by decide +kernel)
theorem klay_X10_6 : u_lay RX10 TX10 6 ∈ WA := WA_of (i := 1784) (by decide +kernel) (by decide +kernel)
theorem klay_X10_7 : u_lay RX10 TX10 7 ∈ WA := WA_of (i := 1786) (by decide +kernel) (by decide +kernel)
theorem klay_X10_8 : u_lay RX10 TX10 8 ∈ WA := WA_of (i := 1788) (by decide +kernel) (by decide +kernel)
theorem klay_X10_9 : u_lay RX10 TX10 9 ∈ WA := WA_of (i := 1790) (by decide +kernel) (by decide +kernel)
theorem klay_X10_10 : u_lay RX10 TX10 10 ∈ WA := WA_of (i := 1792) (by decide +kernel) (by decide +kernel)
theorem klay_X10_11 : u_lay RX10 TX10 11 ∈ WA := WA_of (i := 1794) (by decide +kernel) (by decide +kernel)
theorem klay_X10_12 : u_lay RX10 TX10 12 ∈ WA := WA_of (i := 1796) (by decide +kernel) (by decide +kernel)
theorem klay_X10_13 : u_lay RX10 TX10 13 ∈ WA := WA_of (i := 1798) (by decide +kernel) (by decide +kernel)
theorem klay_X10_14 : u_lay RX10 TX10 14 ∈ WA := WA_of (i := 1800) (by decide +kernel) (by decide +kernel)
theorem klay_X10_15 : u_lay RX10 TX10 15 ∈ WA := WA_of (i := 1802) (by decide +kernel) (by decide +kernel)
theorem inX10 : ∀ w ∈ u_ws RX10 TX10 16, w ∈ WA := by
  intro w h
  obtain ⟨k, hk, rfl⟩ := List.mem_map.mp h
  have hk := List.mem_range.mp hk
  rcases (show k = 0 ∨ k = 1 ∨ k = 2 ∨ k = 3 ∨ k = 4 ∨ k = 5 ∨ k = 6 ∨ k = 7 ∨ k = 8 ∨ k = 9 ∨ k = 10 ∨ k = 11 ∨ k = 12 ∨ k = 13 ∨ k = 14 ∨ k = 15 by omega) with rfl | rfl | rfl | rfl | rfl | rfl | rfl | rfl | rfl | rfl | rfl | rfl | rfl | rfl | rfl | rfl
  · exact klay_X10_0
  · exact klay_X10_1
  · exact klay_X10_2
  · exact klay_X10_3
  · exact klay_X10_4
  · exact klay_X10_5
  · exact klay_X10_6
  · exact klay_X10_7
  · exact klay_X10_8
  · exact klay_X10_9
  · exact klay_X10_10
  · exact klay_X10_11
  · exact klay_X10_12
  · exact klay_X10_13
  · exact klay_X10_14
  · exact klay_X10_15
theorem klay_J4_0 : u_lay RJ4 TJ4 0 ∈ WA := WA_of (i := 311) (by decide +kernel) (by decide +kernel)
theorem klay_J4_1 : u_lay RJ4 TJ4 1 ∈ WA := WA_of (i := 313) (by decide +kernel) (by decide +kernel)
theorem klay_J4_2 : u_lay RJ4 TJ4 2 ∈ WA := WA_of (i := 315) (by decide +kernel) (by decide +kernel)
theorem klay_J4_3 : u_lay RJ4 TJ4 3 ∈ WA := WA_of (i := 317) (by decide +kernel) (by decide +kernel)
theorem inJ4 : ∀ w ∈ u_ws RJ4 TJ4 4, w ∈ WA := by
  intro w h
  obtain ⟨k, hk, rfl⟩ := List.mem_map.mp h
  have hk := List.mem_range.mp hk
  rcases (show k = 0 ∨ k = 1 ∨ k = 2 ∨ k = 3 by omega) with rfl | rfl | rfl | rfl
  · exact klay_J4_0
  · exact klay_J4_1
  · exact klay_J4_2
  · exact klay_J4_3
theorem klay_J0_0 : u_lay RJ0 TJ0 0 ∈ WA := WA_of (i := 897) (by decide +kernel) (by decide +kernel)
theorem klay_J0_1 : u_lay RJ0 TJ0 1 ∈ WA := WA_of (i := 899) (by decide +kernel) (by decide +kernel)
theorem klay_J0_2 : u_lay RJ0 TJ0 2 ∈ WA := WA_of (i := 1493) (by decide +kernel) (by decide +kernel)
theorem klay_J0_3 : u_lay RJ0 TJ0 3 ∈ WA := WA_of (i := 1495) (by decide +kernel) (by decide +kernel)
theorem inJ0 : ∀ w ∈ u_ws RJ0 TJ0 4, w ∈ WA := by
  intro w h
  obtain ⟨k, hk, rfl⟩ := List.mem_map.mp h
  have hk := List.mem_range.mp hk
  rcases (show k = 0 ∨ k = 1 ∨ k = 2 ∨ k = 3 by omega) with rfl | rfl | rfl | rfl
  · exact klay_J0_0
  · exact klay_J0_1
  · exact klay_J0_2
  · exact klay_J0_3

