theorem kc_L_8 : Cond.classLink RL 8 RX9 ∈ WA := WA_of (i := 120) (by decide +kernel) (by decide +kernel)
theorem kl_L_186 : Cond.methodLink RL 186 yX9_init ∈ WA := WA_of (i := 122) (by decide +kernel) (by decide +kernel)
theorem kl_X9_1 : Cond.methodLink RX9 1 ⟨"java/lang/Object", "<init>", "()V"⟩ ∈ WA := WA_of (i := 125) (by decide +kernel) (by decide +kernel)
theorem kc_X9_7 : Cond.classLink RX9 7 RX0 ∈ WA := WA_of (i := 128) (by decide +kernel) (by decide +kernel)
theorem kln_X9_9 : Cond.methodLinkNest RX9 9 yX0_init "CaseManager" ∈ WN := WN_of (i := 130) (by decide +kernel) (by decide +kernel)
theorem kl_X0_3 : Cond.methodLink RX0 3 ⟨"java/lang/Object", "<init>", "()V"⟩ ∈ WA := WA_of (i := 133) (by decide +kernel) (by decide +kernel)
theorem kc_X0_24 : Cond.classLink RX0 24 RX6 ∈ WA := WA_of (i := 134) (by decide +kernel) (by decide +kernel)
theorem kl_X0_26 : Cond.methodLink RX0 26 yX6_init ∈ WA := WA_of (i := 136) (by decide +kernel) (by decide +kernel)
theorem kl_X6_1 : Cond.methodLink RX6 1 ⟨"java/lang/Object", "<init>", "()V"⟩ ∈ WA := WA_of (i := 139) (by decide +kernel) (by decide +kernel)
theorem kf_X6_7 : Cond.fieldLink RX6 7 "CaseManager$Row" "cells" "[I" ∈ WA := WA_of (i := 140) (by decide +kernel) (by decide +kernel)
theorem kc_X0_66 : Cond.classLink RX0 66 RX3 ∈ WA := WA_of (i := 145) (by decide +kernel) (by decide +kernel)
theorem kln_X0_68 : Cond.methodLinkNest RX0 68 yX3_init "CaseManager" ∈ WN := WN_of (i := 147) (by decide +kernel) (by decide +kernel)
theorem kl_X3_3 : Cond.methodLink RX3 3 ⟨"java/lang/Object", "<init>", "()V"⟩ ∈ WA := WA_of (i := 150) (by decide +kernel) (by decide +kernel)
theorem kc_X3_9 : Cond.classLink RX3 9 RX6 ∈ WA := WA_of (i := 151) (by decide +kernel) (by decide +kernel)
theorem kl_X3_11 : Cond.methodLink RX3 11 yX6_init ∈ WA := WA_of (i := 152) (by decide +kernel) (by decide +kernel)
theorem kf_X3_14 : Cond.fieldLink RX3 14 "CaseManager$Groups" "parents" "LCaseManager$Row;" ∈ WA := WA_of (i := 153) (by decide +kernel) (by decide +kernel)
theorem kfn_X0_77 : Cond.fieldLinkNest RX0 77 "CaseManager$Groups" "parents" "LCaseManager$Row;" "CaseManager" ∈ WN := WN_of (i := 154) (by decide +kernel) (by decide +kernel)
theorem kf_X0_9 : Cond.fieldLink RX0 9 "CaseManager$Court" "cases" "I" ∈ WA := WA_of (i := 158) (by decide +kernel) (by decide +kernel)
theorem kfn_X1_24 : Cond.fieldLinkNest RX1 24 "CaseManager$Court" "cases" "I" "CaseManager" ∈ WN := WN_of (i := 159) (by decide +kernel) (by decide +kernel)
theorem kfn_X7_41 : Cond.fieldLinkNest RX7 41 "CaseManager$Court" "cases" "I" "CaseManager" ∈ WN := WN_of (i := 160) (by decide +kernel) (by decide +kernel)
theorem kfn_X9_75 : Cond.fieldLinkNest RX9 75 "CaseManager$Court" "cases" "I" "CaseManager" ∈ WN := WN_of (i := 161) (by decide +kernel) (by decide +kernel)
theorem kf_X0_15 : Cond.fieldLink RX0 15 "CaseManager$Court" "witnesses" "I" ∈ WA := WA_of (i := 162) (by decide +kernel) (by decide +kernel)
theorem kfn_X9_160 : Cond.fieldLinkNest RX9 160 "CaseManager$Court" "witnesses" "I" "CaseManager" ∈ WN := WN_of (i := 163) (by decide +kernel) (by decide +kernel)
theorem kf_X0_18 : Cond.fieldLink RX0 18 "CaseManager$Court" "decisions" "I" ∈ WA := WA_of (i := 164) (by decide +kernel) (by decide +kernel)
theorem kfn_X9_261 : Cond.fieldLinkNest RX9 261 "CaseManager$Court" "decisions" "I" "CaseManager" ∈ WN := WN_of (i := 165) (by decide +kernel) (by decide +kernel)
theorem kf_X0_21 : Cond.fieldLink RX0 21 "CaseManager$Court" "questionsAsked" "I" ∈ WA := WA_of (i := 166) (by decide +kernel) (by decide +kernel)
theorem kfn_X9_264 : Cond.fieldLinkNest RX9 264 "CaseManager$Court" "questionsAsked" "I" "CaseManager" ∈ WN := WN_of (i := 167) (by decide +kernel) (by decide +kernel)
theorem kf_X0_29 : Cond.fieldLink RX0 29 "CaseManager$Court" "defendants" "LCaseManager$Row;" ∈ WA := WA_of (i := 168) (by decide +kernel) (by decide +kernel)
theorem kfn_X9_105 : Cond.fieldLinkNest RX9 105 "CaseManager$Court" "defendants" "LCaseManager$Row;" "CaseManager" ∈ WN := WN_of (i := 169) (by decide +kernel) (by decide +kernel)
theorem kf_X0_33 : Cond.fieldLink RX0 33 "CaseManager$Court" "offences" "LCaseManager$Row;" ∈ WA := WA_of (i := 170) (by decide +kernel) (by decide +kernel)
theorem kfn_X9_115 : Cond.fieldLinkNest RX9 115 "CaseManager$Court" "offences" "LCaseManager$Row;" "CaseManager" ∈ WN := WN_of (i := 171) (by decide +kernel) (by decide +kernel)
theorem kf_X0_36 : Cond.fieldLink RX0 36 "CaseManager$Court" "phases" "LCaseManager$Row;" ∈ WA := WA_of (i := 172) (by decide +kernel) (by decide +kernel)
theorem kf_X0_39 : Cond.fieldLink RX0 39 "CaseManager$Court" "guilts" "LCaseManager$Row;" ∈ WA := WA_of (i := 173) (by decide +kernel) (by decide +kernel)
theorem kf_X0_42 : Cond.fieldLink RX0 42 "CaseManager$Court" "appeals" "LCaseManager$Row;" ∈ WA := WA_of (i := 174) (by decide +kernel) (by decide +kernel)
theorem kfn_X9_130 : Cond.fieldLinkNest RX9 130 "CaseManager$Court" "appeals" "LCaseManager$Row;" "CaseManager" ∈ WN := WN_of (i := 175) (by decide +kernel) (by decide +kernel)
theorem kf_X0_45 : Cond.fieldLink RX0 45 "CaseManager$Court" "testimonies" "LCaseManager$Row;" ∈ WA := WA_of (i := 176) (by decide +kernel) (by decide +kernel)
theorem kfn_X8_9 : Cond.fieldLinkNest RX8 9 "CaseManager$Court" "testimonies" "LCaseManager$Row;" "CaseManager" ∈ WN := WN_of (i := 177) (by decide +kernel) (by decide +kernel)
theorem kfn_X7_53 : Cond.fieldLinkNest RX7 53 "CaseManager$Court" "testimonies" "LCaseManager$Row;" "CaseManager" ∈ WN := WN_of (i := 178) (by decide +kernel) (by decide +kernel)
theorem kfn_X1_48 : Cond.fieldLinkNest RX1 48 "CaseManager$Court" "testimonies" "LCaseManager$Row;" "CaseManager" ∈ WN := WN_of (i := 179) (by decide +kernel) (by decide +kernel)
theorem kfn_X9_133 : Cond.fieldLinkNest RX9 133 "CaseManager$Court" "testimonies" "LCaseManager$Row;" "CaseManager" ∈ WN := WN_of (i := 180) (by decide +kernel) (by decide +kernel)
theorem kf_X0_48 : Cond.fieldLink RX0 48 "CaseManager$Court" "hearingOrder" "LCaseManager$Row;" ∈ WA := WA_of (i := 181) (by decide +kernel) (by decide +kernel)
theorem kf_X0_51 : Cond.fieldLink RX0 51 "CaseManager$Court" "sides" "LCaseManager$Row;" ∈ WA := WA_of (i := 182) (by decide +kernel) (by decide +kernel)
theorem kf_X0_54 : Cond.fieldLink RX0 54 "CaseManager$Court" "strengths" "LCaseManager$Row;" ∈ WA := WA_of (i := 183) (by decide +kernel) (by decide +kernel)
theorem kf_X0_57 : Cond.fieldLink RX0 57 "CaseManager$Court" "questions" "LCaseManager$Row;" ∈ WA := WA_of (i := 184) (by decide +kernel) (by decide +kernel)
theorem kf_X0_60 : Cond.fieldLink RX0 60 "CaseManager$Court" "credibilities" "LCaseManager$Row;" ∈ WA := WA_of (i := 185) (by decide +kernel) (by decide +kernel)
theorem kfn_X8_40 : Cond.fieldLinkNest RX8 40 "CaseManager$Court" "credibilities" "LCaseManager$Row;" "CaseManager" ∈ WN := WN_of (i := 186) (by decide +kernel) (by decide +kernel)
theorem kfn_X9_163 : Cond.fieldLinkNest RX9 163 "CaseManager$Court" "credibilities" "LCaseManager$Row;" "CaseManager" ∈ WN := WN_of (i := 187) (by decide +kernel) (by decide +kernel)
theorem kf_X0_63 : Cond.fieldLink RX0 63 "CaseManager$Court" "sentences" "LCaseManager$Row;" ∈ WA := WA_of (i := 188) (by decide +kernel) (by decide +kernel)
theorem kfn_X9_235 : Cond.fieldLinkNest RX9 235 "CaseManager$Court" "sentences" "LCaseManager$Row;" "CaseManager" ∈ WN := WN_of (i := 189) (by decide +kernel) (by decide +kernel)
theorem kf_X0_69 : Cond.fieldLink RX0 69 "CaseManager$Court" "groups" "LCaseManager$Groups;" ∈ WA := WA_of (i := 190) (by decide +kernel) (by decide +kernel)
theorem kfn_X9_177 : Cond.fieldLinkNest RX9 177 "CaseManager$Court" "groups" "LCaseManager$Groups;" "CaseManager" ∈ WN := WN_of (i := 191) (by decide +kernel) (by decide +kernel)
theorem kc_X9_22 : Cond.classLink RX9 22 RX4 ∈ WA := WA_of (i := 227) (by decide +kernel) (by decide +kernel)
theorem kl_X9_24 : Cond.methodLink RX9 24 yX4_init ∈ WA := WA_of (i := 229) (by decide +kernel) (by decide +kernel)
theorem kl_X4_3 : Cond.methodLink RX4 3 ⟨"java/lang/Object", "<init>", "()V"⟩ ∈ WA := WA_of (i := 232) (by decide +kernel) (by decide +kernel)
theorem kc_X4_9 : Cond.classLink RX4 9 RX0 ∈ WA := WA_of (i := 233) (by decide +kernel) (by decide +kernel)
theorem kln_X4_24 : Cond.methodLinkNest RX4 24 yX0_init "CaseManager" ∈ WN := WN_of (i := 235) (by decide +kernel) (by decide +kernel)
theorem kf_X4_11 : Cond.fieldLink RX4 11 "CaseManager$History" "places" "[LCaseManager$Court;" ∈ WA := WA_of (i := 236) (by decide +kernel) (by decide +kernel)
theorem kf_X4_17 : Cond.fieldLink RX4 17 "CaseManager$History" "next" "I" ∈ WA := WA_of (i := 237) (by decide +kernel) (by decide +kernel)
theorem kf_X4_21 : Cond.fieldLink RX4 21 "CaseManager$History" "size" "I" ∈ WA := WA_of (i := 238) (by decide +kernel) (by decide +kernel)
theorem kfn_X9_348 : Cond.fieldLinkNest RX9 348 "CaseManager$History" "size" "I" "CaseManager" ∈ WN := WN_of (i := 239) (by decide +kernel) (by decide +kernel)
theorem kc_X9_29 : Cond.classLink RX9 29 RX1 ∈ WA := WA_of (i := 247) (by decide +kernel) (by decide +kernel)
theorem kln_X9_31 : Cond.methodLinkNest RX9 31 yX1_init "CaseManager" ∈ WN := WN_of (i := 249) (by decide +kernel) (by decide +kernel)
theorem kl_X1_3 : Cond.methodLink RX1 3 ⟨"java/lang/Object", "<init>", "()V"⟩ ∈ WA := WA_of (i := 252) (by decide +kernel) (by decide +kernel)
theorem kc_X1_9 : Cond.classLink RX1 9 RX6 ∈ WA := WA_of (i := 253) (by decide +kernel) (by decide +kernel)
theorem kl_X1_11 : Cond.methodLink RX1 11 yX6_init ∈ WA := WA_of (i := 254) (by decide +kernel) (by decide +kernel)
theorem kf_X1_14 : Cond.fieldLink RX1 14 "CaseManager$Docket" "order" "LCaseManager$Row;" ∈ WA := WA_of (i := 255) (by decide +kernel) (by decide +kernel)
theorem kfn_X9_249 : Cond.fieldLinkNest RX9 249 "CaseManager$Docket" "order" "LCaseManager$Row;" "CaseManager" ∈ WN := WN_of (i := 256) (by decide +kernel) (by decide +kernel)
theorem kf_X1_20 : Cond.fieldLink RX1 20 "CaseManager$Docket" "length" "I" ∈ WA := WA_of (i := 257) (by decide +kernel) (by decide +kernel)
theorem kfn_X9_244 : Cond.fieldLinkNest RX9 244 "CaseManager$Docket" "length" "I" "CaseManager" ∈ WN := WN_of (i := 258) (by decide +kernel) (by decide +kernel)
theorem kc_X9_36 : Cond.classLink RX9 36 RX7 ∈ WA := WA_of (i := 264) (by decide +kernel) (by decide +kernel)
theorem kln_X9_38 : Cond.methodLinkNest RX9 38 yX7_init "CaseManager" ∈ WN := WN_of (i := 266) (by decide +kernel) (by decide +kernel)
theorem kl_X7_3 : Cond.methodLink RX7 3 ⟨"java/lang/Object", "<init>", "()V"⟩ ∈ WA := WA_of (i := 269) (by decide +kernel) (by decide +kernel)
theorem kc_X7_9 : Cond.classLink RX7 9 RX6 ∈ WA := WA_of (i := 270) (by decide +kernel) (by decide +kernel)
theorem kl_X7_11 : Cond.methodLink RX7 11 yX6_init ∈ WA := WA_of (i := 271) (by decide +kernel) (by decide +kernel)
theorem kf_X7_14 : Cond.fieldLink RX7 14 "CaseManager$Search" "queue" "LCaseManager$Row;" ∈ WA := WA_of (i := 272) (by decide +kernel) (by decide +kernel)
theorem kf_X7_20 : Cond.fieldLink RX7 20 "CaseManager$Search" "reached" "LCaseManager$Row;" ∈ WA := WA_of (i := 273) (by decide +kernel) (by decide +kernel)
theorem kf_X7_23 : Cond.fieldLink RX7 23 "CaseManager$Search" "queued" "I" ∈ WA := WA_of (i := 274) (by decide +kernel) (by decide +kernel)
theorem kc_X9_43 : Cond.classLink RX9 43 RX5 ∈ WA := WA_of (i := 282) (by decide +kernel) (by decide +kernel)
theorem kln_X9_45 : Cond.methodLinkNest RX9 45 yX5_init "CaseManager" ∈ WN := WN_of (i := 284) (by decide +kernel) (by decide +kernel)
theorem kl_X5_3 : Cond.methodLink RX5 3 ⟨"java/lang/Object", "<init>", "()V"⟩ ∈ WA := WA_of (i := 287) (by decide +kernel) (by decide +kernel)
theorem kc_X5_9 : Cond.classLink RX5 9 RJ4 ∈ WA := WA_of (i := 288) (by decide +kernel) (by decide +kernel)
theorem kl_X5_11 : Cond.methodLink RX5 11 yJ4_init_da8c8 ∈ WA := WA_of (i := 290) (by decide +kernel) (by decide +kernel)
theorem kl_J4_1 : Cond.methodLink RJ4 1 yJ5_init_d00df ∈ WA := WA_of (i := 293) (by decide +kernel) (by decide +kernel)
theorem kl_J5_3 : Cond.methodLink RJ5 3 ⟨"java/lang/Object", "<init>", "()V"⟩ ∈ WA := WA_of (i := 296) (by decide +kernel) (by decide +kernel)
theorem kf_J5_18 : Cond.fieldLink RJ5 18 "java/lang/String" "COMPACT_STRINGS" "Z" ∈ WA := WA_of (i := 297) (by decide +kernel) (by decide +kernel)
theorem kl_J5_26 : Cond.methodLink RJ5 26 yJ2_newBytesFor_77867 ∈ WA := WA_of (i := 299) (by decide +kernel) (by decide +kernel)
theorem kl_J2_11 : Cond.methodLink RJ2 11 yJ2_newBytesLength_0f7a4 ∈ WA := WA_of (i := 302) (by decide +kernel) (by decide +kernel)
theorem kf_J5_15 : Cond.fieldLink RJ5 15 "java/lang/AbstractStringBuilder" "value" "[B" ∈ WA := WA_of (i := 306) (by decide +kernel) (by decide +kernel)
theorem kf_J5_22 : Cond.fieldLink RJ5 22 "java/lang/AbstractStringBuilder" "coder" "B" ∈ WA := WA_of (i := 307) (by decide +kernel) (by decide +kernel)
theorem kf_J5_73 : Cond.fieldLink RJ5 73 "java/lang/AbstractStringBuilder" "maybeLatin1" "Z" ∈ WA := WA_of (i := 308) (by decide +kernel) (by decide +kernel)
theorem kf_J0_1048 : Cond.fieldLink RJ0 1048 "java/lang/AbstractStringBuilder" "maybeLatin1" "Z" ∈ WA := WA_of (i := 309) (by decide +kernel) (by decide +kernel)
theorem kf_J5_79 : Cond.fieldLink RJ5 79 "java/lang/AbstractStringBuilder" "count" "I" ∈ WA := WA_of (i := 310) (by decide +kernel) (by decide +kernel)
theorem kc_X5_25 : Cond.classLink RX5 25 RX6 ∈ WA := WA_of (i := 321) (by decide +kernel) (by decide +kernel)
theorem kl_X5_27 : Cond.methodLink RX5 27 yX6_init ∈ WA := WA_of (i := 322) (by decide +kernel) (by decide +kernel)
theorem kf_X5_12 : Cond.fieldLink RX5 12 "CaseManager$Program" "input" "Ljava/lang/StringBuilder;" ∈ WA := WA_of (i := 323) (by decide +kernel) (by decide +kernel)
theorem kfn_X9_319 : Cond.fieldLinkNest RX9 319 "CaseManager$Program" "input" "Ljava/lang/StringBuilder;" "CaseManager" ∈ WN := WN_of (i := 324) (by decide +kernel) (by decide +kernel)
theorem kf_X5_18 : Cond.fieldLink RX5 18 "CaseManager$Program" "position" "I" ∈ WA := WA_of (i := 325) (by decide +kernel) (by decide +kernel)
theorem kfn_X9_327 : Cond.fieldLinkNest RX9 327 "CaseManager$Program" "position" "I" "CaseManager" ∈ WN := WN_of (i := 326) (by decide +kernel) (by decide +kernel)
theorem kf_X5_22 : Cond.fieldLink RX5 22 "CaseManager$Program" "size" "I" ∈ WA := WA_of (i := 327) (by decide +kernel) (by decide +kernel)
theorem kfn_X9_340 : Cond.fieldLinkNest RX9 340 "CaseManager$Program" "size" "I" "CaseManager" ∈ WN := WN_of (i := 328) (by decide +kernel) (by decide +kernel)
theorem kf_X5_30 : Cond.fieldLink RX5 30 "CaseManager$Program" "kinds" "LCaseManager$Row;" ∈ WA := WA_of (i := 329) (by decide +kernel) (by decide +kernel)
theorem kfn_X9_399 : Cond.fieldLinkNest RX9 399 "CaseManager$Program" "kinds" "LCaseManager$Row;" "CaseManager" ∈ WN := WN_of (i := 330) (by decide +kernel) (by decide +kernel)
theorem kf_X5_34 : Cond.fieldLink RX5 34 "CaseManager$Program" "firsts" "LCaseManager$Row;" ∈ WA := WA_of (i := 331) (by decide +kernel) (by decide +kernel)
theorem kfn_X9_402 : Cond.fieldLinkNest RX9 402 "CaseManager$Program" "firsts" "LCaseManager$Row;" "CaseManager" ∈ WN := WN_of (i := 332) (by decide +kernel) (by decide +kernel)
theorem kf_X5_37 : Cond.fieldLink RX5 37 "CaseManager$Program" "seconds" "LCaseManager$Row;" ∈ WA := WA_of (i := 333) (by decide +kernel) (by decide +kernel)
theorem kfn_X9_405 : Cond.fieldLinkNest RX9 405 "CaseManager$Program" "seconds" "LCaseManager$Row;" "CaseManager" ∈ WN := WN_of (i := 334) (by decide +kernel) (by decide +kernel)
theorem kf_X5_40 : Cond.fieldLink RX5 40 "CaseManager$Program" "flags" "LCaseManager$Row;" ∈ WA := WA_of (i := 335) (by decide +kernel) (by decide +kernel)
theorem kfn_X9_414 : Cond.fieldLinkNest RX9 414 "CaseManager$Program" "flags" "LCaseManager$Row;" "CaseManager" ∈ WN := WN_of (i := 336) (by decide +kernel) (by decide +kernel)
theorem kf_X5_43 : Cond.fieldLink RX5 43 "CaseManager$Program" "strengths" "LCaseManager$Row;" ∈ WA := WA_of (i := 337) (by decide +kernel) (by decide +kernel)
theorem kfn_X9_408 : Cond.fieldLinkNest RX9 408 "CaseManager$Program" "strengths" "LCaseManager$Row;" "CaseManager" ∈ WN := WN_of (i := 338) (by decide +kernel) (by decide +kernel)
theorem kc_X9_50 : Cond.classLink RX9 50 RJ4 ∈ WA := WA_of (i := 356) (by decide +kernel) (by decide +kernel)
theorem kl_X9_52 : Cond.methodLink RX9 52 yJ4_init_da8c8 ∈ WA := WA_of (i := 357) (by decide +kernel) (by decide +kernel)
theorem kf_X9_10 : Cond.fieldLink RX9 10 "CaseManager" "court" "LCaseManager$Court;" ∈ WA := WA_of (i := 358) (by decide +kernel) (by decide +kernel)
theorem kf_X9_16 : Cond.fieldLink RX9 16 "CaseManager" "beforeRun" "LCaseManager$Court;" ∈ WA := WA_of (i := 359) (by decide +kernel) (by decide +kernel)
theorem kf_X9_19 : Cond.fieldLink RX9 19 "CaseManager" "saved" "LCaseManager$Court;" ∈ WA := WA_of (i := 360) (by decide +kernel) (by decide +kernel)
theorem kf_X9_25 : Cond.fieldLink RX9 25 "CaseManager" "history" "LCaseManager$History;" ∈ WA := WA_of (i := 361) (by decide +kernel) (by decide +kernel)
theorem kf_X9_32 : Cond.fieldLink RX9 32 "CaseManager" "docket" "LCaseManager$Docket;" ∈ WA := WA_of (i := 362) (by decide +kernel) (by decide +kernel)
theorem kf_X9_39 : Cond.fieldLink RX9 39 "CaseManager" "search" "LCaseManager$Search;" ∈ WA := WA_of (i := 363) (by decide +kernel) (by decide +kernel)
theorem kf_X9_46 : Cond.fieldLink RX9 46 "CaseManager" "program" "LCaseManager$Program;" ∈ WA := WA_of (i := 364) (by decide +kernel) (by decide +kernel)
theorem kf_X9_53 : Cond.fieldLink RX9 53 "CaseManager" "line" "Ljava/lang/StringBuilder;" ∈ WA := WA_of (i := 365) (by decide +kernel) (by decide +kernel)
theorem kf_X9_57 : Cond.fieldLink RX9 57 "CaseManager" "hasSaved" "Z" ∈ WA := WA_of (i := 366) (by decide +kernel) (by decide +kernel)
theorem kf_X9_61 : Cond.fieldLink RX9 61 "CaseManager" "storedError" "I" ∈ WA := WA_of (i := 367) (by decide +kernel) (by decide +kernel)
theorem kf_X9_65 : Cond.fieldLink RX9 65 "CaseManager" "storedFailure" "I" ∈ WA := WA_of (i := 368) (by decide +kernel) (by decide +kernel)
theorem kf_X9_68 : Cond.fieldLink RX9 68 "CaseManager" "isStoredFailureOfState" "Z" ∈ WA := WA_of (i := 369) (by decide +kernel) (by decide +kernel)
theorem kl_L_220 : Cond.methodLink RL 220 yX9_caseCount ∈ WA := WA_of (i := 395) (by decide +kernel) (by decide +kernel)
theorem kl_L_266 : Cond.methodLink RL 266 yX9_witnessCount ∈ WA := WA_of (i := 399) (by decide +kernel) (by decide +kernel)
theorem kl_L_291 : Cond.methodLink RL 291 yX9_groupCount ∈ WA := WA_of (i := 403) (by decide +kernel) (by decide +kernel)
theorem kl_X9_196 : Cond.methodLink RX9 196 yX3_countAmong ∈ WA := WA_of (i := 407) (by decide +kernel) (by decide +kernel)
theorem kl_X3_32 : Cond.methodLink RX3 32 yX6_get ∈ WA := WA_of (i := 411) (by decide +kernel) (by decide +kernel)
theorem kl_L_323 : Cond.methodLink RL 323 yX9_mostSentenced ∈ WA := WA_of (i := 415) (by decide +kernel) (by decide +kernel)
theorem kl_X9_109 : Cond.methodLink RX9 109 yX6_get ∈ WA := WA_of (i := 419) (by decide +kernel) (by decide +kernel)
theorem kl_L_327 : Cond.methodLink RL 327 yX9_docketLength ∈ WA := WA_of (i := 420) (by decide +kernel) (by decide +kernel)
theorem kl_X9_241 : Cond.methodLink RX9 241 yX0_countIn ∈ WA := WA_of (i := 424) (by decide +kernel) (by decide +kernel)
theorem kl_X0_160 : Cond.methodLink RX0 160 yX0_isIn ∈ WA := WA_of (i := 428) (by decide +kernel) (by decide +kernel)
theorem kl_X0_157 : Cond.methodLink RX0 157 yX6_get ∈ WA := WA_of (i := 432) (by decide +kernel) (by decide +kernel)
theorem kl_L_337 : Cond.methodLink RL 337 yX9_closedCount ∈ WA := WA_of (i := 433) (by decide +kernel) (by decide +kernel)
theorem kl_L_341 : Cond.methodLink RL 341 yX9_guiltyCount ∈ WA := WA_of (i := 437) (by decide +kernel) (by decide +kernel)
theorem kl_X9_257 : Cond.methodLink RX9 257 yX0_countGuilty ∈ WA := WA_of (i := 441) (by decide +kernel) (by decide +kernel)
theorem kl_X0_209 : Cond.methodLink RX0 209 yX0_isFoundGuilty ∈ WA := WA_of (i := 445) (by decide +kernel) (by decide +kernel)
theorem kl_L_345 : Cond.methodLink RL 345 yX9_decisionCount ∈ WA := WA_of (i := 449) (by decide +kernel) (by decide +kernel)
theorem kl_L_349 : Cond.methodLink RL 349 yX9_questionTotal ∈ WA := WA_of (i := 453) (by decide +kernel) (by decide +kernel)
theorem kl_L_360 : Cond.methodLink RL 360 yX9_isConsistent ∈ WA := WA_of (i := 457) (by decide +kernel) (by decide +kernel)
theorem kl_X9_277 : Cond.methodLink RX9 277 yX9_doMarginsAgree ∈ WA := WA_of (i := 461) (by decide +kernel) (by decide +kernel)
theorem kl_X9_221 : Cond.methodLink RX9 221 yX8_marginByTestimony ∈ WA := WA_of (i := 465) (by decide +kernel) (by decide +kernel)
theorem kl_X8_31 : Cond.methodLink RX8 31 yX0_severityIn ∈ WA := WA_of (i := 468) (by decide +kernel) (by decide +kernel)
theorem kl_X8_15 : Cond.methodLink RX8 15 yX6_get ∈ WA := WA_of (i := 472) (by decide +kernel) (by decide +kernel)
theorem kl_X8_21 : Cond.methodLink RX8 21 yX0_witnessHeardAt ∈ WA := WA_of (i := 473) (by decide +kernel) (by decide +kernel)
theorem kl_X8_25 : Cond.methodLink RX8 25 yX0_sideOf ∈ WA := WA_of (i := 477) (by decide +kernel) (by decide +kernel)
theorem kl_X0_180 : Cond.methodLink RX0 180 yX0_cellOf ∈ WA := WA_of (i := 481) (by decide +kernel) (by decide +kernel)
theorem kl_X8_28 : Cond.methodLink RX8 28 yX0_weightOf ∈ WA := WA_of (i := 484) (by decide +kernel) (by decide +kernel)
theorem kl_X9_224 : Cond.methodLink RX9 224 yX8_marginByLevel ∈ WA := WA_of (i := 488) (by decide +kernel) (by decide +kernel)
theorem kl_X8_34 : Cond.methodLink RX8 34 yX8_signedStrengthsAt ∈ WA := WA_of (i := 491) (by decide +kernel) (by decide +kernel)
theorem kl_X8_43 : Cond.methodLink RX8 43 yX0_strengthOf ∈ WA := WA_of (i := 494) (by decide +kernel) (by decide +kernel)
theorem kl_X9_281 : Cond.methodLink RX9 281 yX9_doSentencesAgree ∈ WA := WA_of (i := 498) (by decide +kernel) (by decide +kernel)
theorem kl_X9_238 : Cond.methodLink RX9 238 yX0_addedSentence ∈ WA := WA_of (i := 502) (by decide +kernel) (by decide +kernel)
theorem kl_X0_206 : Cond.methodLink RX0 206 yX0_severityIn ∈ WA := WA_of (i := 506) (by decide +kernel) (by decide +kernel)
theorem kl_X9_284 : Cond.methodLink RX9 284 yX9_doConnectionsAgree ∈ WA := WA_of (i := 507) (by decide +kernel) (by decide +kernel)
theorem kl_X9_186 : Cond.methodLink RX9 186 yX7_startAt ∈ WA := WA_of (i := 511) (by decide +kernel) (by decide +kernel)
theorem kl_X7_27 : Cond.methodLink RX7 27 yX6_clear ∈ WA := WA_of (i := 515) (by decide +kernel) (by decide +kernel)
theorem kl_X7_30 : Cond.methodLink RX7 30 yX7_reach ∈ WA := WA_of (i := 519) (by decide +kernel) (by decide +kernel)
theorem kl_X7_33 : Cond.methodLink RX7 33 yX6_get ∈ WA := WA_of (i := 523) (by decide +kernel) (by decide +kernel)
theorem kl_X7_60 : Cond.methodLink RX7 60 yX6_put ∈ WA := WA_of (i := 524) (by decide +kernel) (by decide +kernel)
theorem kl_X7_37 : Cond.methodLink RX7 37 yX7_spreadFrom ∈ WA := WA_of (i := 528) (by decide +kernel) (by decide +kernel)
theorem kl_X7_46 : Cond.methodLink RX7 46 yX0_hasHeard ∈ WA := WA_of (i := 532) (by decide +kernel) (by decide +kernel)
theorem kl_X7_50 : Cond.methodLink RX7 50 yX7_reachAllOf ∈ WA := WA_of (i := 536) (by decide +kernel) (by decide +kernel)
theorem kl_X7_56 : Cond.methodLink RX7 56 yX0_witnessHeardAt ∈ WA := WA_of (i := 540) (by decide +kernel) (by decide +kernel)
theorem kl_X9_181 : Cond.methodLink RX9 181 yX3_areUnited ∈ WA := WA_of (i := 541) (by decide +kernel) (by decide +kernel)
theorem kl_X3_24 : Cond.methodLink RX3 24 yX3_rootOf ∈ WA := WA_of (i := 545) (by decide +kernel) (by decide +kernel)
theorem kl_X9_190 : Cond.methodLink RX9 190 yX7_hasReached ∈ WA := WA_of (i := 549) (by decide +kernel) (by decide +kernel)
theorem kl_X9_287 : Cond.methodLink RX9 287 yX9_doesDocketAgree ∈ WA := WA_of (i := 553) (by decide +kernel) (by decide +kernel)
theorem kl_X9_207 : Cond.methodLink RX9 207 yX1_fill ∈ WA := WA_of (i := 557) (by decide +kernel) (by decide +kernel)
theorem kl_X1_29 : Cond.methodLink RX1 29 yX0_isIn ∈ WA := WA_of (i := 561) (by decide +kernel) (by decide +kernel)
theorem kl_X1_33 : Cond.methodLink RX1 33 yX1_insert ∈ WA := WA_of (i := 562) (by decide +kernel) (by decide +kernel)
theorem kl_X1_37 : Cond.methodLink RX1 37 yX6_get ∈ WA := WA_of (i := 566) (by decide +kernel) (by decide +kernel)
theorem kl_X1_41 : Cond.methodLink RX1 41 yX0_comesBefore ∈ WA := WA_of (i := 567) (by decide +kernel) (by decide +kernel)
theorem kl_X1_44 : Cond.methodLink RX1 44 yX6_put ∈ WA := WA_of (i := 571) (by decide +kernel) (by decide +kernel)
theorem kl_X9_118 : Cond.methodLink RX9 118 yX0_isIn ∈ WA := WA_of (i := 572) (by decide +kernel) (by decide +kernel)
theorem kl_X9_254 : Cond.methodLink RX9 254 yX0_openCasesBefore ∈ WA := WA_of (i := 573) (by decide +kernel) (by decide +kernel)
theorem kl_X0_227 : Cond.methodLink RX0 227 yX0_comesBefore ∈ WA := WA_of (i := 577) (by decide +kernel) (by decide +kernel)
theorem kl_X9_431 : Cond.methodLink RX9 431 yX1_holdsAt ∈ WA := WA_of (i := 578) (by decide +kernel) (by decide +kernel)
theorem kl_L_389 : Cond.methodLink RL 389 yX9_undoableCount ∈ WA := WA_of (i := 582) (by decide +kernel) (by decide +kernel)
theorem kl_L_396 : Cond.methodLink RL 396 yX9_save ∈ WA := WA_of (i := 586) (by decide +kernel) (by decide +kernel)
theorem kl_X9_354 : Cond.methodLink RX9 354 yX0_copyFrom ∈ WA := WA_of (i := 590) (by decide +kernel) (by decide +kernel)
theorem kl_X0_73 : Cond.methodLink RX0 73 yX6_copyFrom ∈ WA := WA_of (i := 594) (by decide +kernel) (by decide +kernel)
theorem kl_X6_21 : Cond.methodLink RX6 21 yJ9_min_7cf53 ∈ WA := WA_of (i := 598) (by decide +kernel) (by decide +kernel)
theorem kl_X6_27 : Cond.methodLink RX6 27 ⟨"java/lang/System", "arraycopy", "(Ljava/lang/Object;ILjava/lang/Object;II)V"⟩ ∈ WA := WA_of (i := 601) (by decide +kernel) (by decide +kernel)
theorem kl_L_190 : Cond.methodLink RL 190 yL_charge ∈ WA := WA_of (i := 604) (by decide +kernel) (by decide +kernel)
theorem kc_L_13 : Cond.classLink RL 13 "java/lang/IllegalArgumentException" ∈ WA := WA_of (i := 607) (by decide +kernel) (by decide +kernel)
theorem kc_L_15 : Cond.classLink RL 15 "java/lang/IllegalStateException" ∈ WA := WA_of (i := 608) (by decide +kernel) (by decide +kernel)
theorem kl_L_7 : Cond.methodLink RL 7 yX9_charge ∈ WA := WA_of (i := 609) (by decide +kernel) (by decide +kernel)
theorem kl_X9_71 : Cond.methodLink RX9 71 yX9_change ∈ WA := WA_of (i := 613) (by decide +kernel) (by decide +kernel)
theorem kl_X9_362 : Cond.methodLink RX9 362 yX0_faultOf ∈ WA := WA_of (i := 617) (by decide +kernel) (by decide +kernel)
theorem kl_X0_80 : Cond.methodLink RX0 80 yX0_faultOfCharge ∈ WA := WA_of (i := 621) (by decide +kernel) (by decide +kernel)
theorem kln_X0_126 : Cond.methodLinkNest RX0 126 yX9_isDefendant "CaseManager" ∈ WN := WN_of (i := 625) (by decide +kernel) (by decide +kernel)
theorem kln_X0_130 : Cond.methodLinkNest RX0 130 yX9_isOffence "CaseManager" ∈ WN := WN_of (i := 628) (by decide +kernel) (by decide +kernel)
theorem kf_X0_133 : Cond.fieldLink RX0 133 "CaseManager$Fault" "ARGUMENT" "LCaseManager$Fault;" ∈ WA := WA_of (i := 631) (by decide +kernel) (by decide +kernel)
theorem kl_X0_139 : Cond.methodLink RX0 139 yX0_caseAgainst ∈ WA := WA_of (i := 633) (by decide +kernel) (by decide +kernel)
theorem kf_X0_142 : Cond.fieldLink RX0 142 "CaseManager$Fault" "STATE" "LCaseManager$Fault;" ∈ WA := WA_of (i := 637) (by decide +kernel) (by decide +kernel)
theorem kf_X0_145 : Cond.fieldLink RX0 145 "CaseManager$Fault" "NONE" "LCaseManager$Fault;" ∈ WA := WA_of (i := 639) (by decide +kernel) (by decide +kernel)
theorem kl_X0_84 : Cond.methodLink RX0 84 yX0_faultOfWitness ∈ WA := WA_of (i := 641) (by decide +kernel) (by decide +kernel)
theorem kl_X0_88 : Cond.methodLink RX0 88 yX0_faultOfTestimony ∈ WA := WA_of (i := 645) (by decide +kernel) (by decide +kernel)
theorem kl_X0_148 : Cond.methodLink RX0 148 yX0_hasCase ∈ WA := WA_of (i := 649) (by decide +kernel) (by decide +kernel)
theorem kl_X0_151 : Cond.methodLink RX0 151 yX0_hasWitness ∈ WA := WA_of (i := 653) (by decide +kernel) (by decide +kernel)
theorem kf_X0_154 : Cond.fieldLink RX0 154 "CaseManager$Fault" "INDEX" "LCaseManager$Fault;" ∈ WA := WA_of (i := 657) (by decide +kernel) (by decide +kernel)
theorem kl_X0_164 : Cond.methodLink RX0 164 yX0_hasHeard ∈ WA := WA_of (i := 659) (by decide +kernel) (by decide +kernel)
theorem kl_X0_92 : Cond.methodLink RX0 92 yX0_faultOfQuestion ∈ WA := WA_of (i := 660) (by decide +kernel) (by decide +kernel)
theorem kf_X0_167 : Cond.fieldLink RX0 167 "CaseManager$Fault" "ELEMENT" "LCaseManager$Fault;" ∈ WA := WA_of (i := 664) (by decide +kernel) (by decide +kernel)
theorem kl_X0_170 : Cond.methodLink RX0 170 yX0_questionsTo ∈ WA := WA_of (i := 666) (by decide +kernel) (by decide +kernel)
theorem kl_X0_95 : Cond.methodLink RX0 95 yX0_faultOfDecision ∈ WA := WA_of (i := 670) (by decide +kernel) (by decide +kernel)
theorem kl_X0_98 : Cond.methodLink RX0 98 yX0_faultAfterVerdict ∈ WA := WA_of (i := 674) (by decide +kernel) (by decide +kernel)
theorem kl_X9_366 : Cond.methodLink RX9 366 yX9_refuse ∈ WA := WA_of (i := 678) (by decide +kernel) (by decide +kernel)
theorem kf_X9_376 : Cond.fieldLink RX9 376 "CaseManager$Fault" "INDEX" "LCaseManager$Fault;" ∈ WA := WA_of (i := 681) (by decide +kernel) (by decide +kernel)
theorem kc_X9_308 : Cond.classLink RX9 308 "java/lang/IndexOutOfBoundsException" ∈ WA := WA_of (i := 682) (by decide +kernel) (by decide +kernel)
theorem kl_X9_312 : Cond.methodLink RX9 312 ⟨"java/lang/IndexOutOfBoundsException", "<init>", "(Ljava/lang/String;)V"⟩ ∈ WA := WA_of (i := 729) (by decide +kernel) (by decide +kernel)
theorem kf_X9_384 : Cond.fieldLink RX9 384 "CaseManager$Fault" "ARGUMENT" "LCaseManager$Fault;" ∈ WA := WA_of (i := 754) (by decide +kernel) (by decide +kernel)
theorem kc_X9_85 : Cond.classLink RX9 85 "java/lang/IllegalArgumentException" ∈ WA := WA_of (i := 755) (by decide +kernel) (by decide +kernel)
theorem kl_X9_89 : Cond.methodLink RX9 89 ⟨"java/lang/IllegalArgumentException", "<init>", "(Ljava/lang/String;)V"⟩ ∈ WA := WA_of (i := 765) (by decide +kernel) (by decide +kernel)
theorem kf_X9_389 : Cond.fieldLink RX9 389 "CaseManager$Fault" "ELEMENT" "LCaseManager$Fault;" ∈ WA := WA_of (i := 771) (by decide +kernel) (by decide +kernel)
theorem kc_X9_96 : Cond.classLink RX9 96 "java/util/NoSuchElementException" ∈ WA := WA_of (i := 772) (by decide +kernel) (by decide +kernel)
theorem kl_X9_100 : Cond.methodLink RX9 100 ⟨"java/util/NoSuchElementException", "<init>", "(Ljava/lang/String;)V"⟩ ∈ WA := WA_of (i := 782) (by decide +kernel) (by decide +kernel)
theorem kf_X9_394 : Cond.fieldLink RX9 394 "CaseManager$Fault" "STATE" "LCaseManager$Fault;" ∈ WA := WA_of (i := 788) (by decide +kernel) (by decide +kernel)
theorem kc_X9_122 : Cond.classLink RX9 122 "java/lang/IllegalStateException" ∈ WA := WA_of (i := 789) (by decide +kernel) (by decide +kernel)
theorem kl_X9_126 : Cond.methodLink RX9 126 ⟨"java/lang/IllegalStateException", "<init>", "(Ljava/lang/String;)V"⟩ ∈ WA := WA_of (i := 799) (by decide +kernel) (by decide +kernel)
theorem kl_X9_370 : Cond.methodLink RX9 370 yX4_keep ∈ WA := WA_of (i := 805) (by decide +kernel) (by decide +kernel)
theorem kl_X4_25 : Cond.methodLink RX4 25 yX4_placeAt ∈ WA := WA_of (i := 809) (by decide +kernel) (by decide +kernel)
theorem kl_X4_29 : Cond.methodLink RX4 29 yX0_copyFrom ∈ WA := WA_of (i := 813) (by decide +kernel) (by decide +kernel)
theorem kl_X4_33 : Cond.methodLink RX4 33 yJ9_min_7cf53 ∈ WA := WA_of (i := 814) (by decide +kernel) (by decide +kernel)
theorem kl_X9_373 : Cond.methodLink RX9 373 yX0_perform ∈ WA := WA_of (i := 815) (by decide +kernel) (by decide +kernel)
theorem kl_X0_101 : Cond.methodLink RX0 101 yX0_openCase ∈ WA := WA_of (i := 819) (by decide +kernel) (by decide +kernel)
theorem kl_X0_173 : Cond.methodLink RX0 173 yX6_put ∈ WA := WA_of (i := 823) (by decide +kernel) (by decide +kernel)
theorem kl_X0_105 : Cond.methodLink RX0 105 yX0_register ∈ WA := WA_of (i := 824) (by decide +kernel) (by decide +kernel)
theorem kl_X0_177 : Cond.methodLink RX0 177 yX3_found ∈ WA := WA_of (i := 828) (by decide +kernel) (by decide +kernel)
theorem kl_X3_20 : Cond.methodLink RX3 20 yX6_put ∈ WA := WA_of (i := 832) (by decide +kernel) (by decide +kernel)
theorem kl_X0_109 : Cond.methodLink RX0 109 yX0_hear ∈ WA := WA_of (i := 833) (by decide +kernel) (by decide +kernel)
theorem kl_X0_183 : Cond.methodLink RX0 183 yX0_witnessHeardAt ∈ WA := WA_of (i := 837) (by decide +kernel) (by decide +kernel)
theorem kl_X0_186 : Cond.methodLink RX0 186 yX3_unite ∈ WA := WA_of (i := 838) (by decide +kernel) (by decide +kernel)
theorem kl_X0_113 : Cond.methodLink RX0 113 yX0_ask ∈ WA := WA_of (i := 842) (by decide +kernel) (by decide +kernel)
theorem kl_X0_189 : Cond.methodLink RX0 189 yJ9_min_7cf53 ∈ WA := WA_of (i := 846) (by decide +kernel) (by decide +kernel)
theorem kl_X0_194 : Cond.methodLink RX0 194 yJ9_max_7cf53 ∈ WA := WA_of (i := 847) (by decide +kernel) (by decide +kernel)
theorem kl_X0_197 : Cond.methodLink RX0 197 yX6_add ∈ WA := WA_of (i := 850) (by decide +kernel) (by decide +kernel)
theorem kl_X6_13 : Cond.methodLink RX6 13 yX6_get ∈ WA := WA_of (i := 854) (by decide +kernel) (by decide +kernel)
theorem kl_X6_17 : Cond.methodLink RX6 17 yX6_put ∈ WA := WA_of (i := 855) (by decide +kernel) (by decide +kernel)
theorem kl_X0_117 : Cond.methodLink RX0 117 yX0_judge ∈ WA := WA_of (i := 856) (by decide +kernel) (by decide +kernel)
theorem kl_X0_200 : Cond.methodLink RX0 200 yX8_marginByTestimony ∈ WA := WA_of (i := 860) (by decide +kernel) (by decide +kernel)
theorem kl_X0_120 : Cond.methodLink RX0 120 yX0_reopen ∈ WA := WA_of (i := 861) (by decide +kernel) (by decide +kernel)
theorem kl_X0_123 : Cond.methodLink RX0 123 yX0_finish ∈ WA := WA_of (i := 865) (by decide +kernel) (by decide +kernel)
theorem kl_X0_212 : Cond.methodLink RX0 212 yX0_countIn ∈ WA := WA_of (i := 869) (by decide +kernel) (by decide +kernel)
theorem kl_L_199 : Cond.methodLink RL 199 yL_addWitness ∈ WA := WA_of (i := 870) (by decide +kernel) (by decide +kernel)
theorem kl_L_17 : Cond.methodLink RL 17 yX9_addWitness ∈ WA := WA_of (i := 873) (by decide +kernel) (by decide +kernel)
theorem kl_L_203 : Cond.methodLink RL 203 yL_testify ∈ WA := WA_of (i := 877) (by decide +kernel) (by decide +kernel)
theorem kc_L_25 : Cond.classLink RL 25 "java/lang/IndexOutOfBoundsException" ∈ WA := WA_of (i := 880) (by decide +kernel) (by decide +kernel)
theorem kl_Jx00060_7 : Cond.methodLink RJx00060 7 ⟨"java/lang/IndexOutOfBoundsException", "<init>", "(Ljava/lang/String;)V"⟩ ∈ WA := WA_of (i := 884) (by decide +kernel) (by decide +kernel)
theorem kl_L_21 : Cond.methodLink RL 21 yX9_testify ∈ WA := WA_of (i := 901) (by decide +kernel) (by decide +kernel)
theorem kl_L_207 : Cond.methodLink RL 207 yL_question ∈ WA := WA_of (i := 905) (by decide +kernel) (by decide +kernel)
theorem kc_L_31 : Cond.classLink RL 31 "java/util/NoSuchElementException" ∈ WA := WA_of (i := 908) (by decide +kernel) (by decide +kernel)
theorem kl_L_27 : Cond.methodLink RL 27 yX9_question ∈ WA := WA_of (i := 909) (by decide +kernel) (by decide +kernel)
theorem kl_L_211 : Cond.methodLink RL 211 yL_decide ∈ WA := WA_of (i := 913) (by decide +kernel) (by decide +kernel)
theorem kl_L_33 : Cond.methodLink RL 33 yX9_decide ∈ WA := WA_of (i := 916) (by decide +kernel) (by decide +kernel)
theorem kl_L_214 : Cond.methodLink RL 214 yL_appeal ∈ WA := WA_of (i := 920) (by decide +kernel) (by decide +kernel)
theorem kl_L_37 : Cond.methodLink RL 37 yX9_appeal ∈ WA := WA_of (i := 923) (by decide +kernel) (by decide +kernel)
theorem kl_L_217 : Cond.methodLink RL 217 yL_close ∈ WA := WA_of (i := 927) (by decide +kernel) (by decide +kernel)
theorem kl_L_40 : Cond.methodLink RL 40 yX9_close ∈ WA := WA_of (i := 930) (by decide +kernel) (by decide +kernel)
theorem kl_L_224 : Cond.methodLink RL 224 yL_caseOf ∈ WA := WA_of (i := 934) (by decide +kernel) (by decide +kernel)
theorem kl_L_43 : Cond.methodLink RL 43 yX9_caseOf ∈ WA := WA_of (i := 937) (by decide +kernel) (by decide +kernel)
theorem kl_X9_78 : Cond.methodLink RX9 78 yX9_isDefendant ∈ WA := WA_of (i := 941) (by decide +kernel) (by decide +kernel)
theorem kl_X9_82 : Cond.methodLink RX9 82 yX9_isOffence ∈ WA := WA_of (i := 942) (by decide +kernel) (by decide +kernel)
theorem kl_X9_92 : Cond.methodLink RX9 92 yX0_caseAgainst ∈ WA := WA_of (i := 944) (by decide +kernel) (by decide +kernel)
theorem kl_L_227 : Cond.methodLink RL 227 yL_defendantOf ∈ WA := WA_of (i := 946) (by decide +kernel) (by decide +kernel)
theorem kl_L_46 : Cond.methodLink RL 46 yX9_defendantOf ∈ WA := WA_of (i := 949) (by decide +kernel) (by decide +kernel)
theorem kl_X9_101 : Cond.methodLink RX9 101 yX9_needCase ∈ WA := WA_of (i := 953) (by decide +kernel) (by decide +kernel)
theorem kl_X9_417 : Cond.methodLink RX9 417 yX0_hasCase ∈ WA := WA_of (i := 957) (by decide +kernel) (by decide +kernel)
theorem kl_L_230 : Cond.methodLink RL 230 yL_offenceOf ∈ WA := WA_of (i := 959) (by decide +kernel) (by decide +kernel)
theorem kl_L_49 : Cond.methodLink RL 49 yX9_offenceOf ∈ WA := WA_of (i := 962) (by decide +kernel) (by decide +kernel)
theorem kl_L_233 : Cond.methodLink RL 233 yL_isOpen ∈ WA := WA_of (i := 966) (by decide +kernel) (by decide +kernel)
theorem kl_L_52 : Cond.methodLink RL 52 yX9_isOpen ∈ WA := WA_of (i := 969) (by decide +kernel) (by decide +kernel)
theorem kl_L_236 : Cond.methodLink RL 236 yL_isDecided ∈ WA := WA_of (i := 973) (by decide +kernel) (by decide +kernel)
theorem kl_L_55 : Cond.methodLink RL 55 yX9_isDecided ∈ WA := WA_of (i := 976) (by decide +kernel) (by decide +kernel)
theorem kl_L_239 : Cond.methodLink RL 239 yL_isClosed ∈ WA := WA_of (i := 980) (by decide +kernel) (by decide +kernel)
theorem kl_L_58 : Cond.methodLink RL 58 yX9_isClosed ∈ WA := WA_of (i := 983) (by decide +kernel) (by decide +kernel)
theorem kl_L_242 : Cond.methodLink RL 242 yL_isGuilty ∈ WA := WA_of (i := 987) (by decide +kernel) (by decide +kernel)
theorem kl_L_61 : Cond.methodLink RL 61 yX9_isGuilty ∈ WA := WA_of (i := 990) (by decide +kernel) (by decide +kernel)
theorem kl_X9_127 : Cond.methodLink RX9 127 yX0_isFoundGuilty ∈ WA := WA_of (i := 995) (by decide +kernel) (by decide +kernel)
theorem kl_L_245 : Cond.methodLink RL 245 yL_appealCount ∈ WA := WA_of (i := 996) (by decide +kernel) (by decide +kernel)
theorem kl_L_64 : Cond.methodLink RL 64 yX9_appealCount ∈ WA := WA_of (i := 999) (by decide +kernel) (by decide +kernel)
theorem kl_L_248 : Cond.methodLink RL 248 yL_testimonyCount ∈ WA := WA_of (i := 1003) (by decide +kernel) (by decide +kernel)
theorem kl_L_67 : Cond.methodLink RL 67 yX9_testimonyCount ∈ WA := WA_of (i := 1006) (by decide +kernel) (by decide +kernel)
theorem kl_L_251 : Cond.methodLink RL 251 yL_witnessAt ∈ WA := WA_of (i := 1010) (by decide +kernel) (by decide +kernel)
theorem kl_L_70 : Cond.methodLink RL 70 yX9_witnessAt ∈ WA := WA_of (i := 1013) (by decide +kernel) (by decide +kernel)
theorem kl_X9_138 : Cond.methodLink RX9 138 yX0_witnessHeardAt ∈ WA := WA_of (i := 1018) (by decide +kernel) (by decide +kernel)
theorem kl_L_254 : Cond.methodLink RL 254 yL_hasTestified ∈ WA := WA_of (i := 1019) (by decide +kernel) (by decide +kernel)
theorem kl_L_73 : Cond.methodLink RL 73 yX9_hasTestified ∈ WA := WA_of (i := 1022) (by decide +kernel) (by decide +kernel)
theorem kl_X9_141 : Cond.methodLink RX9 141 yX9_needWitness ∈ WA := WA_of (i := 1026) (by decide +kernel) (by decide +kernel)
theorem kl_X9_422 : Cond.methodLink RX9 422 yX0_hasWitness ∈ WA := WA_of (i := 1030) (by decide +kernel) (by decide +kernel)
theorem kl_X9_144 : Cond.methodLink RX9 144 yX0_hasHeard ∈ WA := WA_of (i := 1032) (by decide +kernel) (by decide +kernel)
theorem kl_L_257 : Cond.methodLink RL 257 yL_isForProsecution ∈ WA := WA_of (i := 1033) (by decide +kernel) (by decide +kernel)
theorem kl_L_77 : Cond.methodLink RL 77 yX9_isForProsecution ∈ WA := WA_of (i := 1036) (by decide +kernel) (by decide +kernel)
theorem kl_X9_147 : Cond.methodLink RX9 147 yX9_needTestimony ∈ WA := WA_of (i := 1040) (by decide +kernel) (by decide +kernel)
theorem kl_X9_151 : Cond.methodLink RX9 151 yX0_sideOf ∈ WA := WA_of (i := 1044) (by decide +kernel) (by decide +kernel)
theorem kl_L_260 : Cond.methodLink RL 260 yL_strength ∈ WA := WA_of (i := 1045) (by decide +kernel) (by decide +kernel)
theorem kl_L_80 : Cond.methodLink RL 80 yX9_strength ∈ WA := WA_of (i := 1048) (by decide +kernel) (by decide +kernel)
theorem kl_X9_154 : Cond.methodLink RX9 154 yX0_strengthOf ∈ WA := WA_of (i := 1052) (by decide +kernel) (by decide +kernel)
theorem kl_L_263 : Cond.methodLink RL 263 yL_questionCount ∈ WA := WA_of (i := 1053) (by decide +kernel) (by decide +kernel)
theorem kl_L_83 : Cond.methodLink RL 83 yX9_questionCount ∈ WA := WA_of (i := 1056) (by decide +kernel) (by decide +kernel)
theorem kl_X9_157 : Cond.methodLink RX9 157 yX0_questionsTo ∈ WA := WA_of (i := 1060) (by decide +kernel) (by decide +kernel)
theorem kl_L_270 : Cond.methodLink RL 270 yL_credibility ∈ WA := WA_of (i := 1061) (by decide +kernel) (by decide +kernel)
theorem kl_L_86 : Cond.methodLink RL 86 yX9_credibility ∈ WA := WA_of (i := 1064) (by decide +kernel) (by decide +kernel)
theorem kl_L_273 : Cond.methodLink RL 273 yL_casesOfWitness ∈ WA := WA_of (i := 1068) (by decide +kernel) (by decide +kernel)
theorem kl_L_89 : Cond.methodLink RL 89 yX9_casesOfWitness ∈ WA := WA_of (i := 1071) (by decide +kernel) (by decide +kernel)
theorem kl_X9_166 : Cond.methodLink RX9 166 yX0_casesHearing ∈ WA := WA_of (i := 1075) (by decide +kernel) (by decide +kernel)
theorem kl_L_276 : Cond.methodLink RL 276 yL_mostCredible ∈ WA := WA_of (i := 1079) (by decide +kernel) (by decide +kernel)
theorem kl_L_92 : Cond.methodLink RL 92 yX9_mostCredible ∈ WA := WA_of (i := 1082) (by decide +kernel) (by decide +kernel)
theorem kl_X9_169 : Cond.methodLink RX9 169 yX0_witnessOfRank ∈ WA := WA_of (i := 1086) (by decide +kernel) (by decide +kernel)
theorem kl_X0_218 : Cond.methodLink RX0 218 yX0_rankOf ∈ WA := WA_of (i := 1090) (by decide +kernel) (by decide +kernel)
theorem kl_X0_221 : Cond.methodLink RX0 221 yX0_isMoreCredible ∈ WA := WA_of (i := 1094) (by decide +kernel) (by decide +kernel)
theorem kl_X0_224 : Cond.methodLink RX0 224 yX0_casesHearing ∈ WA := WA_of (i := 1098) (by decide +kernel) (by decide +kernel)
theorem kl_L_279 : Cond.methodLink RL 279 yL_agreement ∈ WA := WA_of (i := 1100) (by decide +kernel) (by decide +kernel)
theorem kl_L_95 : Cond.methodLink RL 95 yX9_agreement ∈ WA := WA_of (i := 1103) (by decide +kernel) (by decide +kernel)
theorem kl_X9_174 : Cond.methodLink RX9 174 yX0_agreementOf ∈ WA := WA_of (i := 1107) (by decide +kernel) (by decide +kernel)
theorem kl_X0_215 : Cond.methodLink RX0 215 yX0_sideOf ∈ WA := WA_of (i := 1111) (by decide +kernel) (by decide +kernel)
theorem kl_L_282 : Cond.methodLink RL 282 yL_areConnected ∈ WA := WA_of (i := 1112) (by decide +kernel) (by decide +kernel)
theorem kl_L_98 : Cond.methodLink RL 98 yX9_areConnected ∈ WA := WA_of (i := 1115) (by decide +kernel) (by decide +kernel)
theorem kl_L_285 : Cond.methodLink RL 285 yL_areConnectedBySearch ∈ WA := WA_of (i := 1119) (by decide +kernel) (by decide +kernel)
theorem kl_L_101 : Cond.methodLink RL 101 yX9_areConnectedBySearch ∈ WA := WA_of (i := 1122) (by decide +kernel) (by decide +kernel)
theorem kl_L_288 : Cond.methodLink RL 288 yL_groupSize ∈ WA := WA_of (i := 1126) (by decide +kernel) (by decide +kernel)
theorem kl_L_104 : Cond.methodLink RL 104 yX9_groupSize ∈ WA := WA_of (i := 1129) (by decide +kernel) (by decide +kernel)
theorem kl_X9_193 : Cond.methodLink RX9 193 yX3_sizeAround ∈ WA := WA_of (i := 1133) (by decide +kernel) (by decide +kernel)
theorem kl_X3_28 : Cond.methodLink RX3 28 yX3_areUnited ∈ WA := WA_of (i := 1137) (by decide +kernel) (by decide +kernel)
theorem kl_L_295 : Cond.methodLink RL 295 yL_heaviestWitness ∈ WA := WA_of (i := 1138) (by decide +kernel) (by decide +kernel)
theorem kl_L_107 : Cond.methodLink RL 107 yX9_heaviestWitness ∈ WA := WA_of (i := 1141) (by decide +kernel) (by decide +kernel)
theorem kl_X9_201 : Cond.methodLink RX9 201 yX8_heaviestIn ∈ WA := WA_of (i := 1146) (by decide +kernel) (by decide +kernel)
theorem kl_L_298 : Cond.methodLink RL 298 yL_nextToDecide ∈ WA := WA_of (i := 1149) (by decide +kernel) (by decide +kernel)
theorem kl_L_110 : Cond.methodLink RL 110 yX9_nextToDecide ∈ WA := WA_of (i := 1152) (by decide +kernel) (by decide +kernel)
theorem kl_X9_211 : Cond.methodLink RX9 211 yX1_firstHeard ∈ WA := WA_of (i := 1156) (by decide +kernel) (by decide +kernel)
theorem kl_L_302 : Cond.methodLink RL 302 yL_prosecutionWeight ∈ WA := WA_of (i := 1161) (by decide +kernel) (by decide +kernel)
theorem kl_L_114 : Cond.methodLink RL 114 yX9_prosecutionWeight ∈ WA := WA_of (i := 1164) (by decide +kernel) (by decide +kernel)
theorem kl_X9_217 : Cond.methodLink RX9 217 yX8_ofSide ∈ WA := WA_of (i := 1168) (by decide +kernel) (by decide +kernel)
theorem kl_L_305 : Cond.methodLink RL 305 yL_defenceWeight ∈ WA := WA_of (i := 1171) (by decide +kernel) (by decide +kernel)
theorem kl_L_117 : Cond.methodLink RL 117 yX9_defenceWeight ∈ WA := WA_of (i := 1174) (by decide +kernel) (by decide +kernel)
theorem kl_L_308 : Cond.methodLink RL 308 yL_margin ∈ WA := WA_of (i := 1178) (by decide +kernel) (by decide +kernel)
theorem kl_L_120 : Cond.methodLink RL 120 yX9_margin ∈ WA := WA_of (i := 1181) (by decide +kernel) (by decide +kernel)
theorem kl_L_311 : Cond.methodLink RL 311 yL_marginByCredibility ∈ WA := WA_of (i := 1185) (by decide +kernel) (by decide +kernel)
theorem kl_L_123 : Cond.methodLink RL 123 yX9_marginByCredibility ∈ WA := WA_of (i := 1188) (by decide +kernel) (by decide +kernel)
theorem kl_L_314 : Cond.methodLink RL 314 yL_firmAnswersToGuilty ∈ WA := WA_of (i := 1192) (by decide +kernel) (by decide +kernel)
theorem kl_L_126 : Cond.methodLink RL 126 yX9_firmAnswersToGuilty ∈ WA := WA_of (i := 1195) (by decide +kernel) (by decide +kernel)
theorem kl_X9_227 : Cond.methodLink RX9 227 yX8_firmAnswersNeeded ∈ WA := WA_of (i := 1199) (by decide +kernel) (by decide +kernel)
theorem kl_X8_46 : Cond.methodLink RX8 46 yX8_marginByTestimony ∈ WA := WA_of (i := 1202) (by decide +kernel) (by decide +kernel)
theorem kl_L_317 : Cond.methodLink RL 317 yL_sentence ∈ WA := WA_of (i := 1204) (by decide +kernel) (by decide +kernel)
theorem kl_L_129 : Cond.methodLink RL 129 yX9_sentence ∈ WA := WA_of (i := 1207) (by decide +kernel) (by decide +kernel)
theorem kl_X9_232 : Cond.methodLink RX9 232 yX9_needDefendant ∈ WA := WA_of (i := 1211) (by decide +kernel) (by decide +kernel)
theorem kl_L_320 : Cond.methodLink RL 320 yL_sentenceByCases ∈ WA := WA_of (i := 1215) (by decide +kernel) (by decide +kernel)
theorem kl_L_132 : Cond.methodLink RL 132 yX9_sentenceByCases ∈ WA := WA_of (i := 1218) (by decide +kernel) (by decide +kernel)
theorem kl_L_331 : Cond.methodLink RL 331 yL_docketAt ∈ WA := WA_of (i := 1222) (by decide +kernel) (by decide +kernel)
theorem kl_L_135 : Cond.methodLink RL 135 yX9_docketAt ∈ WA := WA_of (i := 1225) (by decide +kernel) (by decide +kernel)
theorem kl_L_334 : Cond.methodLink RL 334 yL_docketPosition ∈ WA := WA_of (i := 1230) (by decide +kernel) (by decide +kernel)
theorem kl_L_138 : Cond.methodLink RL 138 yX9_docketPosition ∈ WA := WA_of (i := 1233) (by decide +kernel) (by decide +kernel)
theorem kl_L_353 : Cond.methodLink RL 353 yL_meanCredibility ∈ WA := WA_of (i := 1238) (by decide +kernel) (by decide +kernel)
theorem kc_L_145 : Cond.classLink RL 145 "java/lang/ArithmeticException" ∈ WA := WA_of (i := 1241) (by decide +kernel) (by decide +kernel)
theorem kl_L_141 : Cond.methodLink RL 141 yX9_meanCredibility ∈ WA := WA_of (i := 1255) (by decide +kernel) (by decide +kernel)
theorem kc_X9_267 : Cond.classLink RX9 267 "java/lang/ArithmeticException" ∈ WA := WA_of (i := 1259) (by decide +kernel) (by decide +kernel)
theorem kl_X9_271 : Cond.methodLink RX9 271 ⟨"java/lang/ArithmeticException", "<init>", "(Ljava/lang/String;)V"⟩ ∈ WA := WA_of (i := 1261) (by decide +kernel) (by decide +kernel)
theorem kl_X9_272 : Cond.methodLink RX9 272 yX0_credibilitySum ∈ WA := WA_of (i := 1262) (by decide +kernel) (by decide +kernel)
theorem kl_L_357 : Cond.methodLink RL 357 yL_guiltyShare ∈ WA := WA_of (i := 1266) (by decide +kernel) (by decide +kernel)
theorem kl_L_147 : Cond.methodLink RL 147 yX9_guiltyShare ∈ WA := WA_of (i := 1269) (by decide +kernel) (by decide +kernel)
theorem kl_L_364 : Cond.methodLink RL 364 yL_formatCase ∈ WA := WA_of (i := 1274) (by decide +kernel) (by decide +kernel)
theorem kl_L_151 : Cond.methodLink RL 151 yX9_formatCase ∈ WA := WA_of (i := 1277) (by decide +kernel) (by decide +kernel)
theorem kl_X9_290 : Cond.methodLink RX9 290 yJ4_setLength_d00df ∈ WA := WA_of (i := 1281) (by decide +kernel) (by decide +kernel)
theorem kl_J4_333 : Cond.methodLink RJ4 333 yJ5_setLength_d00df ∈ WA := WA_of (i := 1285) (by decide +kernel) (by decide +kernel)
theorem kc_J5_129 : Cond.classLink RJ5 129 RJx7c733 ∈ WA := WA_of (i := 1288) (by decide +kernel) (by decide +kernel)
theorem kl_J5_131 : Cond.methodLink RJ5 131 yJx7c733_init_d00df ∈ WA := WA_of (i := 1290) (by decide +kernel) (by decide +kernel)
theorem kc_Jx7c733_10 : Cond.classLink RJx7c733 10 RJ4 ∈ WA := WA_of (i := 1293) (by decide +kernel) (by decide +kernel)
theorem kl_Jx7c733_12 : Cond.methodLink RJx7c733 12 yJ4_init_da8c8 ∈ WA := WA_of (i := 1294) (by decide +kernel) (by decide +kernel)
theorem kl_Jx7c733_15 : Cond.methodLink RJx7c733 15 yJ4_append_15ec4 ∈ WA := WA_of (i := 1296) (by decide +kernel) (by decide +kernel)
theorem kl_J4_29 : Cond.methodLink RJ4 29 yJ5_append_cf1ce ∈ WA := WA_of (i := 1300) (by decide +kernel) (by decide +kernel)
theorem kl_J5_204 : Cond.methodLink RJ5 204 yJ5_appendNull_278bc ∈ WA := WA_of (i := 1303) (by decide +kernel) (by decide +kernel)
theorem kl_J5_100 : Cond.methodLink RJ5 100 yJ5_ensureCapacityInternal_d00df ∈ WA := WA_of (i := 1307) (by decide +kernel) (by decide +kernel)
theorem kl_J5_104 : Cond.methodLink RJ5 104 yJ5_newCapacity_0f7a4 ∈ WA := WA_of (i := 1311) (by decide +kernel) (by decide +kernel)
theorem kl_J5_114 : Cond.methodLink RJ5 114 yJ8_newLength_cabcc ∈ WA := WA_of (i := 1315) (by decide +kernel) (by decide +kernel)
theorem kl_J8_194 : Cond.methodLink RJ8 194 yJ9_max_7cf53 ∈ WA := WA_of (i := 1318) (by decide +kernel) (by decide +kernel)
theorem kl_J8_201 : Cond.methodLink RJ8 201 yJ8_hugeLength_7cf53 ∈ WA := WA_of (i := 1320) (by decide +kernel) (by decide +kernel)
theorem kl_J5_108 : Cond.methodLink RJ5 108 yJ7_copyOf_9075b ∈ WA := WA_of (i := 1324) (by decide +kernel) (by decide +kernel)
theorem kl_J7_310 : Cond.methodLink RJ7 310 ⟨"[B", "clone", "()Ljava/lang/Object;"⟩ ∈ WA := WA_of (i := 1327) (by decide +kernel) (by decide +kernel)
theorem kc_J7_311 : Cond.classLink RJ7 311 "[B" ∈ WA := WA_of (i := 1333) (by decide +kernel) (by decide +kernel)
theorem kl_J7_304 : Cond.methodLink RJ7 304 yJ9_min_7cf53 ∈ WA := WA_of (i := 1334) (by decide +kernel) (by decide +kernel)
theorem kl_J7_150 : Cond.methodLink RJ7 150 ⟨"java/lang/System", "arraycopy", "(Ljava/lang/Object;ILjava/lang/Object;II)V"⟩ ∈ WA := WA_of (i := 1335) (by decide +kernel) (by decide +kernel)
theorem kl_J5_83 : Cond.methodLink RJ5 83 yJ5_isLatin1_aae02 ∈ WA := WA_of (i := 1336) (by decide +kernel) (by decide +kernel)
theorem kl_J5_226 : Cond.methodLink RJ5 226 yJ2_putCharsAt_cd4e5 ∈ WA := WA_of (i := 1341) (by decide +kernel) (by decide +kernel)
theorem kl_J2_96 : Cond.methodLink RJ2 96 yJ2_checkBoundsBeginEnd_d044e ∈ WA := WA_of (i := 1344) (by decide +kernel) (by decide +kernel)
theorem kl_J2_48 : Cond.methodLink RJ2 48 yJ2_length_9d52b ∈ WA := WA_of (i := 1347) (by decide +kernel) (by decide +kernel)
theorem kl_J2_241 : Cond.methodLink RJ2 241 yJ0_checkBoundsBeginEnd_23922 ∈ WA := WA_of (i := 1350) (by decide +kernel) (by decide +kernel)
theorem kf_J0_1053 : Cond.fieldLink RJ0 1053 "jdk/internal/util/Preconditions" "SIOOBE_FORMATTER" "Ljava/util/function/BiFunction;" ∈ WA := WA_of (i := 1353) (by decide +kernel) (by decide +kernel)
theorem kl_J0_1062 : Cond.methodLink RJ0 1062 yJ3_checkFromToIndex_8c36e ∈ WA := WA_of (i := 1355) (by decide +kernel) (by decide +kernel)
theorem kl_J2_111 : Cond.methodLink RJ2 111 yJ2_putChar_b72d1 ∈ WA := WA_of (i := 1358) (by decide +kernel) (by decide +kernel)
theorem kf_J2_44 : Cond.fieldLink RJ2 44 "java/lang/StringUTF16" "$assertionsDisabled" "Z" ∈ WA := WA_of (i := 1361) (by decide +kernel) (by decide +kernel)
theorem kf_J2_59 : Cond.fieldLink RJ2 59 "java/lang/StringUTF16" "HI_BYTE_SHIFT" "I" ∈ WA := WA_of (i := 1363) (by decide +kernel) (by decide +kernel)
theorem kf_J2_63 : Cond.fieldLink RJ2 63 "java/lang/StringUTF16" "LO_BYTE_SHIFT" "I" ∈ WA := WA_of (i := 1365) (by decide +kernel) (by decide +kernel)
theorem kl_J5_32 : Cond.methodLink RJ5 32 yJ0_length_8abf5 ∈ WA := WA_of (i := 1367) (by decide +kernel) (by decide +kernel)
theorem kl_J0_335 : Cond.methodLink RJ0 335 yJ0_coder_7d493 ∈ WA := WA_of (i := 1371) (by decide +kernel) (by decide +kernel)
theorem kf_J0_38 : Cond.fieldLink RJ0 38 "java/lang/String" "COMPACT_STRINGS" "Z" ∈ WA := WA_of (i := 1375) (by decide +kernel) (by decide +kernel)
theorem kl_J5_208 : Cond.methodLink RJ5 208 yJ5_putStringAt_47b60 ∈ WA := WA_of (i := 1376) (by decide +kernel) (by decide +kernel)
theorem kl_J5_397 : Cond.methodLink RJ5 397 yJ5_inflateIfNeededFor_a7421 ∈ WA := WA_of (i := 1380) (by decide +kernel) (by decide +kernel)
theorem kl_J5_40 : Cond.methodLink RJ5 40 yJ0_coder_7d493 ∈ WA := WA_of (i := 1384) (by decide +kernel) (by decide +kernel)
theorem kl_J5_195 : Cond.methodLink RJ5 195 yJ5_inflate_da8c8 ∈ WA := WA_of (i := 1385) (by decide +kernel) (by decide +kernel)
theorem kl_J5_125 : Cond.methodLink RJ5 125 yJ1_inflate_0e8fd ∈ WA := WA_of (i := 1389) (by decide +kernel) (by decide +kernel)
theorem kl_J1_240 : Cond.methodLink RJ1 240 yJ2_inflate_0e8fd ∈ WA := WA_of (i := 1392) (by decide +kernel) (by decide +kernel)
theorem kl_J2_173 : Cond.methodLink RJ2 173 yJ2_checkBoundsOffCount_d044e ∈ WA := WA_of (i := 1395) (by decide +kernel) (by decide +kernel)
theorem kl_J2_419 : Cond.methodLink RJ2 419 yJ0_checkBoundsOffCount_cabcc ∈ WA := WA_of (i := 1398) (by decide +kernel) (by decide +kernel)
theorem kl_J0_1065 : Cond.methodLink RJ0 1065 yJ3_checkFromIndexSize_8c36e ∈ WA := WA_of (i := 1401) (by decide +kernel) (by decide +kernel)
theorem kl_J5_399 : Cond.methodLink RJ5 399 yJ0_getBytes_840e7 ∈ WA := WA_of (i := 1404) (by decide +kernel) (by decide +kernel)
theorem kl_J0_212 : Cond.methodLink RJ0 212 ⟨"java/lang/System", "arraycopy", "(Ljava/lang/Object;ILjava/lang/Object;II)V"⟩ ∈ WA := WA_of (i := 1408) (by decide +kernel) (by decide +kernel)
theorem kl_J0_106 : Cond.methodLink RJ0 106 yJ1_inflate_0e8fd ∈ WA := WA_of (i := 1409) (by decide +kernel) (by decide +kernel)
theorem kl_Jx7c733_19 : Cond.methodLink RJx7c733 19 yJ4_append_bf812 ∈ WA := WA_of (i := 1410) (by decide +kernel) (by decide +kernel)
theorem kl_J4_53 : Cond.methodLink RJ4 53 yJ5_append_c97b9 ∈ WA := WA_of (i := 1414) (by decide +kernel) (by decide +kernel)
theorem kl_J5_245 : Cond.methodLink RJ5 245 yJ6_stringSize_0f7a4 ∈ WA := WA_of (i := 1417) (by decide +kernel) (by decide +kernel)
theorem kl_J5_248 : Cond.methodLink RJ5 248 yJ6_getChars_ba4f3 ∈ WA := WA_of (i := 1420) (by decide +kernel) (by decide +kernel)
theorem kf_J6_83 : Cond.fieldLink RJ6 83 "java/lang/Integer" "DigitOnes" "[B" ∈ WA := WA_of (i := 1423) (by decide +kernel) (by decide +kernel)
theorem kf_J6_87 : Cond.fieldLink RJ6 87 "java/lang/Integer" "DigitTens" "[B" ∈ WA := WA_of (i := 1425) (by decide +kernel) (by decide +kernel)
theorem kl_J5_251 : Cond.methodLink RJ5 251 yJ2_getChars_46870 ∈ WA := WA_of (i := 1427) (by decide +kernel) (by decide +kernel)
theorem kl_J2_393 : Cond.methodLink RJ2 393 yJ2_getChars_ba4f3 ∈ WA := WA_of (i := 1430) (by decide +kernel) (by decide +kernel)
theorem kf_J2_403 : Cond.fieldLink RJ2 403 "java/lang/Integer" "DigitOnes" "[B" ∈ WA := WA_of (i := 1433) (by decide +kernel) (by decide +kernel)
theorem kf_J2_407 : Cond.fieldLink RJ2 407 "java/lang/Integer" "DigitTens" "[B" ∈ WA := WA_of (i := 1434) (by decide +kernel) (by decide +kernel)
theorem kl_Jx7c733_22 : Cond.methodLink RJx7c733 22 yJ4_toString_0e30d ∈ WA := WA_of (i := 1435) (by decide +kernel) (by decide +kernel)
theorem kc_J4_18 : Cond.classLink RJ4 18 RJ0 ∈ WA := WA_of (i := 1439) (by decide +kernel) (by decide +kernel)
theorem kl_J4_137 : Cond.methodLink RJ4 137 yJ0_init_81219 ∈ WA := WA_of (i := 1440) (by decide +kernel) (by decide +kernel)
theorem kl_J0_489 : Cond.methodLink RJ0 489 yJ0_init_db425 ∈ WA := WA_of (i := 1443) (by decide +kernel) (by decide +kernel)
theorem kl_J0_1 : Cond.methodLink RJ0 1 ⟨"java/lang/Object", "<init>", "()V"⟩ ∈ WA := WA_of (i := 1446) (by decide +kernel) (by decide +kernel)
theorem kl_J0_552 : Cond.methodLink RJ0 552 yJ5_getValue_6d5f1 ∈ WA := WA_of (i := 1447) (by decide +kernel) (by decide +kernel)
theorem kl_J0_549 : Cond.methodLink RJ0 549 yJ5_length_8abf5 ∈ WA := WA_of (i := 1452) (by decide +kernel) (by decide +kernel)
theorem kl_J4_343 : Cond.methodLink RJ4 343 yJ5_length_8abf5 ∈ WA := WA_of (i := 1458) (by decide +kernel) (by decide +kernel)
theorem kl_J0_1047 : Cond.methodLink RJ0 1047 yJ5_isLatin1_aae02 ∈ WA := WA_of (i := 1460) (by decide +kernel) (by decide +kernel)
theorem kl_J0_54 : Cond.methodLink RJ0 54 yJ7_copyOfRange_39247 ∈ WA := WA_of (i := 1461) (by decide +kernel) (by decide +kernel)
theorem kl_J7_339 : Cond.methodLink RJ7 339 yJ7_copyOfRangeByte_39247 ∈ WA := WA_of (i := 1464) (by decide +kernel) (by decide +kernel)
theorem kl_J7_343 : Cond.methodLink RJ7 343 yJ7_checkLength_df160 ∈ WA := WA_of (i := 1467) (by decide +kernel) (by decide +kernel)
theorem kc_J7_43 : Cond.classLink RJ7 43 "java/lang/IllegalArgumentException" ∈ WA := WA_of (i := 1470) (by decide +kernel) (by decide +kernel)
theorem kc_J7_45 : Cond.classLink RJ7 45 RJ4 ∈ WA := WA_of (i := 1471) (by decide +kernel) (by decide +kernel)
theorem kl_J7_47 : Cond.methodLink RJ7 47 yJ4_init_da8c8 ∈ WA := WA_of (i := 1472) (by decide +kernel) (by decide +kernel)
theorem kl_J7_54 : Cond.methodLink RJ7 54 yJ4_append_bf812 ∈ WA := WA_of (i := 1473) (by decide +kernel) (by decide +kernel)
theorem kl_J7_50 : Cond.methodLink RJ7 50 yJ4_append_15ec4 ∈ WA := WA_of (i := 1475) (by decide +kernel) (by decide +kernel)
theorem kl_J7_61 : Cond.methodLink RJ7 61 yJ4_toString_0e30d ∈ WA := WA_of (i := 1476) (by decide +kernel) (by decide +kernel)
theorem kl_J7_65 : Cond.methodLink RJ7 65 ⟨"java/lang/IllegalArgumentException", "<init>", "(Ljava/lang/String;)V"⟩ ∈ WA := WA_of (i := 1477) (by decide +kernel) (by decide +kernel)
theorem kl_J0_1051 : Cond.methodLink RJ0 1051 yJ2_compress_39247 ∈ WA := WA_of (i := 1478) (by decide +kernel) (by decide +kernel)
theorem kl_J2_123 : Cond.methodLink RJ2 123 yJ2_compress_5af95 ∈ WA := WA_of (i := 1481) (by decide +kernel) (by decide +kernel)
theorem kl_J2_71 : Cond.methodLink RJ2 71 yJ2_getChar_3b067 ∈ WA := WA_of (i := 1484) (by decide +kernel) (by decide +kernel)
theorem kl_J2_126 : Cond.methodLink RJ2 126 yJ7_copyOfRange_39247 ∈ WA := WA_of (i := 1487) (by decide +kernel) (by decide +kernel)
theorem kl_J0_47 : Cond.methodLink RJ0 47 yJ2_coderFromArrayLen_85cad ∈ WA := WA_of (i := 1488) (by decide +kernel) (by decide +kernel)
theorem kf_J0_9 : Cond.fieldLink RJ0 9 "java/lang/String" "value" "[B" ∈ WA := WA_of (i := 1491) (by decide +kernel) (by decide +kernel)
theorem kf_J0_15 : Cond.fieldLink RJ0 15 "java/lang/String" "coder" "B" ∈ WA := WA_of (i := 1492) (by decide +kernel) (by decide +kernel)
theorem kl_Jx7c733_7 : Cond.methodLink RJx7c733 7 ⟨"java/lang/IndexOutOfBoundsException", "<init>", "(Ljava/lang/String;)V"⟩ ∈ WA := WA_of (i := 1498) (by decide +kernel) (by decide +kernel)
theorem kl_J5_133 : Cond.methodLink RJ5 133 yJ1_fillNull_b72d1 ∈ WA := WA_of (i := 1506) (by decide +kernel) (by decide +kernel)
theorem kl_J1_236 : Cond.methodLink RJ1 236 yJ7_fill_eb02e ∈ WA := WA_of (i := 1509) (by decide +kernel) (by decide +kernel)
theorem kl_J7_13 : Cond.methodLink RJ7 13 yJ7_rangeCheck_23922 ∈ WA := WA_of (i := 1512) (by decide +kernel) (by decide +kernel)
theorem kc_J7_68 : Cond.classLink RJ7 68 RJx00060 ∈ WA := WA_of (i := 1518) (by decide +kernel) (by decide +kernel)
theorem kl_J7_70 : Cond.methodLink RJ7 70 yJx00060_init_d00df ∈ WA := WA_of (i := 1519) (by decide +kernel) (by decide +kernel)
theorem kc_Jx00060_10 : Cond.classLink RJx00060 10 RJ4 ∈ WA := WA_of (i := 1522) (by decide +kernel) (by decide +kernel)
theorem kl_Jx00060_12 : Cond.methodLink RJx00060 12 yJ4_init_da8c8 ∈ WA := WA_of (i := 1523) (by decide +kernel) (by decide +kernel)
theorem kl_Jx00060_15 : Cond.methodLink RJx00060 15 yJ4_append_15ec4 ∈ WA := WA_of (i := 1525) (by decide +kernel) (by decide +kernel)
theorem kl_Jx00060_19 : Cond.methodLink RJx00060 19 yJ4_append_bf812 ∈ WA := WA_of (i := 1526) (by decide +kernel) (by decide +kernel)
theorem kl_Jx00060_22 : Cond.methodLink RJx00060 22 yJ4_toString_0e30d ∈ WA := WA_of (i := 1527) (by decide +kernel) (by decide +kernel)
theorem kl_J5_137 : Cond.methodLink RJ5 137 yJ2_fillNull_b72d1 ∈ WA := WA_of (i := 1528) (by decide +kernel) (by decide +kernel)
theorem kl_J2_380 : Cond.methodLink RJ2 380 yJ7_fill_eb02e ∈ WA := WA_of (i := 1531) (by decide +kernel) (by decide +kernel)
theorem kl_X9_293 : Cond.methodLink RX9 293 yX9_writeHead ∈ WA := WA_of (i := 1532) (by decide +kernel) (by decide +kernel)
theorem kl_X9_305 : Cond.methodLink RX9 305 yJ4_append_bf812 ∈ WA := WA_of (i := 1536) (by decide +kernel) (by decide +kernel)
theorem kl_X9_301 : Cond.methodLink RX9 301 yJ4_append_cf468 ∈ WA := WA_of (i := 1537) (by decide +kernel) (by decide +kernel)
theorem kl_J4_50 : Cond.methodLink RJ4 50 yJ5_append_3fe6f ∈ WA := WA_of (i := 1541) (by decide +kernel) (by decide +kernel)
theorem kl_J5_191 : Cond.methodLink RJ5 191 yJ1_canEncode_fc78d ∈ WA := WA_of (i := 1544) (by decide +kernel) (by decide +kernel)
theorem kl_J5_197 : Cond.methodLink RJ5 197 yJ2_putCharSB_b72d1 ∈ WA := WA_of (i := 1547) (by decide +kernel) (by decide +kernel)
theorem kl_J2_67 : Cond.methodLink RJ2 67 yJ2_checkIndex_2214a ∈ WA := WA_of (i := 1550) (by decide +kernel) (by decide +kernel)
theorem kl_J2_414 : Cond.methodLink RJ2 414 yJ0_checkIndex_df160 ∈ WA := WA_of (i := 1553) (by decide +kernel) (by decide +kernel)
theorem kl_J0_1059 : Cond.methodLink RJ0 1059 yJ3_checkIndex_8e157 ∈ WA := WA_of (i := 1556) (by decide +kernel) (by decide +kernel)
theorem kl_X9_296 : Cond.methodLink RX9 296 yX9_writeTestimony ∈ WA := WA_of (i := 1559) (by decide +kernel) (by decide +kernel)
theorem kl_X9_299 : Cond.methodLink RX9 299 yJ4_length_8abf5 ∈ WA := WA_of (i := 1563) (by decide +kernel) (by decide +kernel)
theorem kl_L_367 : Cond.methodLink RL 367 yL_formatWitness ∈ WA := WA_of (i := 1564) (by decide +kernel) (by decide +kernel)
theorem kl_L_154 : Cond.methodLink RL 154 yX9_formatWitness ∈ WA := WA_of (i := 1567) (by decide +kernel) (by decide +kernel)
theorem kl_L_370 : Cond.methodLink RL 370 yL_lineChar ∈ WA := WA_of (i := 1571) (by decide +kernel) (by decide +kernel)
theorem kl_L_157 : Cond.methodLink RL 157 yX9_lineChar ∈ WA := WA_of (i := 1574) (by decide +kernel) (by decide +kernel)
theorem kl_X9_313 : Cond.methodLink RX9 313 yJ4_charAt_5068e ∈ WA := WA_of (i := 1579) (by decide +kernel) (by decide +kernel)
theorem kl_J4_329 : Cond.methodLink RJ4 329 yJ5_charAt_5068e ∈ WA := WA_of (i := 1583) (by decide +kernel) (by decide +kernel)
theorem kl_J5_138 : Cond.methodLink RJ5 138 yJ9_min_7cf53 ∈ WA := WA_of (i := 1586) (by decide +kernel) (by decide +kernel)
theorem kl_J5_144 : Cond.methodLink RJ5 144 yJ0_checkIndex_df160 ∈ WA := WA_of (i := 1587) (by decide +kernel) (by decide +kernel)
theorem kl_J5_148 : Cond.methodLink RJ5 148 yJ2_getChar_3b067 ∈ WA := WA_of (i := 1588) (by decide +kernel) (by decide +kernel)
theorem kl_L_373 : Cond.methodLink RL 373 yL_append ∈ WA := WA_of (i := 1589) (by decide +kernel) (by decide +kernel)
theorem kl_L_161 : Cond.methodLink RL 161 yX9_append ∈ WA := WA_of (i := 1592) (by decide +kernel) (by decide +kernel)
theorem kl_L_377 : Cond.methodLink RL 377 yL_run ∈ WA := WA_of (i := 1598) (by decide +kernel) (by decide +kernel)
theorem kc_L_168 : Cond.classLink RL 168 "java/lang/UnsupportedOperationException" ∈ WA := WA_of (i := 1601) (by decide +kernel) (by decide +kernel)
theorem kl_L_165 : Cond.methodLink RL 165 yX9_run ∈ WA := WA_of (i := 1602) (by decide +kernel) (by decide +kernel)
theorem kl_X9_324 : Cond.methodLink RX9 324 yX5_parse ∈ WA := WA_of (i := 1606) (by decide +kernel) (by decide +kernel)
theorem kl_X5_46 : Cond.methodLink RX5 46 yX5_readKeyword ∈ WA := WA_of (i := 1610) (by decide +kernel) (by decide +kernel)
theorem kl_X5_65 : Cond.methodLink RX5 65 yX5_keywordOf ∈ WA := WA_of (i := 1614) (by decide +kernel) (by decide +kernel)
theorem kl_X5_69 : Cond.methodLink RX5 69 yX5_followed ∈ WA := WA_of (i := 1624) (by decide +kernel) (by decide +kernel)
theorem kl_X5_73 : Cond.methodLink RX5 73 yJ0_length_8abf5 ∈ WA := WA_of (i := 1628) (by decide +kernel) (by decide +kernel)
theorem kl_X5_76 : Cond.methodLink RX5 76 yX5_signAt ∈ WA := WA_of (i := 1629) (by decide +kernel) (by decide +kernel)
theorem kl_X5_58 : Cond.methodLink RX5 58 yJ4_length_8abf5 ∈ WA := WA_of (i := 1633) (by decide +kernel) (by decide +kernel)
theorem kl_X5_119 : Cond.methodLink RX5 119 yJ4_charAt_5068e ∈ WA := WA_of (i := 1634) (by decide +kernel) (by decide +kernel)
theorem kl_X5_80 : Cond.methodLink RX5 80 yJ0_charAt_5068e ∈ WA := WA_of (i := 1635) (by decide +kernel) (by decide +kernel)
theorem kl_J0_492 : Cond.methodLink RJ0 492 yJ0_isLatin1_aae02 ∈ WA := WA_of (i := 1639) (by decide +kernel) (by decide +kernel)
theorem kl_J0_495 : Cond.methodLink RJ0 495 yJ1_charAt_3b067 ∈ WA := WA_of (i := 1643) (by decide +kernel) (by decide +kernel)
theorem kl_J1_9 : Cond.methodLink RJ1 9 yJ0_checkIndex_df160 ∈ WA := WA_of (i := 1646) (by decide +kernel) (by decide +kernel)
theorem kl_J0_498 : Cond.methodLink RJ0 498 yJ2_charAt_3b067 ∈ WA := WA_of (i := 1647) (by decide +kernel) (by decide +kernel)
theorem kl_X5_50 : Cond.methodLink RX5 50 yX5_readArguments ∈ WA := WA_of (i := 1650) (by decide +kernel) (by decide +kernel)
theorem kl_X5_97 : Cond.methodLink RX5 97 yX5_readDigit ∈ WA := WA_of (i := 1654) (by decide +kernel) (by decide +kernel)
theorem kl_X5_54 : Cond.methodLink RX5 54 yX6_put ∈ WA := WA_of (i := 1658) (by decide +kernel) (by decide +kernel)
theorem kl_X5_61 : Cond.methodLink RX5 61 yX5_readSign ∈ WA := WA_of (i := 1659) (by decide +kernel) (by decide +kernel)
theorem kl_X5_101 : Cond.methodLink RX5 101 yX5_readCaseAndWitness ∈ WA := WA_of (i := 1663) (by decide +kernel) (by decide +kernel)
theorem kl_X5_109 : Cond.methodLink RX5 109 yX5_readNumber ∈ WA := WA_of (i := 1667) (by decide +kernel) (by decide +kernel)
theorem kl_X5_112 : Cond.methodLink RX5 112 yX6_get ∈ WA := WA_of (i := 1671) (by decide +kernel) (by decide +kernel)
theorem kl_X5_116 : Cond.methodLink RX5 116 yX6_add ∈ WA := WA_of (i := 1672) (by decide +kernel) (by decide +kernel)
theorem kl_X5_105 : Cond.methodLink RX5 105 yX5_readFlag ∈ WA := WA_of (i := 1673) (by decide +kernel) (by decide +kernel)
theorem kl_X9_332 : Cond.methodLink RX9 332 yX9_executeProgram ∈ WA := WA_of (i := 1678) (by decide +kernel) (by decide +kernel)
theorem kf_X9_411 : Cond.fieldLink RX9 411 "CaseManager$Fault" "NONE" "LCaseManager$Fault;" ∈ WA := WA_of (i := 1682) (by decide +kernel) (by decide +kernel)
theorem kc_X9_335 : Cond.classLink RX9 335 "java/lang/UnsupportedOperationException" ∈ WA := WA_of (i := 1683) (by decide +kernel) (by decide +kernel)
theorem kl_X9_339 : Cond.methodLink RX9 339 ⟨"java/lang/UnsupportedOperationException", "<init>", "(Ljava/lang/String;)V"⟩ ∈ WA := WA_of (i := 1693) (by decide +kernel) (by decide +kernel)
theorem kl_L_380 : Cond.methodLink RL 380 yL_errorPosition ∈ WA := WA_of (i := 1699) (by decide +kernel) (by decide +kernel)
theorem kl_L_170 : Cond.methodLink RL 170 yX9_errorPosition ∈ WA := WA_of (i := 1702) (by decide +kernel) (by decide +kernel)
theorem kl_L_383 : Cond.methodLink RL 383 yL_failedCommand ∈ WA := WA_of (i := 1707) (by decide +kernel) (by decide +kernel)
theorem kl_L_173 : Cond.methodLink RL 173 yX9_failedCommand ∈ WA := WA_of (i := 1710) (by decide +kernel) (by decide +kernel)
theorem kl_X9_345 : Cond.methodLink RX9 345 yX9_needFailure ∈ WA := WA_of (i := 1714) (by decide +kernel) (by decide +kernel)
theorem kl_L_386 : Cond.methodLink RL 386 yL_isFailureOfState ∈ WA := WA_of (i := 1719) (by decide +kernel) (by decide +kernel)
theorem kl_L_176 : Cond.methodLink RL 176 yX9_isFailureOfState ∈ WA := WA_of (i := 1722) (by decide +kernel) (by decide +kernel)
theorem kl_L_393 : Cond.methodLink RL 393 yL_undo ∈ WA := WA_of (i := 1726) (by decide +kernel) (by decide +kernel)
theorem kl_L_180 : Cond.methodLink RL 180 yX9_undo ∈ WA := WA_of (i := 1729) (by decide +kernel) (by decide +kernel)
theorem kl_X9_351 : Cond.methodLink RX9 351 yX4_takeLatest ∈ WA := WA_of (i := 1734) (by decide +kernel) (by decide +kernel)
theorem kl_L_400 : Cond.methodLink RL 400 yL_restore ∈ WA := WA_of (i := 1738) (by decide +kernel) (by decide +kernel)
theorem kl_L_183 : Cond.methodLink RL 183 yX9_restore ∈ WA := WA_of (i := 1741) (by decide +kernel) (by decide +kernel)
theorem kl_X9_359 : Cond.methodLink RX9 359 yX4_forgetAll ∈ WA := WA_of (i := 1746) (by decide +kernel) (by decide +kernel)
theorem kc_L_187 : Cond.classLink RL 187 RX10 ∈ WA := WA_of (i := 1750) (by decide +kernel) (by decide +kernel)
theorem kl_L_189 : Cond.methodLink RL 189 yX10_init ∈ WA := WA_of (i := 1752) (by decide +kernel) (by decide +kernel)
theorem kl_X10_1 : Cond.methodLink RX10 1 ⟨"java/lang/Object", "<init>", "()V"⟩ ∈ WA := WA_of (i := 1755) (by decide +kernel) (by decide +kernel)
theorem kf_X10_30 : Cond.fieldLink RX10 30 "CaseManagerModel" "thrown" "I" ∈ WA := WA_of (i := 1756) (by decide +kernel) (by decide +kernel)
theorem kf_X10_9 : Cond.fieldLink RX10 9 "CaseManagerModel" "all" "[I" ∈ WA := WA_of (i := 1757) (by decide +kernel) (by decide +kernel)
theorem kf_X10_37 : Cond.fieldLink RX10 37 "CaseManagerModel" "changes" "I" ∈ WA := WA_of (i := 1758) (by decide +kernel) (by decide +kernel)
theorem kf_X10_213 : Cond.fieldLink RX10 213 "CaseManagerModel" "isSaved" "Z" ∈ WA := WA_of (i := 1759) (by decide +kernel) (by decide +kernel)
theorem kf_X10_40 : Cond.fieldLink RX10 40 "CaseManagerModel" "result" "I" ∈ WA := WA_of (i := 1760) (by decide +kernel) (by decide +kernel)
theorem kf_X10_13 : Cond.fieldLink RX10 13 "CaseManagerModel" "line" "[C" ∈ WA := WA_of (i := 1761) (by decide +kernel) (by decide +kernel)
theorem kf_X10_156 : Cond.fieldLink RX10 156 "CaseManagerModel" "lineSize" "I" ∈ WA := WA_of (i := 1762) (by decide +kernel) (by decide +kernel)
theorem kf_X10_17 : Cond.fieldLink RX10 17 "CaseManagerModel" "input" "[C" ∈ WA := WA_of (i := 1763) (by decide +kernel) (by decide +kernel)
theorem kf_X10_166 : Cond.fieldLink RX10 166 "CaseManagerModel" "typed" "I" ∈ WA := WA_of (i := 1764) (by decide +kernel) (by decide +kernel)
theorem kf_X10_169 : Cond.fieldLink RX10 169 "CaseManagerModel" "here" "I" ∈ WA := WA_of (i := 1765) (by decide +kernel) (by decide +kernel)
theorem kf_X10_172 : Cond.fieldLink RX10 172 "CaseManagerModel" "error" "I" ∈ WA := WA_of (i := 1766) (by decide +kernel) (by decide +kernel)
theorem kf_X10_20 : Cond.fieldLink RX10 20 "CaseManagerModel" "errorAt" "I" ∈ WA := WA_of (i := 1767) (by decide +kernel) (by decide +kernel)
theorem kf_X10_24 : Cond.fieldLink RX10 24 "CaseManagerModel" "failedAt" "I" ∈ WA := WA_of (i := 1768) (by decide +kernel) (by decide +kernel)
theorem kf_X10_209 : Cond.fieldLink RX10 209 "CaseManagerModel" "isOfState" "Z" ∈ WA := WA_of (i := 1769) (by decide +kernel) (by decide +kernel)
theorem kf_X10_27 : Cond.fieldLink RX10 27 "CaseManagerModel" "commands" "[I" ∈ WA := WA_of (i := 1770) (by decide +kernel) (by decide +kernel)
theorem kf_X10_188 : Cond.fieldLink RX10 188 "CaseManagerModel" "commandMany" "I" ∈ WA := WA_of (i := 1771) (by decide +kernel) (by decide +kernel)
theorem kl_L_196 : Cond.methodLink RL 196 yX10_thrown ∈ WA := WA_of (i := 1806) (by decide +kernel) (by decide +kernel)
theorem kl_L_195 : Cond.methodLink RL 195 yX10_charge ∈ WA := WA_of (i := 1810) (by decide +kernel) (by decide +kernel)
theorem kl_X10_79 : Cond.methodLink RX10 79 yX10_begins ∈ WA := WA_of (i := 1814) (by decide +kernel) (by decide +kernel)
theorem kl_X10_33 : Cond.methodLink RX10 33 yX10_copies ∈ WA := WA_of (i := 1818) (by decide +kernel) (by decide +kernel)
theorem kl_X10_82 : Cond.methodLink RX10 82 yX10_charges ∈ WA := WA_of (i := 1822) (by decide +kernel) (by decide +kernel)
theorem kl_X10_65 : Cond.methodLink RX10 65 yX10_isDefendant ∈ WA := WA_of (i := 1826) (by decide +kernel) (by decide +kernel)
theorem kl_X10_43 : Cond.methodLink RX10 43 yX10_in ∈ WA := WA_of (i := 1829) (by decide +kernel) (by decide +kernel)
theorem kl_X10_69 : Cond.methodLink RX10 69 yX10_isOffence ∈ WA := WA_of (i := 1832) (by decide +kernel) (by decide +kernel)
theorem kl_X10_72 : Cond.methodLink RX10 72 yX10_findCase ∈ WA := WA_of (i := 1835) (by decide +kernel) (by decide +kernel)
theorem kl_X10_47 : Cond.methodLink RX10 47 yX10_c ∈ WA := WA_of (i := 1839) (by decide +kernel) (by decide +kernel)
theorem kl_X10_75 : Cond.methodLink RX10 75 yX10_set ∈ WA := WA_of (i := 1843) (by decide +kernel) (by decide +kernel)
theorem kl_X10_85 : Cond.methodLink RX10 85 yX10_ends ∈ WA := WA_of (i := 1847) (by decide +kernel) (by decide +kernel)
theorem kl_L_202 : Cond.methodLink RL 202 yX10_addWitness ∈ WA := WA_of (i := 1851) (by decide +kernel) (by decide +kernel)
theorem kl_X10_89 : Cond.methodLink RX10 89 yX10_registers ∈ WA := WA_of (i := 1855) (by decide +kernel) (by decide +kernel)
theorem kl_L_206 : Cond.methodLink RL 206 yX10_testify ∈ WA := WA_of (i := 1859) (by decide +kernel) (by decide +kernel)
theorem kl_X10_101 : Cond.methodLink RX10 101 yX10_testifies ∈ WA := WA_of (i := 1863) (by decide +kernel) (by decide +kernel)
theorem kl_X10_92 : Cond.methodLink RX10 92 yX10_isCase ∈ WA := WA_of (i := 1867) (by decide +kernel) (by decide +kernel)
theorem kl_X10_95 : Cond.methodLink RX10 95 yX10_isWitness ∈ WA := WA_of (i := 1871) (by decide +kernel) (by decide +kernel)
theorem kl_X10_98 : Cond.methodLink RX10 98 yX10_spokenBy ∈ WA := WA_of (i := 1875) (by decide +kernel) (by decide +kernel)
theorem kl_X10_51 : Cond.methodLink RX10 51 yX10_t ∈ WA := WA_of (i := 1879) (by decide +kernel) (by decide +kernel)
theorem kl_L_210 : Cond.methodLink RL 210 yX10_question ∈ WA := WA_of (i := 1883) (by decide +kernel) (by decide +kernel)
theorem kl_X10_105 : Cond.methodLink RX10 105 yX10_asks ∈ WA := WA_of (i := 1887) (by decide +kernel) (by decide +kernel)
theorem kl_L_213 : Cond.methodLink RL 213 yX10_decide ∈ WA := WA_of (i := 1891) (by decide +kernel) (by decide +kernel)
theorem kl_X10_112 : Cond.methodLink RX10 112 yX10_decides ∈ WA := WA_of (i := 1895) (by decide +kernel) (by decide +kernel)
theorem kl_X10_109 : Cond.methodLink RX10 109 yX10_marginOf ∈ WA := WA_of (i := 1899) (by decide +kernel) (by decide +kernel)
theorem kl_X10_58 : Cond.methodLink RX10 58 yX10_weightOf ∈ WA := WA_of (i := 1903) (by decide +kernel) (by decide +kernel)
theorem kl_X10_55 : Cond.methodLink RX10 55 yX10_weightAt ∈ WA := WA_of (i := 1907) (by decide +kernel) (by decide +kernel)
theorem kl_X10_61 : Cond.methodLink RX10 61 yX10_severity ∈ WA := WA_of (i := 1911) (by decide +kernel) (by decide +kernel)
theorem kl_L_216 : Cond.methodLink RL 216 yX10_appeal ∈ WA := WA_of (i := 1915) (by decide +kernel) (by decide +kernel)
theorem kl_X10_115 : Cond.methodLink RX10 115 yX10_appeals ∈ WA := WA_of (i := 1919) (by decide +kernel) (by decide +kernel)
theorem kl_L_219 : Cond.methodLink RL 219 yX10_close ∈ WA := WA_of (i := 1923) (by decide +kernel) (by decide +kernel)
theorem kl_X10_121 : Cond.methodLink RX10 121 yX10_closes ∈ WA := WA_of (i := 1927) (by decide +kernel) (by decide +kernel)
theorem kl_X10_118 : Cond.methodLink RX10 118 yX10_inPhase ∈ WA := WA_of (i := 1931) (by decide +kernel) (by decide +kernel)
theorem kl_L_223 : Cond.methodLink RL 223 yX10_caseCount ∈ WA := WA_of (i := 1935) (by decide +kernel) (by decide +kernel)
theorem kl_L_226 : Cond.methodLink RL 226 yX10_caseOf ∈ WA := WA_of (i := 1939) (by decide +kernel) (by decide +kernel)
theorem kl_L_229 : Cond.methodLink RL 229 yX10_defendantOf ∈ WA := WA_of (i := 1943) (by decide +kernel) (by decide +kernel)
theorem kl_X10_128 : Cond.methodLink RX10 128 yX10_ofCase ∈ WA := WA_of (i := 1947) (by decide +kernel) (by decide +kernel)
theorem kl_X10_124 : Cond.methodLink RX10 124 yX10_isFine ∈ WA := WA_of (i := 1951) (by decide +kernel) (by decide +kernel)
theorem kl_L_232 : Cond.methodLink RL 232 yX10_offenceOf ∈ WA := WA_of (i := 1955) (by decide +kernel) (by decide +kernel)
theorem kl_L_235 : Cond.methodLink RL 235 yX10_isOpen ∈ WA := WA_of (i := 1959) (by decide +kernel) (by decide +kernel)
theorem kl_L_238 : Cond.methodLink RL 238 yX10_isDecided ∈ WA := WA_of (i := 1963) (by decide +kernel) (by decide +kernel)
theorem kl_L_241 : Cond.methodLink RL 241 yX10_isClosed ∈ WA := WA_of (i := 1967) (by decide +kernel) (by decide +kernel)
theorem kl_L_244 : Cond.methodLink RL 244 yX10_isGuilty ∈ WA := WA_of (i := 1971) (by decide +kernel) (by decide +kernel)
theorem kl_L_247 : Cond.methodLink RL 247 yX10_appealCount ∈ WA := WA_of (i := 1975) (by decide +kernel) (by decide +kernel)
theorem kl_L_250 : Cond.methodLink RL 250 yX10_testimonyCount ∈ WA := WA_of (i := 1979) (by decide +kernel) (by decide +kernel)
theorem kl_L_253 : Cond.methodLink RL 253 yX10_witnessAt ∈ WA := WA_of (i := 1983) (by decide +kernel) (by decide +kernel)
theorem kl_L_256 : Cond.methodLink RL 256 yX10_hasTestified ∈ WA := WA_of (i := 1987) (by decide +kernel) (by decide +kernel)
theorem kl_L_259 : Cond.methodLink RL 259 yX10_isForProsecution ∈ WA := WA_of (i := 1991) (by decide +kernel) (by decide +kernel)
theorem kl_X10_131 : Cond.methodLink RX10 131 yX10_ofTestimony ∈ WA := WA_of (i := 1995) (by decide +kernel) (by decide +kernel)
theorem kl_L_262 : Cond.methodLink RL 262 yX10_strength ∈ WA := WA_of (i := 1999) (by decide +kernel) (by decide +kernel)
theorem kl_L_265 : Cond.methodLink RL 265 yX10_questionCount ∈ WA := WA_of (i := 2003) (by decide +kernel) (by decide +kernel)
theorem kl_L_269 : Cond.methodLink RL 269 yX10_witnessCount ∈ WA := WA_of (i := 2007) (by decide +kernel) (by decide +kernel)
theorem kl_L_272 : Cond.methodLink RL 272 yX10_credibility ∈ WA := WA_of (i := 2011) (by decide +kernel) (by decide +kernel)
theorem kl_L_275 : Cond.methodLink RL 275 yX10_casesOfWitness ∈ WA := WA_of (i := 2015) (by decide +kernel) (by decide +kernel)
theorem kl_X10_134 : Cond.methodLink RX10 134 yX10_casesBy ∈ WA := WA_of (i := 2019) (by decide +kernel) (by decide +kernel)
theorem kl_L_278 : Cond.methodLink RL 278 yX10_mostCredible ∈ WA := WA_of (i := 2023) (by decide +kernel) (by decide +kernel)
theorem kl_L_281 : Cond.methodLink RL 281 yX10_agreement ∈ WA := WA_of (i := 2027) (by decide +kernel) (by decide +kernel)
theorem kl_L_284 : Cond.methodLink RL 284 yX10_areConnected ∈ WA := WA_of (i := 2031) (by decide +kernel) (by decide +kernel)
theorem kl_X10_137 : Cond.methodLink RX10 137 yX10_groupOf ∈ WA := WA_of (i := 2035) (by decide +kernel) (by decide +kernel)
theorem kl_L_287 : Cond.methodLink RL 287 yX10_areConnectedBySearch ∈ WA := WA_of (i := 2039) (by decide +kernel) (by decide +kernel)
theorem kl_X10_140 : Cond.methodLink RX10 140 yX10_areConnected ∈ WA := WA_of (i := 2043) (by decide +kernel) (by decide +kernel)
theorem kl_L_290 : Cond.methodLink RL 290 yX10_groupSize ∈ WA := WA_of (i := 2044) (by decide +kernel) (by decide +kernel)
theorem kl_L_294 : Cond.methodLink RL 294 yX10_groupCount ∈ WA := WA_of (i := 2048) (by decide +kernel) (by decide +kernel)
theorem kl_L_297 : Cond.methodLink RL 297 yX10_heaviestWitness ∈ WA := WA_of (i := 2052) (by decide +kernel) (by decide +kernel)
theorem kl_L_304 : Cond.methodLink RL 304 yX10_prosecutionWeight ∈ WA := WA_of (i := 2056) (by decide +kernel) (by decide +kernel)
theorem kl_L_307 : Cond.methodLink RL 307 yX10_defenceWeight ∈ WA := WA_of (i := 2060) (by decide +kernel) (by decide +kernel)
theorem kl_L_310 : Cond.methodLink RL 310 yX10_margin ∈ WA := WA_of (i := 2064) (by decide +kernel) (by decide +kernel)
theorem kl_L_313 : Cond.methodLink RL 313 yX10_marginByCredibility ∈ WA := WA_of (i := 2068) (by decide +kernel) (by decide +kernel)
theorem kl_X10_144 : Cond.methodLink RX10 144 yX10_margin ∈ WA := WA_of (i := 2072) (by decide +kernel) (by decide +kernel)
theorem kl_L_316 : Cond.methodLink RL 316 yX10_firmAnswersToGuilty ∈ WA := WA_of (i := 2073) (by decide +kernel) (by decide +kernel)
theorem kl_L_319 : Cond.methodLink RL 319 yX10_sentence ∈ WA := WA_of (i := 2077) (by decide +kernel) (by decide +kernel)
theorem kl_X10_147 : Cond.methodLink RX10 147 yX10_sentenceOf ∈ WA := WA_of (i := 2081) (by decide +kernel) (by decide +kernel)
theorem kl_L_322 : Cond.methodLink RL 322 yX10_sentenceByCases ∈ WA := WA_of (i := 2085) (by decide +kernel) (by decide +kernel)
theorem kl_X10_150 : Cond.methodLink RX10 150 yX10_sentence ∈ WA := WA_of (i := 2089) (by decide +kernel) (by decide +kernel)
theorem kl_L_326 : Cond.methodLink RL 326 yX10_mostSentenced ∈ WA := WA_of (i := 2090) (by decide +kernel) (by decide +kernel)
theorem kl_L_330 : Cond.methodLink RL 330 yX10_docketLength ∈ WA := WA_of (i := 2094) (by decide +kernel) (by decide +kernel)
theorem kl_L_333 : Cond.methodLink RL 333 yX10_docketAt ∈ WA := WA_of (i := 2098) (by decide +kernel) (by decide +kernel)
theorem kl_X10_153 : Cond.methodLink RX10 153 yX10_rankOf ∈ WA := WA_of (i := 2102) (by decide +kernel) (by decide +kernel)
theorem kl_L_336 : Cond.methodLink RL 336 yX10_docketPosition ∈ WA := WA_of (i := 2106) (by decide +kernel) (by decide +kernel)
theorem kl_L_301 : Cond.methodLink RL 301 yX10_nextToDecide ∈ WA := WA_of (i := 2110) (by decide +kernel) (by decide +kernel)
theorem kl_L_340 : Cond.methodLink RL 340 yX10_closedCount ∈ WA := WA_of (i := 2114) (by decide +kernel) (by decide +kernel)
theorem kl_L_344 : Cond.methodLink RL 344 yX10_guiltyCount ∈ WA := WA_of (i := 2118) (by decide +kernel) (by decide +kernel)
theorem kl_L_348 : Cond.methodLink RL 348 yX10_decisionCount ∈ WA := WA_of (i := 2122) (by decide +kernel) (by decide +kernel)
theorem kl_L_352 : Cond.methodLink RL 352 yX10_questionTotal ∈ WA := WA_of (i := 2126) (by decide +kernel) (by decide +kernel)
theorem kl_L_356 : Cond.methodLink RL 356 yX10_meanCredibility ∈ WA := WA_of (i := 2130) (by decide +kernel) (by decide +kernel)
theorem kl_L_359 : Cond.methodLink RL 359 yX10_guiltyShare ∈ WA := WA_of (i := 2134) (by decide +kernel) (by decide +kernel)
theorem kl_L_363 : Cond.methodLink RL 363 yX10_isConsistent ∈ WA := WA_of (i := 2138) (by decide +kernel) (by decide +kernel)
theorem kl_L_366 : Cond.methodLink RL 366 yX10_formatCase ∈ WA := WA_of (i := 2142) (by decide +kernel) (by decide +kernel)
theorem kl_X10_159 : Cond.methodLink RX10 159 yX10_writesNumber ∈ WA := WA_of (i := 2146) (by decide +kernel) (by decide +kernel)
theorem kl_X10_163 : Cond.methodLink RX10 163 yX10_writes ∈ WA := WA_of (i := 2150) (by decide +kernel) (by decide +kernel)
theorem kl_L_369 : Cond.methodLink RL 369 yX10_formatWitness ∈ WA := WA_of (i := 2154) (by decide +kernel) (by decide +kernel)
theorem kl_L_372 : Cond.methodLink RL 372 yX10_lineChar ∈ WA := WA_of (i := 2158) (by decide +kernel) (by decide +kernel)
theorem kl_L_376 : Cond.methodLink RL 376 yX10_append ∈ WA := WA_of (i := 2162) (by decide +kernel) (by decide +kernel)
theorem kl_L_379 : Cond.methodLink RL 379 yX10_run ∈ WA := WA_of (i := 2166) (by decide +kernel) (by decide +kernel)
theorem kl_X10_203 : Cond.methodLink RX10 203 yX10_parse ∈ WA := WA_of (i := 2170) (by decide +kernel) (by decide +kernel)
theorem kl_X10_200 : Cond.methodLink RX10 200 yX10_command ∈ WA := WA_of (i := 2174) (by decide +kernel) (by decide +kernel)
theorem kl_X10_175 : Cond.methodLink RX10 175 yX10_sign ∈ WA := WA_of (i := 2178) (by decide +kernel) (by decide +kernel)
theorem kl_X10_191 : Cond.methodLink RX10 191 yX10_word ∈ WA := WA_of (i := 2182) (by decide +kernel) (by decide +kernel)
theorem kl_X10_185 : Cond.methodLink RX10 185 yX10_letters ∈ WA := WA_of (i := 2186) (by decide +kernel) (by decide +kernel)
theorem kl_X10_179 : Cond.methodLink RX10 179 yX10_needs ∈ WA := WA_of (i := 2190) (by decide +kernel) (by decide +kernel)
theorem kl_X10_194 : Cond.methodLink RX10 194 yX10_behind ∈ WA := WA_of (i := 2194) (by decide +kernel) (by decide +kernel)
theorem kl_X10_182 : Cond.methodLink RX10 182 yX10_number ∈ WA := WA_of (i := 2198) (by decide +kernel) (by decide +kernel)
theorem kl_X10_197 : Cond.methodLink RX10 197 yX10_either ∈ WA := WA_of (i := 2202) (by decide +kernel) (by decide +kernel)
theorem kl_X10_206 : Cond.methodLink RX10 206 yX10_does ∈ WA := WA_of (i := 2206) (by decide +kernel) (by decide +kernel)
theorem kl_L_382 : Cond.methodLink RL 382 yX10_errorPosition ∈ WA := WA_of (i := 2210) (by decide +kernel) (by decide +kernel)
theorem kl_L_385 : Cond.methodLink RL 385 yX10_failedCommand ∈ WA := WA_of (i := 2214) (by decide +kernel) (by decide +kernel)
theorem kl_L_388 : Cond.methodLink RL 388 yX10_isFailureOfState ∈ WA := WA_of (i := 2218) (by decide +kernel) (by decide +kernel)
theorem kl_L_392 : Cond.methodLink RL 392 yX10_undoableCount ∈ WA := WA_of (i := 2222) (by decide +kernel) (by decide +kernel)
theorem kl_L_395 : Cond.methodLink RL 395 yX10_undo ∈ WA := WA_of (i := 2226) (by decide +kernel) (by decide +kernel)
theorem kl_L_399 : Cond.methodLink RL 399 yX10_save ∈ WA := WA_of (i := 2230) (by decide +kernel) (by decide +kernel)
theorem kl_L_402 : Cond.methodLink RL 402 yX10_restore ∈ WA := WA_of (i := 2234) (by decide +kernel) (by decide +kernel)
theorem kini_CaseManagerLaw : Cond.initialized RL ∈ WA := WA_of (i := 84) (by decide +kernel) (by decide +kernel)
theorem kini_CaseManager : Cond.initialized RX9 ∈ WA := WA_of (i := 85) (by decide +kernel) (by decide +kernel)
theorem kini_CaseManager_Court : Cond.initialized RX0 ∈ WA := WA_of (i := 86) (by decide +kernel) (by decide +kernel)
theorem kini_CaseManager_Row : Cond.initialized RX6 ∈ WA := WA_of (i := 87) (by decide +kernel) (by decide +kernel)
theorem kini_CaseManager_Groups : Cond.initialized RX3 ∈ WA := WA_of (i := 88) (by decide +kernel) (by decide +kernel)
theorem kini_CaseManager_History : Cond.initialized RX4 ∈ WA := WA_of (i := 89) (by decide +kernel) (by decide +kernel)
theorem kini_CaseManager_Docket : Cond.initialized RX1 ∈ WA := WA_of (i := 90) (by decide +kernel) (by decide +kernel)
theorem kini_CaseManager_Search : Cond.initialized RX7 ∈ WA := WA_of (i := 91) (by decide +kernel) (by decide +kernel)
theorem kini_CaseManager_Program : Cond.initialized RX5 ∈ WA := WA_of (i := 92) (by decide +kernel) (by decide +kernel)
theorem kini_java_lang_AbstractStringBuilder : Cond.initialized RJ5 ∈ WA := WA_of (i := 93) (by decide +kernel) (by decide +kernel)
theorem kini_java_lang_StringBuilder : Cond.initialized RJ4 ∈ WA := WA_of (i := 94) (by decide +kernel) (by decide +kernel)
theorem kini_java_lang_String : Cond.initialized RJ0 ∈ WA := WA_of (i := 95) (by decide +kernel) (by decide +kernel)
theorem kini_java_lang_StringUTF16 : Cond.initialized RJ2 ∈ WA := WA_of (i := 96) (by decide +kernel) (by decide +kernel)
theorem kini_CaseManagerModel : Cond.initialized RX10 ∈ WA := WA_of (i := 97) (by decide +kernel) (by decide +kernel)
theorem kini_java_lang_Enum : Cond.initialized RJx29ce0 ∈ WA := WA_of (i := 98) (by decide +kernel) (by decide +kernel)
theorem kini_CaseManager_Fault : Cond.initialized RX2 ∈ WA := WA_of (i := 99) (by decide +kernel) (by decide +kernel)
theorem kini_java_lang_Throwable : Cond.initialized "java/lang/Throwable" ∈ WA := WA_of (i := 100) (by decide +kernel) (by decide +kernel)
theorem kini_java_lang_Exception : Cond.initialized "java/lang/Exception" ∈ WA := WA_of (i := 101) (by decide +kernel) (by decide +kernel)
theorem kini_java_lang_RuntimeException : Cond.initialized "java/lang/RuntimeException" ∈ WA := WA_of (i := 102) (by decide +kernel) (by decide +kernel)
theorem kini_java_lang_IndexOutOfBoundsException : Cond.initialized "java/lang/IndexOutOfBoundsException" ∈ WA := WA_of (i := 103) (by decide +kernel) (by decide +kernel)
theorem kini_java_lang_IllegalArgumentException : Cond.initialized "java/lang/IllegalArgumentException" ∈ WA := WA_of (i := 104) (by decide +kernel) (by decide +kernel)
theorem kini_java_util_NoSuchElementException : Cond.initialized "java/util/NoSuchElementException" ∈ WA := WA_of (i := 105) (by decide +kernel) (by decide +kernel)
theorem kini_java_lang_IllegalStateException : Cond.initialized "java/lang/IllegalStateException" ∈ WA := WA_of (i := 106) (by decide +kernel) (by decide +kernel)
theorem kini_java_lang_Math : Cond.initialized RJ9 ∈ WA := WA_of (i := 107) (by decide +kernel) (by decide +kernel)
theorem kini_java_lang_System : Cond.initialized RJ10 ∈ WA := WA_of (i := 108) (by decide +kernel) (by decide +kernel)
theorem kini_CaseManager_Weights : Cond.initialized RX8 ∈ WA := WA_of (i := 109) (by decide +kernel) (by decide +kernel)
theorem kini_java_lang_ArrayIndexOutOfBoundsException : Cond.initialized RJx00060 ∈ WA := WA_of (i := 110) (by decide +kernel) (by decide +kernel)
theorem kini_java_lang_ArithmeticException : Cond.initialized "java/lang/ArithmeticException" ∈ WA := WA_of (i := 111) (by decide +kernel) (by decide +kernel)
theorem kini_java_lang_StringIndexOutOfBoundsException : Cond.initialized RJx7c733 ∈ WA := WA_of (i := 112) (by decide +kernel) (by decide +kernel)
theorem kini_jdk_internal_util_ArraysSupport : Cond.initialized RJ8 ∈ WA := WA_of (i := 113) (by decide +kernel) (by decide +kernel)
theorem kini_java_util_Arrays : Cond.initialized RJ7 ∈ WA := WA_of (i := 114) (by decide +kernel) (by decide +kernel)
theorem kini_jdk_internal_util_Preconditions : Cond.initialized RJ3 ∈ WA := WA_of (i := 115) (by decide +kernel) (by decide +kernel)
theorem kini_java_lang_StringLatin1 : Cond.initialized RJ1 ∈ WA := WA_of (i := 116) (by decide +kernel) (by decide +kernel)
theorem kini_java_lang_Number : Cond.initialized RJxd2413 ∈ WA := WA_of (i := 117) (by decide +kernel) (by decide +kernel)
theorem kini_java_lang_Integer : Cond.initialized RJ6 ∈ WA := WA_of (i := 118) (by decide +kernel) (by decide +kernel)
theorem kini_java_lang_UnsupportedOperationException : Cond.initialized "java/lang/UnsupportedOperationException" ∈ WA := WA_of (i := 119) (by decide +kernel) (by decide +kernel)
theorem kins_X9 : Cond.instantiable RX9 12 ∈ WA := WA_of (i := 121) (by decide +kernel) (by decide +kernel)
theorem kins_X0 : Cond.instantiable RX0 17 ∈ WA := WA_of (i := 129) (by decide +kernel) (by decide +kernel)
theorem kins_X6 : Cond.instantiable RX6 1 ∈ WA := WA_of (i := 135) (by decide +kernel) (by decide +kernel)
theorem kins_X3 : Cond.instantiable RX3 1 ∈ WA := WA_of (i := 146) (by decide +kernel) (by decide +kernel)
theorem kins_X4 : Cond.instantiable RX4 3 ∈ WA := WA_of (i := 228) (by decide +kernel) (by decide +kernel)
theorem kins_X1 : Cond.instantiable RX1 2 ∈ WA := WA_of (i := 248) (by decide +kernel) (by decide +kernel)
theorem kins_X7 : Cond.instantiable RX7 3 ∈ WA := WA_of (i := 265) (by decide +kernel) (by decide +kernel)
theorem kins_X5 : Cond.instantiable RX5 8 ∈ WA := WA_of (i := 283) (by decide +kernel) (by decide +kernel)
theorem kins_J4 : Cond.instantiable RJ4 4 ∈ WA := WA_of (i := 289) (by decide +kernel) (by decide +kernel)
theorem kins_Jx00060 : Cond.instantiable RJx00060 6 ∈ WA := WA_of (i := 881) (by decide +kernel) (by decide +kernel)
theorem kins_J0 : Cond.instantiable RJ0 4 ∈ WA := WA_of (i := 896) (by decide +kernel) (by decide +kernel)
theorem kins_Jx7c733 : Cond.instantiable RJx7c733 6 ∈ WA := WA_of (i := 1289) (by decide +kernel) (by decide +kernel)
theorem kins_X10 : Cond.instantiable RX10 16 ∈ WA := WA_of (i := 1751) (by decide +kernel) (by decide +kernel)
def mxX0_init : Nat := 1
theorem kvX0_init : (Cond.code yX0_init cX0_init 1 none ∈ WA) ∧ (Cond.initialized yX0_init.cls ∈ WA) ∧ (yX0_init.cls ≠ "java/lang/invoke/MethodHandle" ∧ yX0_init.cls ≠ "java/lang/invoke/VarHandle" ∧ (parseMethodDescriptor yX0_init.desc).map (fun d => d.parameters.length) = some 0) := ⟨WA_of (i := 132) (by decide +kernel) (by decide +kernel), kini_CaseManager_Court, by decide +kernel, by decide +kernel, by decide +kernel⟩
theorem kiiX0_init : Cond.instanceMethod yX0_init ∈ WA := WA_of (i := 131) (by decide +kernel) (by decide +kernel)
def mxX0_copyFrom : Nat := 2
theorem kvX0_copyFrom : (Cond.code yX0_copyFrom cX0_copyFrom 2 none ∈ WA) ∧ (Cond.initialized yX0_copyFrom.cls ∈ WA) ∧ (yX0_copyFrom.cls ≠ "java/lang/invoke/MethodHandle" ∧ yX0_copyFrom.cls ≠ "java/lang/invoke/VarHandle" ∧ (parseMethodDescriptor yX0_copyFrom.desc).map (fun d => d.parameters.length) = some 1) := ⟨WA_of (i := 593) (by decide +kernel) (by decide +kernel), kini_CaseManager_Court, by decide +kernel, by decide +kernel, by decide +kernel⟩
theorem kiX0_copyFrom : (Cond.instanceMethod yX0_copyFrom ∈ WA) ∧ (Cond.selects yX0_copyFrom.cls yX0_copyFrom yX0_copyFrom ∈ WA) := ⟨WA_of (i := 591) (by decide +kernel) (by decide +kernel), WA_of (i := 592) (by decide +kernel) (by decide +kernel)⟩
def mxX0_faultOf : Nat := 5
theorem kvX0_faultOf : (Cond.code yX0_faultOf cX0_faultOf 5 (some (.object "CaseManager$Fault")) ∈ WA) ∧ (Cond.initialized yX0_faultOf.cls ∈ WA) ∧ (yX0_faultOf.cls ≠ "java/lang/invoke/MethodHandle" ∧ yX0_faultOf.cls ≠ "java/lang/invoke/VarHandle" ∧ (parseMethodDescriptor yX0_faultOf.desc).map (fun d => d.parameters.length) = some 4) := ⟨WA_of (i := 620) (by decide +kernel) (by decide +kernel), kini_CaseManager_Court, by decide +kernel, by decide +kernel, by decide +kernel⟩
theorem kiX0_faultOf : (Cond.instanceMethod yX0_faultOf ∈ WA) ∧ (Cond.selects yX0_faultOf.cls yX0_faultOf yX0_faultOf ∈ WA) := ⟨WA_of (i := 618) (by decide +kernel) (by decide +kernel), WA_of (i := 619) (by decide +kernel) (by decide +kernel)⟩
def mxX0_perform : Nat := 6
theorem kvX0_perform : (Cond.code yX0_perform cX0_perform 6 (some .int) ∈ WA) ∧ (Cond.initialized yX0_perform.cls ∈ WA) ∧ (yX0_perform.cls ≠ "java/lang/invoke/MethodHandle" ∧ yX0_perform.cls ≠ "java/lang/invoke/VarHandle" ∧ (parseMethodDescriptor yX0_perform.desc).map (fun d => d.parameters.length) = some 5) := ⟨WA_of (i := 818) (by decide +kernel) (by decide +kernel), kini_CaseManager_Court, by decide +kernel, by decide +kernel, by decide +kernel⟩
theorem kiX0_perform : (Cond.instanceMethod yX0_perform ∈ WA) ∧ (Cond.selects yX0_perform.cls yX0_perform yX0_perform ∈ WA) := ⟨WA_of (i := 816) (by decide +kernel) (by decide +kernel), WA_of (i := 817) (by decide +kernel) (by decide +kernel)⟩
def mxX0_faultOfCharge : Nat := 4
theorem kvX0_faultOfCharge : (Cond.code yX0_faultOfCharge cX0_faultOfCharge 4 (some (.object "CaseManager$Fault")) ∈ WA) ∧ (Cond.initialized yX0_faultOfCharge.cls ∈ WA) ∧ (yX0_faultOfCharge.cls ≠ "java/lang/invoke/MethodHandle" ∧ yX0_faultOfCharge.cls ≠ "java/lang/invoke/VarHandle" ∧ (parseMethodDescriptor yX0_faultOfCharge.desc).map (fun d => d.parameters.length) = some 2) := ⟨WA_of (i := 624) (by decide +kernel) (by decide +kernel), kini_CaseManager_Court, by decide +kernel, by decide +kernel, by decide +kernel⟩
theorem kiX0_faultOfCharge : (Cond.instanceMethod yX0_faultOfCharge ∈ WA) ∧ (Cond.selects yX0_faultOfCharge.cls yX0_faultOfCharge yX0_faultOfCharge ∈ WA) := ⟨WA_of (i := 623) (by decide +kernel) (by decide +kernel), WA_of (i := 10) (by decide +kernel) (by decide +kernel)⟩
def mxX0_faultOfWitness : Nat := 2
theorem kvX0_faultOfWitness : (Cond.code yX0_faultOfWitness cX0_faultOfWitness 2 (some (.object "CaseManager$Fault")) ∈ WA) ∧ (Cond.initialized yX0_faultOfWitness.cls ∈ WA) ∧ (yX0_faultOfWitness.cls ≠ "java/lang/invoke/MethodHandle" ∧ yX0_faultOfWitness.cls ≠ "java/lang/invoke/VarHandle" ∧ (parseMethodDescriptor yX0_faultOfWitness.desc).map (fun d => d.parameters.length) = some 1) := ⟨WA_of (i := 644) (by decide +kernel) (by decide +kernel), kini_CaseManager_Court, by decide +kernel, by decide +kernel, by decide +kernel⟩
theorem kiX0_faultOfWitness : (Cond.instanceMethod yX0_faultOfWitness ∈ WA) ∧ (Cond.selects yX0_faultOfWitness.cls yX0_faultOfWitness yX0_faultOfWitness ∈ WA) := ⟨WA_of (i := 643) (by decide +kernel) (by decide +kernel), WA_of (i := 11) (by decide +kernel) (by decide +kernel)⟩
def mxX0_faultOfTestimony : Nat := 6
theorem kvX0_faultOfTestimony : (Cond.code yX0_faultOfTestimony cX0_faultOfTestimony 6 (some (.object "CaseManager$Fault")) ∈ WA) ∧ (Cond.initialized yX0_faultOfTestimony.cls ∈ WA) ∧ (yX0_faultOfTestimony.cls ≠ "java/lang/invoke/MethodHandle" ∧ yX0_faultOfTestimony.cls ≠ "java/lang/invoke/VarHandle" ∧ (parseMethodDescriptor yX0_faultOfTestimony.desc).map (fun d => d.parameters.length) = some 3) := ⟨WA_of (i := 648) (by decide +kernel) (by decide +kernel), kini_CaseManager_Court, by decide +kernel, by decide +kernel, by decide +kernel⟩
theorem kiX0_faultOfTestimony : (Cond.instanceMethod yX0_faultOfTestimony ∈ WA) ∧ (Cond.selects yX0_faultOfTestimony.cls yX0_faultOfTestimony yX0_faultOfTestimony ∈ WA) := ⟨WA_of (i := 647) (by decide +kernel) (by decide +kernel), WA_of (i := 12) (by decide +kernel) (by decide +kernel)⟩
def mxX0_faultOfQuestion : Nat := 4
theorem kvX0_faultOfQuestion : (Cond.code yX0_faultOfQuestion cX0_faultOfQuestion 4 (some (.object "CaseManager$Fault")) ∈ WA) ∧ (Cond.initialized yX0_faultOfQuestion.cls ∈ WA) ∧ (yX0_faultOfQuestion.cls ≠ "java/lang/invoke/MethodHandle" ∧ yX0_faultOfQuestion.cls ≠ "java/lang/invoke/VarHandle" ∧ (parseMethodDescriptor yX0_faultOfQuestion.desc).map (fun d => d.parameters.length) = some 2) := ⟨WA_of (i := 663) (by decide +kernel) (by decide +kernel), kini_CaseManager_Court, by decide +kernel, by decide +kernel, by decide +kernel⟩
theorem kiX0_faultOfQuestion : (Cond.instanceMethod yX0_faultOfQuestion ∈ WA) ∧ (Cond.selects yX0_faultOfQuestion.cls yX0_faultOfQuestion yX0_faultOfQuestion ∈ WA) := ⟨WA_of (i := 662) (by decide +kernel) (by decide +kernel), WA_of (i := 13) (by decide +kernel) (by decide +kernel)⟩
def mxX0_faultOfDecision : Nat := 3
theorem kvX0_faultOfDecision : (Cond.code yX0_faultOfDecision cX0_faultOfDecision 3 (some (.object "CaseManager$Fault")) ∈ WA) ∧ (Cond.initialized yX0_faultOfDecision.cls ∈ WA) ∧ (yX0_faultOfDecision.cls ≠ "java/lang/invoke/MethodHandle" ∧ yX0_faultOfDecision.cls ≠ "java/lang/invoke/VarHandle" ∧ (parseMethodDescriptor yX0_faultOfDecision.desc).map (fun d => d.parameters.length) = some 1) := ⟨WA_of (i := 673) (by decide +kernel) (by decide +kernel), kini_CaseManager_Court, by decide +kernel, by decide +kernel, by decide +kernel⟩
theorem kiX0_faultOfDecision : (Cond.instanceMethod yX0_faultOfDecision ∈ WA) ∧ (Cond.selects yX0_faultOfDecision.cls yX0_faultOfDecision yX0_faultOfDecision ∈ WA) := ⟨WA_of (i := 672) (by decide +kernel) (by decide +kernel), WA_of (i := 14) (by decide +kernel) (by decide +kernel)⟩
def mxX0_faultAfterVerdict : Nat := 2
theorem kvX0_faultAfterVerdict : (Cond.code yX0_faultAfterVerdict cX0_faultAfterVerdict 2 (some (.object "CaseManager$Fault")) ∈ WA) ∧ (Cond.initialized yX0_faultAfterVerdict.cls ∈ WA) ∧ (yX0_faultAfterVerdict.cls ≠ "java/lang/invoke/MethodHandle" ∧ yX0_faultAfterVerdict.cls ≠ "java/lang/invoke/VarHandle" ∧ (parseMethodDescriptor yX0_faultAfterVerdict.desc).map (fun d => d.parameters.length) = some 1) := ⟨WA_of (i := 677) (by decide +kernel) (by decide +kernel), kini_CaseManager_Court, by decide +kernel, by decide +kernel, by decide +kernel⟩
theorem kiX0_faultAfterVerdict : (Cond.instanceMethod yX0_faultAfterVerdict ∈ WA) ∧ (Cond.selects yX0_faultAfterVerdict.cls yX0_faultAfterVerdict yX0_faultAfterVerdict ∈ WA) := ⟨WA_of (i := 676) (by decide +kernel) (by decide +kernel), WA_of (i := 15) (by decide +kernel) (by decide +kernel)⟩
def mxX0_openCase : Nat := 4
theorem kvX0_openCase : (Cond.code yX0_openCase cX0_openCase 4 (some .int) ∈ WA) ∧ (Cond.initialized yX0_openCase.cls ∈ WA) ∧ (yX0_openCase.cls ≠ "java/lang/invoke/MethodHandle" ∧ yX0_openCase.cls ≠ "java/lang/invoke/VarHandle" ∧ (parseMethodDescriptor yX0_openCase.desc).map (fun d => d.parameters.length) = some 2) := ⟨WA_of (i := 822) (by decide +kernel) (by decide +kernel), kini_CaseManager_Court, by decide +kernel, by decide +kernel, by decide +kernel⟩
theorem kiX0_openCase : (Cond.instanceMethod yX0_openCase ∈ WA) ∧ (Cond.selects yX0_openCase.cls yX0_openCase yX0_openCase ∈ WA) := ⟨WA_of (i := 821) (by decide +kernel) (by decide +kernel), WA_of (i := 18) (by decide +kernel) (by decide +kernel)⟩
def mxX0_register : Nat := 3
theorem kvX0_register : (Cond.code yX0_register cX0_register 3 (some .int) ∈ WA) ∧ (Cond.initialized yX0_register.cls ∈ WA) ∧ (yX0_register.cls ≠ "java/lang/invoke/MethodHandle" ∧ yX0_register.cls ≠ "java/lang/invoke/VarHandle" ∧ (parseMethodDescriptor yX0_register.desc).map (fun d => d.parameters.length) = some 1) := ⟨WA_of (i := 827) (by decide +kernel) (by decide +kernel), kini_CaseManager_Court, by decide +kernel, by decide +kernel, by decide +kernel⟩
theorem kiX0_register : (Cond.instanceMethod yX0_register ∈ WA) ∧ (Cond.selects yX0_register.cls yX0_register yX0_register ∈ WA) := ⟨WA_of (i := 826) (by decide +kernel) (by decide +kernel), WA_of (i := 19) (by decide +kernel) (by decide +kernel)⟩
def mxX0_hear : Nat := 6
theorem kvX0_hear : (Cond.code yX0_hear cX0_hear 6 (some .int) ∈ WA) ∧ (Cond.initialized yX0_hear.cls ∈ WA) ∧ (yX0_hear.cls ≠ "java/lang/invoke/MethodHandle" ∧ yX0_hear.cls ≠ "java/lang/invoke/VarHandle" ∧ (parseMethodDescriptor yX0_hear.desc).map (fun d => d.parameters.length) = some 4) := ⟨WA_of (i := 836) (by decide +kernel) (by decide +kernel), kini_CaseManager_Court, by decide +kernel, by decide +kernel, by decide +kernel⟩
theorem kiX0_hear : (Cond.instanceMethod yX0_hear ∈ WA) ∧ (Cond.selects yX0_hear.cls yX0_hear yX0_hear ∈ WA) := ⟨WA_of (i := 835) (by decide +kernel) (by decide +kernel), WA_of (i := 20) (by decide +kernel) (by decide +kernel)⟩
def mxX0_ask : Nat := 6
theorem kvX0_ask : (Cond.code yX0_ask cX0_ask 6 (some .int) ∈ WA) ∧ (Cond.initialized yX0_ask.cls ∈ WA) ∧ (yX0_ask.cls ≠ "java/lang/invoke/MethodHandle" ∧ yX0_ask.cls ≠ "java/lang/invoke/VarHandle" ∧ (parseMethodDescriptor yX0_ask.desc).map (fun d => d.parameters.length) = some 3) := ⟨WA_of (i := 845) (by decide +kernel) (by decide +kernel), kini_CaseManager_Court, by decide +kernel, by decide +kernel, by decide +kernel⟩
theorem kiX0_ask : (Cond.instanceMethod yX0_ask ∈ WA) ∧ (Cond.selects yX0_ask.cls yX0_ask yX0_ask ∈ WA) := ⟨WA_of (i := 844) (by decide +kernel) (by decide +kernel), WA_of (i := 21) (by decide +kernel) (by decide +kernel)⟩
def mxX0_judge : Nat := 3
theorem kvX0_judge : (Cond.code yX0_judge cX0_judge 3 (some .int) ∈ WA) ∧ (Cond.initialized yX0_judge.cls ∈ WA) ∧ (yX0_judge.cls ≠ "java/lang/invoke/MethodHandle" ∧ yX0_judge.cls ≠ "java/lang/invoke/VarHandle" ∧ (parseMethodDescriptor yX0_judge.desc).map (fun d => d.parameters.length) = some 1) := ⟨WA_of (i := 859) (by decide +kernel) (by decide +kernel), kini_CaseManager_Court, by decide +kernel, by decide +kernel, by decide +kernel⟩
theorem kiX0_judge : (Cond.instanceMethod yX0_judge ∈ WA) ∧ (Cond.selects yX0_judge.cls yX0_judge yX0_judge ∈ WA) := ⟨WA_of (i := 858) (by decide +kernel) (by decide +kernel), WA_of (i := 22) (by decide +kernel) (by decide +kernel)⟩
def mxX0_reopen : Nat := 2
theorem kvX0_reopen : (Cond.code yX0_reopen cX0_reopen 2 (some .int) ∈ WA) ∧ (Cond.initialized yX0_reopen.cls ∈ WA) ∧ (yX0_reopen.cls ≠ "java/lang/invoke/MethodHandle" ∧ yX0_reopen.cls ≠ "java/lang/invoke/VarHandle" ∧ (parseMethodDescriptor yX0_reopen.desc).map (fun d => d.parameters.length) = some 1) := ⟨WA_of (i := 864) (by decide +kernel) (by decide +kernel), kini_CaseManager_Court, by decide +kernel, by decide +kernel, by decide +kernel⟩
theorem kiX0_reopen : (Cond.instanceMethod yX0_reopen ∈ WA) ∧ (Cond.selects yX0_reopen.cls yX0_reopen yX0_reopen ∈ WA) := ⟨WA_of (i := 863) (by decide +kernel) (by decide +kernel), WA_of (i := 23) (by decide +kernel) (by decide +kernel)⟩
def mxX0_finish : Nat := 2
theorem kvX0_finish : (Cond.code yX0_finish cX0_finish 2 (some .int) ∈ WA) ∧ (Cond.initialized yX0_finish.cls ∈ WA) ∧ (yX0_finish.cls ≠ "java/lang/invoke/MethodHandle" ∧ yX0_finish.cls ≠ "java/lang/invoke/VarHandle" ∧ (parseMethodDescriptor yX0_finish.desc).map (fun d => d.parameters.length) = some 1) := ⟨WA_of (i := 868) (by decide +kernel) (by decide +kernel), kini_CaseManager_Court, by decide +kernel, by decide +kernel, by decide +kernel⟩
theorem kiX0_finish : (Cond.instanceMethod yX0_finish ∈ WA) ∧ (Cond.selects yX0_finish.cls yX0_finish yX0_finish ∈ WA) := ⟨WA_of (i := 867) (by decide +kernel) (by decide +kernel), WA_of (i := 24) (by decide +kernel) (by decide +kernel)⟩
def mxX0_hasCase : Nat := 2
theorem kvX0_hasCase : (Cond.code yX0_hasCase cX0_hasCase 2 (some .boolean) ∈ WA) ∧ (Cond.initialized yX0_hasCase.cls ∈ WA) ∧ (yX0_hasCase.cls ≠ "java/lang/invoke/MethodHandle" ∧ yX0_hasCase.cls ≠ "java/lang/invoke/VarHandle" ∧ (parseMethodDescriptor yX0_hasCase.desc).map (fun d => d.parameters.length) = some 1) := ⟨WA_of (i := 652) (by decide +kernel) (by decide +kernel), kini_CaseManager_Court, by decide +kernel, by decide +kernel, by decide +kernel⟩
theorem kiX0_hasCase : (Cond.instanceMethod yX0_hasCase ∈ WA) ∧ (Cond.selects yX0_hasCase.cls yX0_hasCase yX0_hasCase ∈ WA) := ⟨WA_of (i := 650) (by decide +kernel) (by decide +kernel), WA_of (i := 651) (by decide +kernel) (by decide +kernel)⟩
def mxX0_hasWitness : Nat := 2
theorem kvX0_hasWitness : (Cond.code yX0_hasWitness cX0_hasWitness 2 (some .boolean) ∈ WA) ∧ (Cond.initialized yX0_hasWitness.cls ∈ WA) ∧ (yX0_hasWitness.cls ≠ "java/lang/invoke/MethodHandle" ∧ yX0_hasWitness.cls ≠ "java/lang/invoke/VarHandle" ∧ (parseMethodDescriptor yX0_hasWitness.desc).map (fun d => d.parameters.length) = some 1) := ⟨WA_of (i := 656) (by decide +kernel) (by decide +kernel), kini_CaseManager_Court, by decide +kernel, by decide +kernel, by decide +kernel⟩
theorem kiX0_hasWitness : (Cond.instanceMethod yX0_hasWitness ∈ WA) ∧ (Cond.selects yX0_hasWitness.cls yX0_hasWitness yX0_hasWitness ∈ WA) := ⟨WA_of (i := 654) (by decide +kernel) (by decide +kernel), WA_of (i := 655) (by decide +kernel) (by decide +kernel)⟩
def mxX0_isIn : Nat := 3
theorem kvX0_isIn : (Cond.code yX0_isIn cX0_isIn 3 (some .boolean) ∈ WA) ∧ (Cond.initialized yX0_isIn.cls ∈ WA) ∧ (yX0_isIn.cls ≠ "java/lang/invoke/MethodHandle" ∧ yX0_isIn.cls ≠ "java/lang/invoke/VarHandle" ∧ (parseMethodDescriptor yX0_isIn.desc).map (fun d => d.parameters.length) = some 2) := ⟨WA_of (i := 431) (by decide +kernel) (by decide +kernel), kini_CaseManager_Court, by decide +kernel, by decide +kernel, by decide +kernel⟩
theorem kiX0_isIn : (Cond.instanceMethod yX0_isIn ∈ WA) ∧ (Cond.selects yX0_isIn.cls yX0_isIn yX0_isIn ∈ WA) := ⟨WA_of (i := 429) (by decide +kernel) (by decide +kernel), WA_of (i := 430) (by decide +kernel) (by decide +kernel)⟩
def mxX0_isFoundGuilty : Nat := 2
theorem kvX0_isFoundGuilty : (Cond.code yX0_isFoundGuilty cX0_isFoundGuilty 2 (some .boolean) ∈ WA) ∧ (Cond.initialized yX0_isFoundGuilty.cls ∈ WA) ∧ (yX0_isFoundGuilty.cls ≠ "java/lang/invoke/MethodHandle" ∧ yX0_isFoundGuilty.cls ≠ "java/lang/invoke/VarHandle" ∧ (parseMethodDescriptor yX0_isFoundGuilty.desc).map (fun d => d.parameters.length) = some 1) := ⟨WA_of (i := 448) (by decide +kernel) (by decide +kernel), kini_CaseManager_Court, by decide +kernel, by decide +kernel, by decide +kernel⟩
theorem kiX0_isFoundGuilty : (Cond.instanceMethod yX0_isFoundGuilty ∈ WA) ∧ (Cond.selects yX0_isFoundGuilty.cls yX0_isFoundGuilty yX0_isFoundGuilty ∈ WA) := ⟨WA_of (i := 446) (by decide +kernel) (by decide +kernel), WA_of (i := 447) (by decide +kernel) (by decide +kernel)⟩
def mxX0_severityIn : Nat := 2
theorem kvX0_severityIn : (Cond.code yX0_severityIn cX0_severityIn 2 (some .int) ∈ WA) ∧ (Cond.initialized yX0_severityIn.cls ∈ WA) ∧ (yX0_severityIn.cls ≠ "java/lang/invoke/MethodHandle" ∧ yX0_severityIn.cls ≠ "java/lang/invoke/VarHandle" ∧ (parseMethodDescriptor yX0_severityIn.desc).map (fun d => d.parameters.length) = some 1) := ⟨WA_of (i := 471) (by decide +kernel) (by decide +kernel), kini_CaseManager_Court, by decide +kernel, by decide +kernel, by decide +kernel⟩
theorem kiX0_severityIn : (Cond.instanceMethod yX0_severityIn ∈ WA) ∧ (Cond.selects yX0_severityIn.cls yX0_severityIn yX0_severityIn ∈ WA) := ⟨WA_of (i := 469) (by decide +kernel) (by decide +kernel), WA_of (i := 470) (by decide +kernel) (by decide +kernel)⟩
def mxX0_caseAgainst : Nat := 4
theorem kvX0_caseAgainst : (Cond.code yX0_caseAgainst cX0_caseAgainst 4 (some .int) ∈ WA) ∧ (Cond.initialized yX0_caseAgainst.cls ∈ WA) ∧ (yX0_caseAgainst.cls ≠ "java/lang/invoke/MethodHandle" ∧ yX0_caseAgainst.cls ≠ "java/lang/invoke/VarHandle" ∧ (parseMethodDescriptor yX0_caseAgainst.desc).map (fun d => d.parameters.length) = some 2) := ⟨WA_of (i := 636) (by decide +kernel) (by decide +kernel), kini_CaseManager_Court, by decide +kernel, by decide +kernel, by decide +kernel⟩
theorem kiX0_caseAgainst : (Cond.instanceMethod yX0_caseAgainst ∈ WA) ∧ (Cond.selects yX0_caseAgainst.cls yX0_caseAgainst yX0_caseAgainst ∈ WA) := ⟨WA_of (i := 634) (by decide +kernel) (by decide +kernel), WA_of (i := 635) (by decide +kernel) (by decide +kernel)⟩
def mxX0_cellOf : Nat := 2
theorem kvX0_cellOf : (Cond.code yX0_cellOf cX0_cellOf 2 (some .int) ∈ WA) ∧ (Cond.initialized yX0_cellOf.cls ∈ WA) ∧ (yX0_cellOf.cls ≠ "java/lang/invoke/MethodHandle" ∧ yX0_cellOf.cls ≠ "java/lang/invoke/VarHandle" ∧ (parseMethodDescriptor yX0_cellOf.desc).map (fun d => d.parameters.length) = some 2) := ⟨WA_of (i := 483) (by decide +kernel) (by decide +kernel), kini_CaseManager_Court, by decide +kernel, by decide +kernel, by decide +kernel⟩
theorem ksX0_cellOf : Cond.static yX0_cellOf ∈ WA := WA_of (i := 482) (by decide +kernel) (by decide +kernel)
def mxX0_hasHeard : Nat := 3
theorem kvX0_hasHeard : (Cond.code yX0_hasHeard cX0_hasHeard 3 (some .boolean) ∈ WA) ∧ (Cond.initialized yX0_hasHeard.cls ∈ WA) ∧ (yX0_hasHeard.cls ≠ "java/lang/invoke/MethodHandle" ∧ yX0_hasHeard.cls ≠ "java/lang/invoke/VarHandle" ∧ (parseMethodDescriptor yX0_hasHeard.desc).map (fun d => d.parameters.length) = some 2) := ⟨WA_of (i := 535) (by decide +kernel) (by decide +kernel), kini_CaseManager_Court, by decide +kernel, by decide +kernel, by decide +kernel⟩
theorem kiX0_hasHeard : (Cond.instanceMethod yX0_hasHeard ∈ WA) ∧ (Cond.selects yX0_hasHeard.cls yX0_hasHeard yX0_hasHeard ∈ WA) := ⟨WA_of (i := 533) (by decide +kernel) (by decide +kernel), WA_of (i := 534) (by decide +kernel) (by decide +kernel)⟩
def mxX0_witnessHeardAt : Nat := 3
theorem kvX0_witnessHeardAt : (Cond.code yX0_witnessHeardAt cX0_witnessHeardAt 3 (some .int) ∈ WA) ∧ (Cond.initialized yX0_witnessHeardAt.cls ∈ WA) ∧ (yX0_witnessHeardAt.cls ≠ "java/lang/invoke/MethodHandle" ∧ yX0_witnessHeardAt.cls ≠ "java/lang/invoke/VarHandle" ∧ (parseMethodDescriptor yX0_witnessHeardAt.desc).map (fun d => d.parameters.length) = some 2) := ⟨WA_of (i := 476) (by decide +kernel) (by decide +kernel), kini_CaseManager_Court, by decide +kernel, by decide +kernel, by decide +kernel⟩
theorem kiX0_witnessHeardAt : (Cond.instanceMethod yX0_witnessHeardAt ∈ WA) ∧ (Cond.selects yX0_witnessHeardAt.cls yX0_witnessHeardAt yX0_witnessHeardAt ∈ WA) := ⟨WA_of (i := 474) (by decide +kernel) (by decide +kernel), WA_of (i := 475) (by decide +kernel) (by decide +kernel)⟩
def mxX0_sideOf : Nat := 3
theorem kvX0_sideOf : (Cond.code yX0_sideOf cX0_sideOf 3 (some .int) ∈ WA) ∧ (Cond.initialized yX0_sideOf.cls ∈ WA) ∧ (yX0_sideOf.cls ≠ "java/lang/invoke/MethodHandle" ∧ yX0_sideOf.cls ≠ "java/lang/invoke/VarHandle" ∧ (parseMethodDescriptor yX0_sideOf.desc).map (fun d => d.parameters.length) = some 2) := ⟨WA_of (i := 480) (by decide +kernel) (by decide +kernel), kini_CaseManager_Court, by decide +kernel, by decide +kernel, by decide +kernel⟩
theorem kiX0_sideOf : (Cond.instanceMethod yX0_sideOf ∈ WA) ∧ (Cond.selects yX0_sideOf.cls yX0_sideOf yX0_sideOf ∈ WA) := ⟨WA_of (i := 478) (by decide +kernel) (by decide +kernel), WA_of (i := 479) (by decide +kernel) (by decide +kernel)⟩
def mxX0_strengthOf : Nat := 3
theorem kvX0_strengthOf : (Cond.code yX0_strengthOf cX0_strengthOf 3 (some .int) ∈ WA) ∧ (Cond.initialized yX0_strengthOf.cls ∈ WA) ∧ (yX0_strengthOf.cls ≠ "java/lang/invoke/MethodHandle" ∧ yX0_strengthOf.cls ≠ "java/lang/invoke/VarHandle" ∧ (parseMethodDescriptor yX0_strengthOf.desc).map (fun d => d.parameters.length) = some 2) := ⟨WA_of (i := 497) (by decide +kernel) (by decide +kernel), kini_CaseManager_Court, by decide +kernel, by decide +kernel, by decide +kernel⟩
theorem kiX0_strengthOf : (Cond.instanceMethod yX0_strengthOf ∈ WA) ∧ (Cond.selects yX0_strengthOf.cls yX0_strengthOf yX0_strengthOf ∈ WA) := ⟨WA_of (i := 495) (by decide +kernel) (by decide +kernel), WA_of (i := 496) (by decide +kernel) (by decide +kernel)⟩
def mxX0_weightOf : Nat := 3
theorem kvX0_weightOf : (Cond.code yX0_weightOf cX0_weightOf 3 (some .int) ∈ WA) ∧ (Cond.initialized yX0_weightOf.cls ∈ WA) ∧ (yX0_weightOf.cls ≠ "java/lang/invoke/MethodHandle" ∧ yX0_weightOf.cls ≠ "java/lang/invoke/VarHandle" ∧ (parseMethodDescriptor yX0_weightOf.desc).map (fun d => d.parameters.length) = some 2) := ⟨WA_of (i := 487) (by decide +kernel) (by decide +kernel), kini_CaseManager_Court, by decide +kernel, by decide +kernel, by decide +kernel⟩
theorem kiX0_weightOf : (Cond.instanceMethod yX0_weightOf ∈ WA) ∧ (Cond.selects yX0_weightOf.cls yX0_weightOf yX0_weightOf ∈ WA) := ⟨WA_of (i := 485) (by decide +kernel) (by decide +kernel), WA_of (i := 486) (by decide +kernel) (by decide +kernel)⟩
def mxX0_questionsTo : Nat := 3
theorem kvX0_questionsTo : (Cond.code yX0_questionsTo cX0_questionsTo 3 (some .int) ∈ WA) ∧ (Cond.initialized yX0_questionsTo.cls ∈ WA) ∧ (yX0_questionsTo.cls ≠ "java/lang/invoke/MethodHandle" ∧ yX0_questionsTo.cls ≠ "java/lang/invoke/VarHandle" ∧ (parseMethodDescriptor yX0_questionsTo.desc).map (fun d => d.parameters.length) = some 2) := ⟨WA_of (i := 669) (by decide +kernel) (by decide +kernel), kini_CaseManager_Court, by decide +kernel, by decide +kernel, by decide +kernel⟩
theorem kiX0_questionsTo : (Cond.instanceMethod yX0_questionsTo ∈ WA) ∧ (Cond.selects yX0_questionsTo.cls yX0_questionsTo yX0_questionsTo ∈ WA) := ⟨WA_of (i := 667) (by decide +kernel) (by decide +kernel), WA_of (i := 668) (by decide +kernel) (by decide +kernel)⟩
def mxX0_casesHearing : Nat := 4
theorem kvX0_casesHearing : (Cond.code yX0_casesHearing cX0_casesHearing 4 (some .int) ∈ WA) ∧ (Cond.initialized yX0_casesHearing.cls ∈ WA) ∧ (yX0_casesHearing.cls ≠ "java/lang/invoke/MethodHandle" ∧ yX0_casesHearing.cls ≠ "java/lang/invoke/VarHandle" ∧ (parseMethodDescriptor yX0_casesHearing.desc).map (fun d => d.parameters.length) = some 1) := ⟨WA_of (i := 1078) (by decide +kernel) (by decide +kernel), kini_CaseManager_Court, by decide +kernel, by decide +kernel, by decide +kernel⟩
theorem kiX0_casesHearing : (Cond.instanceMethod yX0_casesHearing ∈ WA) ∧ (Cond.selects yX0_casesHearing.cls yX0_casesHearing yX0_casesHearing ∈ WA) := ⟨WA_of (i := 1076) (by decide +kernel) (by decide +kernel), WA_of (i := 1077) (by decide +kernel) (by decide +kernel)⟩
def mxX0_agreementOf : Nat := 5
theorem kvX0_agreementOf : (Cond.code yX0_agreementOf cX0_agreementOf 5 (some .int) ∈ WA) ∧ (Cond.initialized yX0_agreementOf.cls ∈ WA) ∧ (yX0_agreementOf.cls ≠ "java/lang/invoke/MethodHandle" ∧ yX0_agreementOf.cls ≠ "java/lang/invoke/VarHandle" ∧ (parseMethodDescriptor yX0_agreementOf.desc).map (fun d => d.parameters.length) = some 2) := ⟨WA_of (i := 1110) (by decide +kernel) (by decide +kernel), kini_CaseManager_Court, by decide +kernel, by decide +kernel, by decide +kernel⟩
theorem kiX0_agreementOf : (Cond.instanceMethod yX0_agreementOf ∈ WA) ∧ (Cond.selects yX0_agreementOf.cls yX0_agreementOf yX0_agreementOf ∈ WA) := ⟨WA_of (i := 1108) (by decide +kernel) (by decide +kernel), WA_of (i := 1109) (by decide +kernel) (by decide +kernel)⟩
def mxX0_witnessOfRank : Nat := 3
theorem kvX0_witnessOfRank : (Cond.code yX0_witnessOfRank cX0_witnessOfRank 3 (some .int) ∈ WA) ∧ (Cond.initialized yX0_witnessOfRank.cls ∈ WA) ∧ (yX0_witnessOfRank.cls ≠ "java/lang/invoke/MethodHandle" ∧ yX0_witnessOfRank.cls ≠ "java/lang/invoke/VarHandle" ∧ (parseMethodDescriptor yX0_witnessOfRank.desc).map (fun d => d.parameters.length) = some 1) := ⟨WA_of (i := 1089) (by decide +kernel) (by decide +kernel), kini_CaseManager_Court, by decide +kernel, by decide +kernel, by decide +kernel⟩
theorem kiX0_witnessOfRank : (Cond.instanceMethod yX0_witnessOfRank ∈ WA) ∧ (Cond.selects yX0_witnessOfRank.cls yX0_witnessOfRank yX0_witnessOfRank ∈ WA) := ⟨WA_of (i := 1087) (by decide +kernel) (by decide +kernel), WA_of (i := 1088) (by decide +kernel) (by decide +kernel)⟩
def mxX0_rankOf : Nat := 4
theorem kvX0_rankOf : (Cond.code yX0_rankOf cX0_rankOf 4 (some .int) ∈ WA) ∧ (Cond.initialized yX0_rankOf.cls ∈ WA) ∧ (yX0_rankOf.cls ≠ "java/lang/invoke/MethodHandle" ∧ yX0_rankOf.cls ≠ "java/lang/invoke/VarHandle" ∧ (parseMethodDescriptor yX0_rankOf.desc).map (fun d => d.parameters.length) = some 1) := ⟨WA_of (i := 1093) (by decide +kernel) (by decide +kernel), kini_CaseManager_Court, by decide +kernel, by decide +kernel, by decide +kernel⟩
theorem kiX0_rankOf : (Cond.instanceMethod yX0_rankOf ∈ WA) ∧ (Cond.selects yX0_rankOf.cls yX0_rankOf yX0_rankOf ∈ WA) := ⟨WA_of (i := 1092) (by decide +kernel) (by decide +kernel), WA_of (i := 28) (by decide +kernel) (by decide +kernel)⟩
def mxX0_isMoreCredible : Nat := 5
theorem kvX0_isMoreCredible : (Cond.code yX0_isMoreCredible cX0_isMoreCredible 5 (some .boolean) ∈ WA) ∧ (Cond.initialized yX0_isMoreCredible.cls ∈ WA) ∧ (yX0_isMoreCredible.cls ≠ "java/lang/invoke/MethodHandle" ∧ yX0_isMoreCredible.cls ≠ "java/lang/invoke/VarHandle" ∧ (parseMethodDescriptor yX0_isMoreCredible.desc).map (fun d => d.parameters.length) = some 2) := ⟨WA_of (i := 1097) (by decide +kernel) (by decide +kernel), kini_CaseManager_Court, by decide +kernel, by decide +kernel, by decide +kernel⟩
theorem kiX0_isMoreCredible : (Cond.instanceMethod yX0_isMoreCredible ∈ WA) ∧ (Cond.selects yX0_isMoreCredible.cls yX0_isMoreCredible yX0_isMoreCredible ∈ WA) := ⟨WA_of (i := 1096) (by decide +kernel) (by decide +kernel), WA_of (i := 29) (by decide +kernel) (by decide +kernel)⟩
def mxX0_credibilitySum : Nat := 3
theorem kvX0_credibilitySum : (Cond.code yX0_credibilitySum cX0_credibilitySum 3 (some .int) ∈ WA) ∧ (Cond.initialized yX0_credibilitySum.cls ∈ WA) ∧ (yX0_credibilitySum.cls ≠ "java/lang/invoke/MethodHandle" ∧ yX0_credibilitySum.cls ≠ "java/lang/invoke/VarHandle" ∧ (parseMethodDescriptor yX0_credibilitySum.desc).map (fun d => d.parameters.length) = some 0) := ⟨WA_of (i := 1265) (by decide +kernel) (by decide +kernel), kini_CaseManager_Court, by decide +kernel, by decide +kernel, by decide +kernel⟩
theorem kiX0_credibilitySum : (Cond.instanceMethod yX0_credibilitySum ∈ WA) ∧ (Cond.selects yX0_credibilitySum.cls yX0_credibilitySum yX0_credibilitySum ∈ WA) := ⟨WA_of (i := 1263) (by decide +kernel) (by decide +kernel), WA_of (i := 1264) (by decide +kernel) (by decide +kernel)⟩
def mxX0_addedSentence : Nat := 4
theorem kvX0_addedSentence : (Cond.code yX0_addedSentence cX0_addedSentence 4 (some .int) ∈ WA) ∧ (Cond.initialized yX0_addedSentence.cls ∈ WA) ∧ (yX0_addedSentence.cls ≠ "java/lang/invoke/MethodHandle" ∧ yX0_addedSentence.cls ≠ "java/lang/invoke/VarHandle" ∧ (parseMethodDescriptor yX0_addedSentence.desc).map (fun d => d.parameters.length) = some 1) := ⟨WA_of (i := 505) (by decide +kernel) (by decide +kernel), kini_CaseManager_Court, by decide +kernel, by decide +kernel, by decide +kernel⟩
theorem kiX0_addedSentence : (Cond.instanceMethod yX0_addedSentence ∈ WA) ∧ (Cond.selects yX0_addedSentence.cls yX0_addedSentence yX0_addedSentence ∈ WA) := ⟨WA_of (i := 503) (by decide +kernel) (by decide +kernel), WA_of (i := 504) (by decide +kernel) (by decide +kernel)⟩
def mxX0_countIn : Nat := 4
theorem kvX0_countIn : (Cond.code yX0_countIn cX0_countIn 4 (some .int) ∈ WA) ∧ (Cond.initialized yX0_countIn.cls ∈ WA) ∧ (yX0_countIn.cls ≠ "java/lang/invoke/MethodHandle" ∧ yX0_countIn.cls ≠ "java/lang/invoke/VarHandle" ∧ (parseMethodDescriptor yX0_countIn.desc).map (fun d => d.parameters.length) = some 1) := ⟨WA_of (i := 427) (by decide +kernel) (by decide +kernel), kini_CaseManager_Court, by decide +kernel, by decide +kernel, by decide +kernel⟩
theorem kiX0_countIn : (Cond.instanceMethod yX0_countIn ∈ WA) ∧ (Cond.selects yX0_countIn.cls yX0_countIn yX0_countIn ∈ WA) := ⟨WA_of (i := 425) (by decide +kernel) (by decide +kernel), WA_of (i := 426) (by decide +kernel) (by decide +kernel)⟩
def mxX0_countGuilty : Nat := 3
theorem kvX0_countGuilty : (Cond.code yX0_countGuilty cX0_countGuilty 3 (some .int) ∈ WA) ∧ (Cond.initialized yX0_countGuilty.cls ∈ WA) ∧ (yX0_countGuilty.cls ≠ "java/lang/invoke/MethodHandle" ∧ yX0_countGuilty.cls ≠ "java/lang/invoke/VarHandle" ∧ (parseMethodDescriptor yX0_countGuilty.desc).map (fun d => d.parameters.length) = some 0) := ⟨WA_of (i := 444) (by decide +kernel) (by decide +kernel), kini_CaseManager_Court, by decide +kernel, by decide +kernel, by decide +kernel⟩
theorem kiX0_countGuilty : (Cond.instanceMethod yX0_countGuilty ∈ WA) ∧ (Cond.selects yX0_countGuilty.cls yX0_countGuilty yX0_countGuilty ∈ WA) := ⟨WA_of (i := 442) (by decide +kernel) (by decide +kernel), WA_of (i := 443) (by decide +kernel) (by decide +kernel)⟩
def mxX0_openCasesBefore : Nat := 4
theorem kvX0_openCasesBefore : (Cond.code yX0_openCasesBefore cX0_openCasesBefore 4 (some .int) ∈ WA) ∧ (Cond.initialized yX0_openCasesBefore.cls ∈ WA) ∧ (yX0_openCasesBefore.cls ≠ "java/lang/invoke/MethodHandle" ∧ yX0_openCasesBefore.cls ≠ "java/lang/invoke/VarHandle" ∧ (parseMethodDescriptor yX0_openCasesBefore.desc).map (fun d => d.parameters.length) = some 1) := ⟨WA_of (i := 576) (by decide +kernel) (by decide +kernel), kini_CaseManager_Court, by decide +kernel, by decide +kernel, by decide +kernel⟩
theorem kiX0_openCasesBefore : (Cond.instanceMethod yX0_openCasesBefore ∈ WA) ∧ (Cond.selects yX0_openCasesBefore.cls yX0_openCasesBefore yX0_openCasesBefore ∈ WA) := ⟨WA_of (i := 574) (by decide +kernel) (by decide +kernel), WA_of (i := 575) (by decide +kernel) (by decide +kernel)⟩
def mxX0_comesBefore : Nat := 3
theorem kvX0_comesBefore : (Cond.code yX0_comesBefore cX0_comesBefore 3 (some .boolean) ∈ WA) ∧ (Cond.initialized yX0_comesBefore.cls ∈ WA) ∧ (yX0_comesBefore.cls ≠ "java/lang/invoke/MethodHandle" ∧ yX0_comesBefore.cls ≠ "java/lang/invoke/VarHandle" ∧ (parseMethodDescriptor yX0_comesBefore.desc).map (fun d => d.parameters.length) = some 2) := ⟨WA_of (i := 570) (by decide +kernel) (by decide +kernel), kini_CaseManager_Court, by decide +kernel, by decide +kernel, by decide +kernel⟩
theorem kiX0_comesBefore : (Cond.instanceMethod yX0_comesBefore ∈ WA) ∧ (Cond.selects yX0_comesBefore.cls yX0_comesBefore yX0_comesBefore ∈ WA) := ⟨WA_of (i := 568) (by decide +kernel) (by decide +kernel), WA_of (i := 569) (by decide +kernel) (by decide +kernel)⟩
def mxX1_init : Nat := 1
theorem kvX1_init : (Cond.code yX1_init cX1_init 1 none ∈ WA) ∧ (Cond.initialized yX1_init.cls ∈ WA) ∧ (yX1_init.cls ≠ "java/lang/invoke/MethodHandle" ∧ yX1_init.cls ≠ "java/lang/invoke/VarHandle" ∧ (parseMethodDescriptor yX1_init.desc).map (fun d => d.parameters.length) = some 0) := ⟨WA_of (i := 251) (by decide +kernel) (by decide +kernel), kini_CaseManager_Docket, by decide +kernel, by decide +kernel, by decide +kernel⟩
theorem kiiX1_init : Cond.instanceMethod yX1_init ∈ WA := WA_of (i := 250) (by decide +kernel) (by decide +kernel)
def mxX1_fill : Nat := 3
theorem kvX1_fill : (Cond.code yX1_fill cX1_fill 3 none ∈ WA) ∧ (Cond.initialized yX1_fill.cls ∈ WA) ∧ (yX1_fill.cls ≠ "java/lang/invoke/MethodHandle" ∧ yX1_fill.cls ≠ "java/lang/invoke/VarHandle" ∧ (parseMethodDescriptor yX1_fill.desc).map (fun d => d.parameters.length) = some 1) := ⟨WA_of (i := 560) (by decide +kernel) (by decide +kernel), kini_CaseManager_Docket, by decide +kernel, by decide +kernel, by decide +kernel⟩
theorem kiX1_fill : (Cond.instanceMethod yX1_fill ∈ WA) ∧ (Cond.selects yX1_fill.cls yX1_fill yX1_fill ∈ WA) := ⟨WA_of (i := 558) (by decide +kernel) (by decide +kernel), WA_of (i := 559) (by decide +kernel) (by decide +kernel)⟩
def mxX1_insert : Nat := 4
theorem kvX1_insert : (Cond.code yX1_insert cX1_insert 4 none ∈ WA) ∧ (Cond.initialized yX1_insert.cls ∈ WA) ∧ (yX1_insert.cls ≠ "java/lang/invoke/MethodHandle" ∧ yX1_insert.cls ≠ "java/lang/invoke/VarHandle" ∧ (parseMethodDescriptor yX1_insert.desc).map (fun d => d.parameters.length) = some 2) := ⟨WA_of (i := 565) (by decide +kernel) (by decide +kernel), kini_CaseManager_Docket, by decide +kernel, by decide +kernel, by decide +kernel⟩
theorem kiX1_insert : (Cond.instanceMethod yX1_insert ∈ WA) ∧ (Cond.selects yX1_insert.cls yX1_insert yX1_insert ∈ WA) := ⟨WA_of (i := 564) (by decide +kernel) (by decide +kernel), WA_of (i := 8) (by decide +kernel) (by decide +kernel)⟩
def mxX1_holdsAt : Nat := 3
theorem kvX1_holdsAt : (Cond.code yX1_holdsAt cX1_holdsAt 3 (some .boolean) ∈ WA) ∧ (Cond.initialized yX1_holdsAt.cls ∈ WA) ∧ (yX1_holdsAt.cls ≠ "java/lang/invoke/MethodHandle" ∧ yX1_holdsAt.cls ≠ "java/lang/invoke/VarHandle" ∧ (parseMethodDescriptor yX1_holdsAt.desc).map (fun d => d.parameters.length) = some 2) := ⟨WA_of (i := 581) (by decide +kernel) (by decide +kernel), kini_CaseManager_Docket, by decide +kernel, by decide +kernel, by decide +kernel⟩
theorem kiX1_holdsAt : (Cond.instanceMethod yX1_holdsAt ∈ WA) ∧ (Cond.selects yX1_holdsAt.cls yX1_holdsAt yX1_holdsAt ∈ WA) := ⟨WA_of (i := 579) (by decide +kernel) (by decide +kernel), WA_of (i := 580) (by decide +kernel) (by decide +kernel)⟩
def mxX1_firstHeard : Nat := 3
theorem kvX1_firstHeard : (Cond.code yX1_firstHeard cX1_firstHeard 3 (some .int) ∈ WA) ∧ (Cond.initialized yX1_firstHeard.cls ∈ WA) ∧ (yX1_firstHeard.cls ≠ "java/lang/invoke/MethodHandle" ∧ yX1_firstHeard.cls ≠ "java/lang/invoke/VarHandle" ∧ (parseMethodDescriptor yX1_firstHeard.desc).map (fun d => d.parameters.length) = some 1) := ⟨WA_of (i := 1159) (by decide +kernel) (by decide +kernel), kini_CaseManager_Docket, by decide +kernel, by decide +kernel, by decide +kernel⟩
theorem kiX1_firstHeard : (Cond.instanceMethod yX1_firstHeard ∈ WA) ∧ (Cond.selects yX1_firstHeard.cls yX1_firstHeard yX1_firstHeard ∈ WA) := ⟨WA_of (i := 1157) (by decide +kernel) (by decide +kernel), WA_of (i := 1158) (by decide +kernel) (by decide +kernel)⟩
def mxX3_init : Nat := 1
theorem kvX3_init : (Cond.code yX3_init cX3_init 1 none ∈ WA) ∧ (Cond.initialized yX3_init.cls ∈ WA) ∧ (yX3_init.cls ≠ "java/lang/invoke/MethodHandle" ∧ yX3_init.cls ≠ "java/lang/invoke/VarHandle" ∧ (parseMethodDescriptor yX3_init.desc).map (fun d => d.parameters.length) = some 0) := ⟨WA_of (i := 149) (by decide +kernel) (by decide +kernel), kini_CaseManager_Groups, by decide +kernel, by decide +kernel, by decide +kernel⟩
theorem kiiX3_init : Cond.instanceMethod yX3_init ∈ WA := WA_of (i := 148) (by decide +kernel) (by decide +kernel)
def mxX3_found : Nat := 2
theorem kvX3_found : (Cond.code yX3_found cX3_found 2 none ∈ WA) ∧ (Cond.initialized yX3_found.cls ∈ WA) ∧ (yX3_found.cls ≠ "java/lang/invoke/MethodHandle" ∧ yX3_found.cls ≠ "java/lang/invoke/VarHandle" ∧ (parseMethodDescriptor yX3_found.desc).map (fun d => d.parameters.length) = some 1) := ⟨WA_of (i := 831) (by decide +kernel) (by decide +kernel), kini_CaseManager_Groups, by decide +kernel, by decide +kernel, by decide +kernel⟩
theorem kiX3_found : (Cond.instanceMethod yX3_found ∈ WA) ∧ (Cond.selects yX3_found.cls yX3_found yX3_found ∈ WA) := ⟨WA_of (i := 829) (by decide +kernel) (by decide +kernel), WA_of (i := 830) (by decide +kernel) (by decide +kernel)⟩
def mxX3_unite : Nat := 3
theorem kvX3_unite : (Cond.code yX3_unite cX3_unite 3 none ∈ WA) ∧ (Cond.initialized yX3_unite.cls ∈ WA) ∧ (yX3_unite.cls ≠ "java/lang/invoke/MethodHandle" ∧ yX3_unite.cls ≠ "java/lang/invoke/VarHandle" ∧ (parseMethodDescriptor yX3_unite.desc).map (fun d => d.parameters.length) = some 2) := ⟨WA_of (i := 841) (by decide +kernel) (by decide +kernel), kini_CaseManager_Groups, by decide +kernel, by decide +kernel, by decide +kernel⟩
theorem kiX3_unite : (Cond.instanceMethod yX3_unite ∈ WA) ∧ (Cond.selects yX3_unite.cls yX3_unite yX3_unite ∈ WA) := ⟨WA_of (i := 839) (by decide +kernel) (by decide +kernel), WA_of (i := 840) (by decide +kernel) (by decide +kernel)⟩
def mxX3_areUnited : Nat := 3
theorem kvX3_areUnited : (Cond.code yX3_areUnited cX3_areUnited 3 (some .boolean) ∈ WA) ∧ (Cond.initialized yX3_areUnited.cls ∈ WA) ∧ (yX3_areUnited.cls ≠ "java/lang/invoke/MethodHandle" ∧ yX3_areUnited.cls ≠ "java/lang/invoke/VarHandle" ∧ (parseMethodDescriptor yX3_areUnited.desc).map (fun d => d.parameters.length) = some 2) := ⟨WA_of (i := 544) (by decide +kernel) (by decide +kernel), kini_CaseManager_Groups, by decide +kernel, by decide +kernel, by decide +kernel⟩
theorem kiX3_areUnited : (Cond.instanceMethod yX3_areUnited ∈ WA) ∧ (Cond.selects yX3_areUnited.cls yX3_areUnited yX3_areUnited ∈ WA) := ⟨WA_of (i := 542) (by decide +kernel) (by decide +kernel), WA_of (i := 543) (by decide +kernel) (by decide +kernel)⟩
def mxX3_sizeAround : Nat := 5
theorem kvX3_sizeAround : (Cond.code yX3_sizeAround cX3_sizeAround 5 (some .int) ∈ WA) ∧ (Cond.initialized yX3_sizeAround.cls ∈ WA) ∧ (yX3_sizeAround.cls ≠ "java/lang/invoke/MethodHandle" ∧ yX3_sizeAround.cls ≠ "java/lang/invoke/VarHandle" ∧ (parseMethodDescriptor yX3_sizeAround.desc).map (fun d => d.parameters.length) = some 2) := ⟨WA_of (i := 1136) (by decide +kernel) (by decide +kernel), kini_CaseManager_Groups, by decide +kernel, by decide +kernel, by decide +kernel⟩
theorem kiX3_sizeAround : (Cond.instanceMethod yX3_sizeAround ∈ WA) ∧ (Cond.selects yX3_sizeAround.cls yX3_sizeAround yX3_sizeAround ∈ WA) := ⟨WA_of (i := 1134) (by decide +kernel) (by decide +kernel), WA_of (i := 1135) (by decide +kernel) (by decide +kernel)⟩
def mxX3_countAmong : Nat := 4
theorem kvX3_countAmong : (Cond.code yX3_countAmong cX3_countAmong 4 (some .int) ∈ WA) ∧ (Cond.initialized yX3_countAmong.cls ∈ WA) ∧ (yX3_countAmong.cls ≠ "java/lang/invoke/MethodHandle" ∧ yX3_countAmong.cls ≠ "java/lang/invoke/VarHandle" ∧ (parseMethodDescriptor yX3_countAmong.desc).map (fun d => d.parameters.length) = some 1) := ⟨WA_of (i := 410) (by decide +kernel) (by decide +kernel), kini_CaseManager_Groups, by decide +kernel, by decide +kernel, by decide +kernel⟩
theorem kiX3_countAmong : (Cond.instanceMethod yX3_countAmong ∈ WA) ∧ (Cond.selects yX3_countAmong.cls yX3_countAmong yX3_countAmong ∈ WA) := ⟨WA_of (i := 408) (by decide +kernel) (by decide +kernel), WA_of (i := 409) (by decide +kernel) (by decide +kernel)⟩
def mxX3_rootOf : Nat := 4
theorem kvX3_rootOf : (Cond.code yX3_rootOf cX3_rootOf 4 (some .int) ∈ WA) ∧ (Cond.initialized yX3_rootOf.cls ∈ WA) ∧ (yX3_rootOf.cls ≠ "java/lang/invoke/MethodHandle" ∧ yX3_rootOf.cls ≠ "java/lang/invoke/VarHandle" ∧ (parseMethodDescriptor yX3_rootOf.desc).map (fun d => d.parameters.length) = some 1) := ⟨WA_of (i := 548) (by decide +kernel) (by decide +kernel), kini_CaseManager_Groups, by decide +kernel, by decide +kernel, by decide +kernel⟩
theorem kiX3_rootOf : (Cond.instanceMethod yX3_rootOf ∈ WA) ∧ (Cond.selects yX3_rootOf.cls yX3_rootOf yX3_rootOf ∈ WA) := ⟨WA_of (i := 547) (by decide +kernel) (by decide +kernel), WA_of (i := 6) (by decide +kernel) (by decide +kernel)⟩
def mxX4_init : Nat := 2
theorem kvX4_init : (Cond.code yX4_init cX4_init 2 none ∈ WA) ∧ (Cond.initialized yX4_init.cls ∈ WA) ∧ (yX4_init.cls ≠ "java/lang/invoke/MethodHandle" ∧ yX4_init.cls ≠ "java/lang/invoke/VarHandle" ∧ (parseMethodDescriptor yX4_init.desc).map (fun d => d.parameters.length) = some 0) := ⟨WA_of (i := 231) (by decide +kernel) (by decide +kernel), kini_CaseManager_History, by decide +kernel, by decide +kernel, by decide +kernel⟩
theorem kiiX4_init : Cond.instanceMethod yX4_init ∈ WA := WA_of (i := 230) (by decide +kernel) (by decide +kernel)
def mxX4_keep : Nat := 3
theorem kvX4_keep : (Cond.code yX4_keep cX4_keep 3 none ∈ WA) ∧ (Cond.initialized yX4_keep.cls ∈ WA) ∧ (yX4_keep.cls ≠ "java/lang/invoke/MethodHandle" ∧ yX4_keep.cls ≠ "java/lang/invoke/VarHandle" ∧ (parseMethodDescriptor yX4_keep.desc).map (fun d => d.parameters.length) = some 1) := ⟨WA_of (i := 808) (by decide +kernel) (by decide +kernel), kini_CaseManager_History, by decide +kernel, by decide +kernel, by decide +kernel⟩
theorem kiX4_keep : (Cond.instanceMethod yX4_keep ∈ WA) ∧ (Cond.selects yX4_keep.cls yX4_keep yX4_keep ∈ WA) := ⟨WA_of (i := 806) (by decide +kernel) (by decide +kernel), WA_of (i := 807) (by decide +kernel) (by decide +kernel)⟩
def mxX4_takeLatest : Nat := 4
theorem kvX4_takeLatest : (Cond.code yX4_takeLatest cX4_takeLatest 4 none ∈ WA) ∧ (Cond.initialized yX4_takeLatest.cls ∈ WA) ∧ (yX4_takeLatest.cls ≠ "java/lang/invoke/MethodHandle" ∧ yX4_takeLatest.cls ≠ "java/lang/invoke/VarHandle" ∧ (parseMethodDescriptor yX4_takeLatest.desc).map (fun d => d.parameters.length) = some 1) := ⟨WA_of (i := 1737) (by decide +kernel) (by decide +kernel), kini_CaseManager_History, by decide +kernel, by decide +kernel, by decide +kernel⟩
theorem kiX4_takeLatest : (Cond.instanceMethod yX4_takeLatest ∈ WA) ∧ (Cond.selects yX4_takeLatest.cls yX4_takeLatest yX4_takeLatest ∈ WA) := ⟨WA_of (i := 1735) (by decide +kernel) (by decide +kernel), WA_of (i := 1736) (by decide +kernel) (by decide +kernel)⟩
def mxX4_forgetAll : Nat := 1
theorem kvX4_forgetAll : (Cond.code yX4_forgetAll cX4_forgetAll 1 none ∈ WA) ∧ (Cond.initialized yX4_forgetAll.cls ∈ WA) ∧ (yX4_forgetAll.cls ≠ "java/lang/invoke/MethodHandle" ∧ yX4_forgetAll.cls ≠ "java/lang/invoke/VarHandle" ∧ (parseMethodDescriptor yX4_forgetAll.desc).map (fun d => d.parameters.length) = some 0) := ⟨WA_of (i := 1749) (by decide +kernel) (by decide +kernel), kini_CaseManager_History, by decide +kernel, by decide +kernel, by decide +kernel⟩
theorem kiX4_forgetAll : (Cond.instanceMethod yX4_forgetAll ∈ WA) ∧ (Cond.selects yX4_forgetAll.cls yX4_forgetAll yX4_forgetAll ∈ WA) := ⟨WA_of (i := 1747) (by decide +kernel) (by decide +kernel), WA_of (i := 1748) (by decide +kernel) (by decide +kernel)⟩
def mxX4_placeAt : Nat := 2
theorem kvX4_placeAt : (Cond.code yX4_placeAt cX4_placeAt 2 (some (.object "CaseManager$Court")) ∈ WA) ∧ (Cond.initialized yX4_placeAt.cls ∈ WA) ∧ (yX4_placeAt.cls ≠ "java/lang/invoke/MethodHandle" ∧ yX4_placeAt.cls ≠ "java/lang/invoke/VarHandle" ∧ (parseMethodDescriptor yX4_placeAt.desc).map (fun d => d.parameters.length) = some 1) := ⟨WA_of (i := 812) (by decide +kernel) (by decide +kernel), kini_CaseManager_History, by decide +kernel, by decide +kernel, by decide +kernel⟩
theorem kiX4_placeAt : (Cond.instanceMethod yX4_placeAt ∈ WA) ∧ (Cond.selects yX4_placeAt.cls yX4_placeAt yX4_placeAt ∈ WA) := ⟨WA_of (i := 811) (by decide +kernel) (by decide +kernel), WA_of (i := 17) (by decide +kernel) (by decide +kernel)⟩
def mxX5_init : Nat := 1
theorem kvX5_init : (Cond.code yX5_init cX5_init 1 none ∈ WA) ∧ (Cond.initialized yX5_init.cls ∈ WA) ∧ (yX5_init.cls ≠ "java/lang/invoke/MethodHandle" ∧ yX5_init.cls ≠ "java/lang/invoke/VarHandle" ∧ (parseMethodDescriptor yX5_init.desc).map (fun d => d.parameters.length) = some 0) := ⟨WA_of (i := 286) (by decide +kernel) (by decide +kernel), kini_CaseManager_Program, by decide +kernel, by decide +kernel, by decide +kernel⟩
theorem kiiX5_init : Cond.instanceMethod yX5_init ∈ WA := WA_of (i := 285) (by decide +kernel) (by decide +kernel)
def mxX5_parse : Nat := 3
theorem kvX5_parse : (Cond.code yX5_parse cX5_parse 3 (some .boolean) ∈ WA) ∧ (Cond.initialized yX5_parse.cls ∈ WA) ∧ (yX5_parse.cls ≠ "java/lang/invoke/MethodHandle" ∧ yX5_parse.cls ≠ "java/lang/invoke/VarHandle" ∧ (parseMethodDescriptor yX5_parse.desc).map (fun d => d.parameters.length) = some 0) := ⟨WA_of (i := 1609) (by decide +kernel) (by decide +kernel), kini_CaseManager_Program, by decide +kernel, by decide +kernel, by decide +kernel⟩
theorem kiX5_parse : (Cond.instanceMethod yX5_parse ∈ WA) ∧ (Cond.selects yX5_parse.cls yX5_parse yX5_parse ∈ WA) := ⟨WA_of (i := 1607) (by decide +kernel) (by decide +kernel), WA_of (i := 1608) (by decide +kernel) (by decide +kernel)⟩
def mxX5_readKeyword : Nat := 3
theorem kvX5_readKeyword : (Cond.code yX5_readKeyword cX5_readKeyword 3 (some .int) ∈ WA) ∧ (Cond.initialized yX5_readKeyword.cls ∈ WA) ∧ (yX5_readKeyword.cls ≠ "java/lang/invoke/MethodHandle" ∧ yX5_readKeyword.cls ≠ "java/lang/invoke/VarHandle" ∧ (parseMethodDescriptor yX5_readKeyword.desc).map (fun d => d.parameters.length) = some 0) := ⟨WA_of (i := 1613) (by decide +kernel) (by decide +kernel), kini_CaseManager_Program, by decide +kernel, by decide +kernel, by decide +kernel⟩
theorem kiX5_readKeyword : (Cond.instanceMethod yX5_readKeyword ∈ WA) ∧ (Cond.selects yX5_readKeyword.cls yX5_readKeyword yX5_readKeyword ∈ WA) := ⟨WA_of (i := 1612) (by decide +kernel) (by decide +kernel), WA_of (i := 32) (by decide +kernel) (by decide +kernel)⟩
def mxX5_followed : Nat := 3
theorem kvX5_followed : (Cond.code yX5_followed cX5_followed 3 (some .int) ∈ WA) ∧ (Cond.initialized yX5_followed.cls ∈ WA) ∧ (yX5_followed.cls ≠ "java/lang/invoke/MethodHandle" ∧ yX5_followed.cls ≠ "java/lang/invoke/VarHandle" ∧ (parseMethodDescriptor yX5_followed.desc).map (fun d => d.parameters.length) = some 1) := ⟨WA_of (i := 1627) (by decide +kernel) (by decide +kernel), kini_CaseManager_Program, by decide +kernel, by decide +kernel, by decide +kernel⟩
theorem kiX5_followed : (Cond.instanceMethod yX5_followed ∈ WA) ∧ (Cond.selects yX5_followed.cls yX5_followed yX5_followed ∈ WA) := ⟨WA_of (i := 1626) (by decide +kernel) (by decide +kernel), WA_of (i := 33) (by decide +kernel) (by decide +kernel)⟩
def mxX5_keywordOf : Nat := 1
theorem kvX5_keywordOf : (Cond.code yX5_keywordOf cX5_keywordOf 1 (some (.object "java/lang/String")) ∈ WA) ∧ (Cond.initialized yX5_keywordOf.cls ∈ WA) ∧ (yX5_keywordOf.cls ≠ "java/lang/invoke/MethodHandle" ∧ yX5_keywordOf.cls ≠ "java/lang/invoke/VarHandle" ∧ (parseMethodDescriptor yX5_keywordOf.desc).map (fun d => d.parameters.length) = some 1) := ⟨WA_of (i := 1616) (by decide +kernel) (by decide +kernel), kini_CaseManager_Program, by decide +kernel, by decide +kernel, by decide +kernel⟩
theorem ksX5_keywordOf : Cond.static yX5_keywordOf ∈ WA := WA_of (i := 1615) (by decide +kernel) (by decide +kernel)
def mxX5_readArguments : Nat := 2
theorem kvX5_readArguments : (Cond.code yX5_readArguments cX5_readArguments 2 (some .boolean) ∈ WA) ∧ (Cond.initialized yX5_readArguments.cls ∈ WA) ∧ (yX5_readArguments.cls ≠ "java/lang/invoke/MethodHandle" ∧ yX5_readArguments.cls ≠ "java/lang/invoke/VarHandle" ∧ (parseMethodDescriptor yX5_readArguments.desc).map (fun d => d.parameters.length) = some 1) := ⟨WA_of (i := 1653) (by decide +kernel) (by decide +kernel), kini_CaseManager_Program, by decide +kernel, by decide +kernel, by decide +kernel⟩
theorem kiX5_readArguments : (Cond.instanceMethod yX5_readArguments ∈ WA) ∧ (Cond.selects yX5_readArguments.cls yX5_readArguments yX5_readArguments ∈ WA) := ⟨WA_of (i := 1652) (by decide +kernel) (by decide +kernel), WA_of (i := 35) (by decide +kernel) (by decide +kernel)⟩
def mxX5_readCaseAndWitness : Nat := 1
theorem kvX5_readCaseAndWitness : (Cond.code yX5_readCaseAndWitness cX5_readCaseAndWitness 1 (some .boolean) ∈ WA) ∧ (Cond.initialized yX5_readCaseAndWitness.cls ∈ WA) ∧ (yX5_readCaseAndWitness.cls ≠ "java/lang/invoke/MethodHandle" ∧ yX5_readCaseAndWitness.cls ≠ "java/lang/invoke/VarHandle" ∧ (parseMethodDescriptor yX5_readCaseAndWitness.desc).map (fun d => d.parameters.length) = some 0) := ⟨WA_of (i := 1666) (by decide +kernel) (by decide +kernel), kini_CaseManager_Program, by decide +kernel, by decide +kernel, by decide +kernel⟩
theorem kiX5_readCaseAndWitness : (Cond.instanceMethod yX5_readCaseAndWitness ∈ WA) ∧ (Cond.selects yX5_readCaseAndWitness.cls yX5_readCaseAndWitness yX5_readCaseAndWitness ∈ WA) := ⟨WA_of (i := 1665) (by decide +kernel) (by decide +kernel), WA_of (i := 38) (by decide +kernel) (by decide +kernel)⟩
def mxX5_readNumber : Nat := 3
theorem kvX5_readNumber : (Cond.code yX5_readNumber cX5_readNumber 3 (some .boolean) ∈ WA) ∧ (Cond.initialized yX5_readNumber.cls ∈ WA) ∧ (yX5_readNumber.cls ≠ "java/lang/invoke/MethodHandle" ∧ yX5_readNumber.cls ≠ "java/lang/invoke/VarHandle" ∧ (parseMethodDescriptor yX5_readNumber.desc).map (fun d => d.parameters.length) = some 1) := ⟨WA_of (i := 1670) (by decide +kernel) (by decide +kernel), kini_CaseManager_Program, by decide +kernel, by decide +kernel, by decide +kernel⟩
theorem kiX5_readNumber : (Cond.instanceMethod yX5_readNumber ∈ WA) ∧ (Cond.selects yX5_readNumber.cls yX5_readNumber yX5_readNumber ∈ WA) := ⟨WA_of (i := 1669) (by decide +kernel) (by decide +kernel), WA_of (i := 39) (by decide +kernel) (by decide +kernel)⟩
def mxX5_readDigit : Nat := 3
theorem kvX5_readDigit : (Cond.code yX5_readDigit cX5_readDigit 3 (some .boolean) ∈ WA) ∧ (Cond.initialized yX5_readDigit.cls ∈ WA) ∧ (yX5_readDigit.cls ≠ "java/lang/invoke/MethodHandle" ∧ yX5_readDigit.cls ≠ "java/lang/invoke/VarHandle" ∧ (parseMethodDescriptor yX5_readDigit.desc).map (fun d => d.parameters.length) = some 1) := ⟨WA_of (i := 1657) (by decide +kernel) (by decide +kernel), kini_CaseManager_Program, by decide +kernel, by decide +kernel, by decide +kernel⟩
theorem kiX5_readDigit : (Cond.instanceMethod yX5_readDigit ∈ WA) ∧ (Cond.selects yX5_readDigit.cls yX5_readDigit yX5_readDigit ∈ WA) := ⟨WA_of (i := 1656) (by decide +kernel) (by decide +kernel), WA_of (i := 36) (by decide +kernel) (by decide +kernel)⟩
def mxX5_readFlag : Nat := 4
theorem kvX5_readFlag : (Cond.code yX5_readFlag cX5_readFlag 4 (some .boolean) ∈ WA) ∧ (Cond.initialized yX5_readFlag.cls ∈ WA) ∧ (yX5_readFlag.cls ≠ "java/lang/invoke/MethodHandle" ∧ yX5_readFlag.cls ≠ "java/lang/invoke/VarHandle" ∧ (parseMethodDescriptor yX5_readFlag.desc).map (fun d => d.parameters.length) = some 2) := ⟨WA_of (i := 1676) (by decide +kernel) (by decide +kernel), kini_CaseManager_Program, by decide +kernel, by decide +kernel, by decide +kernel⟩
theorem kiX5_readFlag : (Cond.instanceMethod yX5_readFlag ∈ WA) ∧ (Cond.selects yX5_readFlag.cls yX5_readFlag yX5_readFlag ∈ WA) := ⟨WA_of (i := 1675) (by decide +kernel) (by decide +kernel), WA_of (i := 40) (by decide +kernel) (by decide +kernel)⟩
def mxX5_readSign : Nat := 2
theorem kvX5_readSign : (Cond.code yX5_readSign cX5_readSign 2 (some .boolean) ∈ WA) ∧ (Cond.initialized yX5_readSign.cls ∈ WA) ∧ (yX5_readSign.cls ≠ "java/lang/invoke/MethodHandle" ∧ yX5_readSign.cls ≠ "java/lang/invoke/VarHandle" ∧ (parseMethodDescriptor yX5_readSign.desc).map (fun d => d.parameters.length) = some 1) := ⟨WA_of (i := 1662) (by decide +kernel) (by decide +kernel), kini_CaseManager_Program, by decide +kernel, by decide +kernel, by decide +kernel⟩
theorem kiX5_readSign : (Cond.instanceMethod yX5_readSign ∈ WA) ∧ (Cond.selects yX5_readSign.cls yX5_readSign yX5_readSign ∈ WA) := ⟨WA_of (i := 1661) (by decide +kernel) (by decide +kernel), WA_of (i := 37) (by decide +kernel) (by decide +kernel)⟩
def mxX5_signAt : Nat := 2
theorem kvX5_signAt : (Cond.code yX5_signAt cX5_signAt 2 (some .char) ∈ WA) ∧ (Cond.initialized yX5_signAt.cls ∈ WA) ∧ (yX5_signAt.cls ≠ "java/lang/invoke/MethodHandle" ∧ yX5_signAt.cls ≠ "java/lang/invoke/VarHandle" ∧ (parseMethodDescriptor yX5_signAt.desc).map (fun d => d.parameters.length) = some 1) := ⟨WA_of (i := 1632) (by decide +kernel) (by decide +kernel), kini_CaseManager_Program, by decide +kernel, by decide +kernel, by decide +kernel⟩
theorem kiX5_signAt : (Cond.instanceMethod yX5_signAt ∈ WA) ∧ (Cond.selects yX5_signAt.cls yX5_signAt yX5_signAt ∈ WA) := ⟨WA_of (i := 1631) (by decide +kernel) (by decide +kernel), WA_of (i := 34) (by decide +kernel) (by decide +kernel)⟩
def mxX6_init : Nat := 2
theorem kvX6_init : (Cond.code yX6_init cX6_init 2 none ∈ WA) ∧ (Cond.initialized yX6_init.cls ∈ WA) ∧ (yX6_init.cls ≠ "java/lang/invoke/MethodHandle" ∧ yX6_init.cls ≠ "java/lang/invoke/VarHandle" ∧ (parseMethodDescriptor yX6_init.desc).map (fun d => d.parameters.length) = some 1) := ⟨WA_of (i := 138) (by decide +kernel) (by decide +kernel), kini_CaseManager_Row, by decide +kernel, by decide +kernel, by decide +kernel⟩
theorem kiiX6_init : Cond.instanceMethod yX6_init ∈ WA := WA_of (i := 137) (by decide +kernel) (by decide +kernel)
def mxX6_get : Nat := 2
theorem kvX6_get : (Cond.code yX6_get cX6_get 2 (some .int) ∈ WA) ∧ (Cond.initialized yX6_get.cls ∈ WA) ∧ (yX6_get.cls ≠ "java/lang/invoke/MethodHandle" ∧ yX6_get.cls ≠ "java/lang/invoke/VarHandle" ∧ (parseMethodDescriptor yX6_get.desc).map (fun d => d.parameters.length) = some 1) := ⟨WA_of (i := 414) (by decide +kernel) (by decide +kernel), kini_CaseManager_Row, by decide +kernel, by decide +kernel, by decide +kernel⟩
theorem kiX6_get : (Cond.instanceMethod yX6_get ∈ WA) ∧ (Cond.selects yX6_get.cls yX6_get yX6_get ∈ WA) := ⟨WA_of (i := 412) (by decide +kernel) (by decide +kernel), WA_of (i := 413) (by decide +kernel) (by decide +kernel)⟩
def mxX6_put : Nat := 3
theorem kvX6_put : (Cond.code yX6_put cX6_put 3 none ∈ WA) ∧ (Cond.initialized yX6_put.cls ∈ WA) ∧ (yX6_put.cls ≠ "java/lang/invoke/MethodHandle" ∧ yX6_put.cls ≠ "java/lang/invoke/VarHandle" ∧ (parseMethodDescriptor yX6_put.desc).map (fun d => d.parameters.length) = some 2) := ⟨WA_of (i := 527) (by decide +kernel) (by decide +kernel), kini_CaseManager_Row, by decide +kernel, by decide +kernel, by decide +kernel⟩
theorem kiX6_put : (Cond.instanceMethod yX6_put ∈ WA) ∧ (Cond.selects yX6_put.cls yX6_put yX6_put ∈ WA) := ⟨WA_of (i := 525) (by decide +kernel) (by decide +kernel), WA_of (i := 526) (by decide +kernel) (by decide +kernel)⟩
def mxX6_add : Nat := 3
theorem kvX6_add : (Cond.code yX6_add cX6_add 3 none ∈ WA) ∧ (Cond.initialized yX6_add.cls ∈ WA) ∧ (yX6_add.cls ≠ "java/lang/invoke/MethodHandle" ∧ yX6_add.cls ≠ "java/lang/invoke/VarHandle" ∧ (parseMethodDescriptor yX6_add.desc).map (fun d => d.parameters.length) = some 2) := ⟨WA_of (i := 853) (by decide +kernel) (by decide +kernel), kini_CaseManager_Row, by decide +kernel, by decide +kernel, by decide +kernel⟩
theorem kiX6_add : (Cond.instanceMethod yX6_add ∈ WA) ∧ (Cond.selects yX6_add.cls yX6_add yX6_add ∈ WA) := ⟨WA_of (i := 851) (by decide +kernel) (by decide +kernel), WA_of (i := 852) (by decide +kernel) (by decide +kernel)⟩
def mxX6_clear : Nat := 2
theorem kvX6_clear : (Cond.code yX6_clear cX6_clear 2 none ∈ WA) ∧ (Cond.initialized yX6_clear.cls ∈ WA) ∧ (yX6_clear.cls ≠ "java/lang/invoke/MethodHandle" ∧ yX6_clear.cls ≠ "java/lang/invoke/VarHandle" ∧ (parseMethodDescriptor yX6_clear.desc).map (fun d => d.parameters.length) = some 0) := ⟨WA_of (i := 518) (by decide +kernel) (by decide +kernel), kini_CaseManager_Row, by decide +kernel, by decide +kernel, by decide +kernel⟩
theorem kiX6_clear : (Cond.instanceMethod yX6_clear ∈ WA) ∧ (Cond.selects yX6_clear.cls yX6_clear yX6_clear ∈ WA) := ⟨WA_of (i := 516) (by decide +kernel) (by decide +kernel), WA_of (i := 517) (by decide +kernel) (by decide +kernel)⟩
def mxX6_copyFrom : Nat := 2
theorem kvX6_copyFrom : (Cond.code yX6_copyFrom cX6_copyFrom 2 none ∈ WA) ∧ (Cond.initialized yX6_copyFrom.cls ∈ WA) ∧ (yX6_copyFrom.cls ≠ "java/lang/invoke/MethodHandle" ∧ yX6_copyFrom.cls ≠ "java/lang/invoke/VarHandle" ∧ (parseMethodDescriptor yX6_copyFrom.desc).map (fun d => d.parameters.length) = some 1) := ⟨WA_of (i := 597) (by decide +kernel) (by decide +kernel), kini_CaseManager_Row, by decide +kernel, by decide +kernel, by decide +kernel⟩
theorem kiX6_copyFrom : (Cond.instanceMethod yX6_copyFrom ∈ WA) ∧ (Cond.selects yX6_copyFrom.cls yX6_copyFrom yX6_copyFrom ∈ WA) := ⟨WA_of (i := 595) (by decide +kernel) (by decide +kernel), WA_of (i := 596) (by decide +kernel) (by decide +kernel)⟩
def mxX7_init : Nat := 1
theorem kvX7_init : (Cond.code yX7_init cX7_init 1 none ∈ WA) ∧ (Cond.initialized yX7_init.cls ∈ WA) ∧ (yX7_init.cls ≠ "java/lang/invoke/MethodHandle" ∧ yX7_init.cls ≠ "java/lang/invoke/VarHandle" ∧ (parseMethodDescriptor yX7_init.desc).map (fun d => d.parameters.length) = some 0) := ⟨WA_of (i := 268) (by decide +kernel) (by decide +kernel), kini_CaseManager_Search, by decide +kernel, by decide +kernel, by decide +kernel⟩
theorem kiiX7_init : Cond.instanceMethod yX7_init ∈ WA := WA_of (i := 267) (by decide +kernel) (by decide +kernel)
def mxX7_startAt : Nat := 4
theorem kvX7_startAt : (Cond.code yX7_startAt cX7_startAt 4 none ∈ WA) ∧ (Cond.initialized yX7_startAt.cls ∈ WA) ∧ (yX7_startAt.cls ≠ "java/lang/invoke/MethodHandle" ∧ yX7_startAt.cls ≠ "java/lang/invoke/VarHandle" ∧ (parseMethodDescriptor yX7_startAt.desc).map (fun d => d.parameters.length) = some 2) := ⟨WA_of (i := 514) (by decide +kernel) (by decide +kernel), kini_CaseManager_Search, by decide +kernel, by decide +kernel, by decide +kernel⟩
theorem kiX7_startAt : (Cond.instanceMethod yX7_startAt ∈ WA) ∧ (Cond.selects yX7_startAt.cls yX7_startAt yX7_startAt ∈ WA) := ⟨WA_of (i := 512) (by decide +kernel) (by decide +kernel), WA_of (i := 513) (by decide +kernel) (by decide +kernel)⟩
def mxX7_hasReached : Nat := 2
theorem kvX7_hasReached : (Cond.code yX7_hasReached cX7_hasReached 2 (some .boolean) ∈ WA) ∧ (Cond.initialized yX7_hasReached.cls ∈ WA) ∧ (yX7_hasReached.cls ≠ "java/lang/invoke/MethodHandle" ∧ yX7_hasReached.cls ≠ "java/lang/invoke/VarHandle" ∧ (parseMethodDescriptor yX7_hasReached.desc).map (fun d => d.parameters.length) = some 1) := ⟨WA_of (i := 552) (by decide +kernel) (by decide +kernel), kini_CaseManager_Search, by decide +kernel, by decide +kernel, by decide +kernel⟩
theorem kiX7_hasReached : (Cond.instanceMethod yX7_hasReached ∈ WA) ∧ (Cond.selects yX7_hasReached.cls yX7_hasReached yX7_hasReached ∈ WA) := ⟨WA_of (i := 550) (by decide +kernel) (by decide +kernel), WA_of (i := 551) (by decide +kernel) (by decide +kernel)⟩
def mxX7_spreadFrom : Nat := 4
theorem kvX7_spreadFrom : (Cond.code yX7_spreadFrom cX7_spreadFrom 4 none ∈ WA) ∧ (Cond.initialized yX7_spreadFrom.cls ∈ WA) ∧ (yX7_spreadFrom.cls ≠ "java/lang/invoke/MethodHandle" ∧ yX7_spreadFrom.cls ≠ "java/lang/invoke/VarHandle" ∧ (parseMethodDescriptor yX7_spreadFrom.desc).map (fun d => d.parameters.length) = some 2) := ⟨WA_of (i := 531) (by decide +kernel) (by decide +kernel), kini_CaseManager_Search, by decide +kernel, by decide +kernel, by decide +kernel⟩
theorem kiX7_spreadFrom : (Cond.instanceMethod yX7_spreadFrom ∈ WA) ∧ (Cond.selects yX7_spreadFrom.cls yX7_spreadFrom yX7_spreadFrom ∈ WA) := ⟨WA_of (i := 530) (by decide +kernel) (by decide +kernel), WA_of (i := 4) (by decide +kernel) (by decide +kernel)⟩
def mxX7_reachAllOf : Nat := 4
theorem kvX7_reachAllOf : (Cond.code yX7_reachAllOf cX7_reachAllOf 4 none ∈ WA) ∧ (Cond.initialized yX7_reachAllOf.cls ∈ WA) ∧ (yX7_reachAllOf.cls ≠ "java/lang/invoke/MethodHandle" ∧ yX7_reachAllOf.cls ≠ "java/lang/invoke/VarHandle" ∧ (parseMethodDescriptor yX7_reachAllOf.desc).map (fun d => d.parameters.length) = some 2) := ⟨WA_of (i := 539) (by decide +kernel) (by decide +kernel), kini_CaseManager_Search, by decide +kernel, by decide +kernel, by decide +kernel⟩
theorem kiX7_reachAllOf : (Cond.instanceMethod yX7_reachAllOf ∈ WA) ∧ (Cond.selects yX7_reachAllOf.cls yX7_reachAllOf yX7_reachAllOf ∈ WA) := ⟨WA_of (i := 538) (by decide +kernel) (by decide +kernel), WA_of (i := 5) (by decide +kernel) (by decide +kernel)⟩
def mxX7_reach : Nat := 2
theorem kvX7_reach : (Cond.code yX7_reach cX7_reach 2 none ∈ WA) ∧ (Cond.initialized yX7_reach.cls ∈ WA) ∧ (yX7_reach.cls ≠ "java/lang/invoke/MethodHandle" ∧ yX7_reach.cls ≠ "java/lang/invoke/VarHandle" ∧ (parseMethodDescriptor yX7_reach.desc).map (fun d => d.parameters.length) = some 1) := ⟨WA_of (i := 522) (by decide +kernel) (by decide +kernel), kini_CaseManager_Search, by decide +kernel, by decide +kernel, by decide +kernel⟩
theorem kiX7_reach : (Cond.instanceMethod yX7_reach ∈ WA) ∧ (Cond.selects yX7_reach.cls yX7_reach yX7_reach ∈ WA) := ⟨WA_of (i := 521) (by decide +kernel) (by decide +kernel), WA_of (i := 3) (by decide +kernel) (by decide +kernel)⟩
def mxX8_ofSide : Nat := 6
theorem kvX8_ofSide : (Cond.code yX8_ofSide cX8_ofSide 6 (some .int) ∈ WA) ∧ (Cond.initialized yX8_ofSide.cls ∈ WA) ∧ (yX8_ofSide.cls ≠ "java/lang/invoke/MethodHandle" ∧ yX8_ofSide.cls ≠ "java/lang/invoke/VarHandle" ∧ (parseMethodDescriptor yX8_ofSide.desc).map (fun d => d.parameters.length) = some 3) := ⟨WA_of (i := 1170) (by decide +kernel) (by decide +kernel), kini_CaseManager_Weights, by decide +kernel, by decide +kernel, by decide +kernel⟩
theorem ksX8_ofSide : Cond.static yX8_ofSide ∈ WA := WA_of (i := 1169) (by decide +kernel) (by decide +kernel)
def mxX8_marginByTestimony : Nat := 5
theorem kvX8_marginByTestimony : (Cond.code yX8_marginByTestimony cX8_marginByTestimony 5 (some .int) ∈ WA) ∧ (Cond.initialized yX8_marginByTestimony.cls ∈ WA) ∧ (yX8_marginByTestimony.cls ≠ "java/lang/invoke/MethodHandle" ∧ yX8_marginByTestimony.cls ≠ "java/lang/invoke/VarHandle" ∧ (parseMethodDescriptor yX8_marginByTestimony.desc).map (fun d => d.parameters.length) = some 2) := ⟨WA_of (i := 467) (by decide +kernel) (by decide +kernel), kini_CaseManager_Weights, by decide +kernel, by decide +kernel, by decide +kernel⟩
theorem ksX8_marginByTestimony : Cond.static yX8_marginByTestimony ∈ WA := WA_of (i := 466) (by decide +kernel) (by decide +kernel)
def mxX8_marginByLevel : Nat := 4
theorem kvX8_marginByLevel : (Cond.code yX8_marginByLevel cX8_marginByLevel 4 (some .int) ∈ WA) ∧ (Cond.initialized yX8_marginByLevel.cls ∈ WA) ∧ (yX8_marginByLevel.cls ≠ "java/lang/invoke/MethodHandle" ∧ yX8_marginByLevel.cls ≠ "java/lang/invoke/VarHandle" ∧ (parseMethodDescriptor yX8_marginByLevel.desc).map (fun d => d.parameters.length) = some 2) := ⟨WA_of (i := 490) (by decide +kernel) (by decide +kernel), kini_CaseManager_Weights, by decide +kernel, by decide +kernel, by decide +kernel⟩
theorem ksX8_marginByLevel : Cond.static yX8_marginByLevel ∈ WA := WA_of (i := 489) (by decide +kernel) (by decide +kernel)
def mxX8_signedStrengthsAt : Nat := 6
theorem kvX8_signedStrengthsAt : (Cond.code yX8_signedStrengthsAt cX8_signedStrengthsAt 6 (some .int) ∈ WA) ∧ (Cond.initialized yX8_signedStrengthsAt.cls ∈ WA) ∧ (yX8_signedStrengthsAt.cls ≠ "java/lang/invoke/MethodHandle" ∧ yX8_signedStrengthsAt.cls ≠ "java/lang/invoke/VarHandle" ∧ (parseMethodDescriptor yX8_signedStrengthsAt.desc).map (fun d => d.parameters.length) = some 3) := ⟨WA_of (i := 493) (by decide +kernel) (by decide +kernel), kini_CaseManager_Weights, by decide +kernel, by decide +kernel, by decide +kernel⟩
theorem ksX8_signedStrengthsAt : Cond.static yX8_signedStrengthsAt ∈ WA := WA_of (i := 492) (by decide +kernel) (by decide +kernel)
def mxX8_heaviestIn : Nat := 5
theorem kvX8_heaviestIn : (Cond.code yX8_heaviestIn cX8_heaviestIn 5 (some .int) ∈ WA) ∧ (Cond.initialized yX8_heaviestIn.cls ∈ WA) ∧ (yX8_heaviestIn.cls ≠ "java/lang/invoke/MethodHandle" ∧ yX8_heaviestIn.cls ≠ "java/lang/invoke/VarHandle" ∧ (parseMethodDescriptor yX8_heaviestIn.desc).map (fun d => d.parameters.length) = some 2) := ⟨WA_of (i := 1148) (by decide +kernel) (by decide +kernel), kini_CaseManager_Weights, by decide +kernel, by decide +kernel, by decide +kernel⟩
theorem ksX8_heaviestIn : Cond.static yX8_heaviestIn ∈ WA := WA_of (i := 1147) (by decide +kernel) (by decide +kernel)
def mxX8_firmAnswersNeeded : Nat := 7
theorem kvX8_firmAnswersNeeded : (Cond.code yX8_firmAnswersNeeded cX8_firmAnswersNeeded 7 (some .int) ∈ WA) ∧ (Cond.initialized yX8_firmAnswersNeeded.cls ∈ WA) ∧ (yX8_firmAnswersNeeded.cls ≠ "java/lang/invoke/MethodHandle" ∧ yX8_firmAnswersNeeded.cls ≠ "java/lang/invoke/VarHandle" ∧ (parseMethodDescriptor yX8_firmAnswersNeeded.desc).map (fun d => d.parameters.length) = some 3) := ⟨WA_of (i := 1201) (by decide +kernel) (by decide +kernel), kini_CaseManager_Weights, by decide +kernel, by decide +kernel, by decide +kernel⟩
theorem ksX8_firmAnswersNeeded : Cond.static yX8_firmAnswersNeeded ∈ WA := WA_of (i := 1200) (by decide +kernel) (by decide +kernel)
def mxX9_init : Nat := 1
theorem kvX9_init : (Cond.code yX9_init cX9_init 1 none ∈ WA) ∧ (Cond.initialized yX9_init.cls ∈ WA) ∧ (yX9_init.cls ≠ "java/lang/invoke/MethodHandle" ∧ yX9_init.cls ≠ "java/lang/invoke/VarHandle" ∧ (parseMethodDescriptor yX9_init.desc).map (fun d => d.parameters.length) = some 0) := ⟨WA_of (i := 124) (by decide +kernel) (by decide +kernel), kini_CaseManager, by decide +kernel, by decide +kernel, by decide +kernel⟩
theorem kiiX9_init : Cond.instanceMethod yX9_init ∈ WA := WA_of (i := 123) (by decide +kernel) (by decide +kernel)
def mxX9_charge : Nat := 3
theorem kvX9_charge : (Cond.code yX9_charge cX9_charge 3 (some .int) ∈ WA) ∧ (Cond.initialized yX9_charge.cls ∈ WA) ∧ (yX9_charge.cls ≠ "java/lang/invoke/MethodHandle" ∧ yX9_charge.cls ≠ "java/lang/invoke/VarHandle" ∧ (parseMethodDescriptor yX9_charge.desc).map (fun d => d.parameters.length) = some 2) := ⟨WA_of (i := 612) (by decide +kernel) (by decide +kernel), kini_CaseManager, by decide +kernel, by decide +kernel, by decide +kernel⟩
theorem kiX9_charge : (Cond.instanceMethod yX9_charge ∈ WA) ∧ (Cond.selects yX9_charge.cls yX9_charge yX9_charge ∈ WA) := ⟨WA_of (i := 610) (by decide +kernel) (by decide +kernel), WA_of (i := 611) (by decide +kernel) (by decide +kernel)⟩
def mxX9_addWitness : Nat := 2
theorem kvX9_addWitness : (Cond.code yX9_addWitness cX9_addWitness 2 (some .int) ∈ WA) ∧ (Cond.initialized yX9_addWitness.cls ∈ WA) ∧ (yX9_addWitness.cls ≠ "java/lang/invoke/MethodHandle" ∧ yX9_addWitness.cls ≠ "java/lang/invoke/VarHandle" ∧ (parseMethodDescriptor yX9_addWitness.desc).map (fun d => d.parameters.length) = some 1) := ⟨WA_of (i := 876) (by decide +kernel) (by decide +kernel), kini_CaseManager, by decide +kernel, by decide +kernel, by decide +kernel⟩
theorem kiX9_addWitness : (Cond.instanceMethod yX9_addWitness ∈ WA) ∧ (Cond.selects yX9_addWitness.cls yX9_addWitness yX9_addWitness ∈ WA) := ⟨WA_of (i := 874) (by decide +kernel) (by decide +kernel), WA_of (i := 875) (by decide +kernel) (by decide +kernel)⟩
def mxX9_testify : Nat := 5
theorem kvX9_testify : (Cond.code yX9_testify cX9_testify 5 (some .int) ∈ WA) ∧ (Cond.initialized yX9_testify.cls ∈ WA) ∧ (yX9_testify.cls ≠ "java/lang/invoke/MethodHandle" ∧ yX9_testify.cls ≠ "java/lang/invoke/VarHandle" ∧ (parseMethodDescriptor yX9_testify.desc).map (fun d => d.parameters.length) = some 4) := ⟨WA_of (i := 904) (by decide +kernel) (by decide +kernel), kini_CaseManager, by decide +kernel, by decide +kernel, by decide +kernel⟩
theorem kiX9_testify : (Cond.instanceMethod yX9_testify ∈ WA) ∧ (Cond.selects yX9_testify.cls yX9_testify yX9_testify ∈ WA) := ⟨WA_of (i := 902) (by decide +kernel) (by decide +kernel), WA_of (i := 903) (by decide +kernel) (by decide +kernel)⟩
def mxX9_question : Nat := 4
theorem kvX9_question : (Cond.code yX9_question cX9_question 4 (some .int) ∈ WA) ∧ (Cond.initialized yX9_question.cls ∈ WA) ∧ (yX9_question.cls ≠ "java/lang/invoke/MethodHandle" ∧ yX9_question.cls ≠ "java/lang/invoke/VarHandle" ∧ (parseMethodDescriptor yX9_question.desc).map (fun d => d.parameters.length) = some 3) := ⟨WA_of (i := 912) (by decide +kernel) (by decide +kernel), kini_CaseManager, by decide +kernel, by decide +kernel, by decide +kernel⟩
theorem kiX9_question : (Cond.instanceMethod yX9_question ∈ WA) ∧ (Cond.selects yX9_question.cls yX9_question yX9_question ∈ WA) := ⟨WA_of (i := 910) (by decide +kernel) (by decide +kernel), WA_of (i := 911) (by decide +kernel) (by decide +kernel)⟩
def mxX9_decide : Nat := 2
theorem kvX9_decide : (Cond.code yX9_decide cX9_decide 2 (some .boolean) ∈ WA) ∧ (Cond.initialized yX9_decide.cls ∈ WA) ∧ (yX9_decide.cls ≠ "java/lang/invoke/MethodHandle" ∧ yX9_decide.cls ≠ "java/lang/invoke/VarHandle" ∧ (parseMethodDescriptor yX9_decide.desc).map (fun d => d.parameters.length) = some 1) := ⟨WA_of (i := 919) (by decide +kernel) (by decide +kernel), kini_CaseManager, by decide +kernel, by decide +kernel, by decide +kernel⟩
theorem kiX9_decide : (Cond.instanceMethod yX9_decide ∈ WA) ∧ (Cond.selects yX9_decide.cls yX9_decide yX9_decide ∈ WA) := ⟨WA_of (i := 917) (by decide +kernel) (by decide +kernel), WA_of (i := 918) (by decide +kernel) (by decide +kernel)⟩
def mxX9_appeal : Nat := 2
theorem kvX9_appeal : (Cond.code yX9_appeal cX9_appeal 2 (some .int) ∈ WA) ∧ (Cond.initialized yX9_appeal.cls ∈ WA) ∧ (yX9_appeal.cls ≠ "java/lang/invoke/MethodHandle" ∧ yX9_appeal.cls ≠ "java/lang/invoke/VarHandle" ∧ (parseMethodDescriptor yX9_appeal.desc).map (fun d => d.parameters.length) = some 1) := ⟨WA_of (i := 926) (by decide +kernel) (by decide +kernel), kini_CaseManager, by decide +kernel, by decide +kernel, by decide +kernel⟩
theorem kiX9_appeal : (Cond.instanceMethod yX9_appeal ∈ WA) ∧ (Cond.selects yX9_appeal.cls yX9_appeal yX9_appeal ∈ WA) := ⟨WA_of (i := 924) (by decide +kernel) (by decide +kernel), WA_of (i := 925) (by decide +kernel) (by decide +kernel)⟩
def mxX9_close : Nat := 2
theorem kvX9_close : (Cond.code yX9_close cX9_close 2 (some .int) ∈ WA) ∧ (Cond.initialized yX9_close.cls ∈ WA) ∧ (yX9_close.cls ≠ "java/lang/invoke/MethodHandle" ∧ yX9_close.cls ≠ "java/lang/invoke/VarHandle" ∧ (parseMethodDescriptor yX9_close.desc).map (fun d => d.parameters.length) = some 1) := ⟨WA_of (i := 933) (by decide +kernel) (by decide +kernel), kini_CaseManager, by decide +kernel, by decide +kernel, by decide +kernel⟩
theorem kiX9_close : (Cond.instanceMethod yX9_close ∈ WA) ∧ (Cond.selects yX9_close.cls yX9_close yX9_close ∈ WA) := ⟨WA_of (i := 931) (by decide +kernel) (by decide +kernel), WA_of (i := 932) (by decide +kernel) (by decide +kernel)⟩
def mxX9_caseCount : Nat := 1
theorem kvX9_caseCount : (Cond.code yX9_caseCount cX9_caseCount 1 (some .int) ∈ WA) ∧ (Cond.initialized yX9_caseCount.cls ∈ WA) ∧ (yX9_caseCount.cls ≠ "java/lang/invoke/MethodHandle" ∧ yX9_caseCount.cls ≠ "java/lang/invoke/VarHandle" ∧ (parseMethodDescriptor yX9_caseCount.desc).map (fun d => d.parameters.length) = some 0) := ⟨WA_of (i := 398) (by decide +kernel) (by decide +kernel), kini_CaseManager, by decide +kernel, by decide +kernel, by decide +kernel⟩
theorem kiX9_caseCount : (Cond.instanceMethod yX9_caseCount ∈ WA) ∧ (Cond.selects yX9_caseCount.cls yX9_caseCount yX9_caseCount ∈ WA) := ⟨WA_of (i := 396) (by decide +kernel) (by decide +kernel), WA_of (i := 397) (by decide +kernel) (by decide +kernel)⟩
def mxX9_caseOf : Nat := 4
theorem kvX9_caseOf : (Cond.code yX9_caseOf cX9_caseOf 4 (some .int) ∈ WA) ∧ (Cond.initialized yX9_caseOf.cls ∈ WA) ∧ (yX9_caseOf.cls ≠ "java/lang/invoke/MethodHandle" ∧ yX9_caseOf.cls ≠ "java/lang/invoke/VarHandle" ∧ (parseMethodDescriptor yX9_caseOf.desc).map (fun d => d.parameters.length) = some 2) := ⟨WA_of (i := 940) (by decide +kernel) (by decide +kernel), kini_CaseManager, by decide +kernel, by decide +kernel, by decide +kernel⟩
theorem kiX9_caseOf : (Cond.instanceMethod yX9_caseOf ∈ WA) ∧ (Cond.selects yX9_caseOf.cls yX9_caseOf yX9_caseOf ∈ WA) := ⟨WA_of (i := 938) (by decide +kernel) (by decide +kernel), WA_of (i := 939) (by decide +kernel) (by decide +kernel)⟩
def mxX9_defendantOf : Nat := 2
theorem kvX9_defendantOf : (Cond.code yX9_defendantOf cX9_defendantOf 2 (some .int) ∈ WA) ∧ (Cond.initialized yX9_defendantOf.cls ∈ WA) ∧ (yX9_defendantOf.cls ≠ "java/lang/invoke/MethodHandle" ∧ yX9_defendantOf.cls ≠ "java/lang/invoke/VarHandle" ∧ (parseMethodDescriptor yX9_defendantOf.desc).map (fun d => d.parameters.length) = some 1) := ⟨WA_of (i := 952) (by decide +kernel) (by decide +kernel), kini_CaseManager, by decide +kernel, by decide +kernel, by decide +kernel⟩
theorem kiX9_defendantOf : (Cond.instanceMethod yX9_defendantOf ∈ WA) ∧ (Cond.selects yX9_defendantOf.cls yX9_defendantOf yX9_defendantOf ∈ WA) := ⟨WA_of (i := 950) (by decide +kernel) (by decide +kernel), WA_of (i := 951) (by decide +kernel) (by decide +kernel)⟩
def mxX9_offenceOf : Nat := 2
theorem kvX9_offenceOf : (Cond.code yX9_offenceOf cX9_offenceOf 2 (some .int) ∈ WA) ∧ (Cond.initialized yX9_offenceOf.cls ∈ WA) ∧ (yX9_offenceOf.cls ≠ "java/lang/invoke/MethodHandle" ∧ yX9_offenceOf.cls ≠ "java/lang/invoke/VarHandle" ∧ (parseMethodDescriptor yX9_offenceOf.desc).map (fun d => d.parameters.length) = some 1) := ⟨WA_of (i := 965) (by decide +kernel) (by decide +kernel), kini_CaseManager, by decide +kernel, by decide +kernel, by decide +kernel⟩
theorem kiX9_offenceOf : (Cond.instanceMethod yX9_offenceOf ∈ WA) ∧ (Cond.selects yX9_offenceOf.cls yX9_offenceOf yX9_offenceOf ∈ WA) := ⟨WA_of (i := 963) (by decide +kernel) (by decide +kernel), WA_of (i := 964) (by decide +kernel) (by decide +kernel)⟩
def mxX9_isOpen : Nat := 2
theorem kvX9_isOpen : (Cond.code yX9_isOpen cX9_isOpen 2 (some .boolean) ∈ WA) ∧ (Cond.initialized yX9_isOpen.cls ∈ WA) ∧ (yX9_isOpen.cls ≠ "java/lang/invoke/MethodHandle" ∧ yX9_isOpen.cls ≠ "java/lang/invoke/VarHandle" ∧ (parseMethodDescriptor yX9_isOpen.desc).map (fun d => d.parameters.length) = some 1) := ⟨WA_of (i := 972) (by decide +kernel) (by decide +kernel), kini_CaseManager, by decide +kernel, by decide +kernel, by decide +kernel⟩
theorem kiX9_isOpen : (Cond.instanceMethod yX9_isOpen ∈ WA) ∧ (Cond.selects yX9_isOpen.cls yX9_isOpen yX9_isOpen ∈ WA) := ⟨WA_of (i := 970) (by decide +kernel) (by decide +kernel), WA_of (i := 971) (by decide +kernel) (by decide +kernel)⟩
def mxX9_isDecided : Nat := 2
theorem kvX9_isDecided : (Cond.code yX9_isDecided cX9_isDecided 2 (some .boolean) ∈ WA) ∧ (Cond.initialized yX9_isDecided.cls ∈ WA) ∧ (yX9_isDecided.cls ≠ "java/lang/invoke/MethodHandle" ∧ yX9_isDecided.cls ≠ "java/lang/invoke/VarHandle" ∧ (parseMethodDescriptor yX9_isDecided.desc).map (fun d => d.parameters.length) = some 1) := ⟨WA_of (i := 979) (by decide +kernel) (by decide +kernel), kini_CaseManager, by decide +kernel, by decide +kernel, by decide +kernel⟩
theorem kiX9_isDecided : (Cond.instanceMethod yX9_isDecided ∈ WA) ∧ (Cond.selects yX9_isDecided.cls yX9_isDecided yX9_isDecided ∈ WA) := ⟨WA_of (i := 977) (by decide +kernel) (by decide +kernel), WA_of (i := 978) (by decide +kernel) (by decide +kernel)⟩
def mxX9_isClosed : Nat := 2
theorem kvX9_isClosed : (Cond.code yX9_isClosed cX9_isClosed 2 (some .boolean) ∈ WA) ∧ (Cond.initialized yX9_isClosed.cls ∈ WA) ∧ (yX9_isClosed.cls ≠ "java/lang/invoke/MethodHandle" ∧ yX9_isClosed.cls ≠ "java/lang/invoke/VarHandle" ∧ (parseMethodDescriptor yX9_isClosed.desc).map (fun d => d.parameters.length) = some 1) := ⟨WA_of (i := 986) (by decide +kernel) (by decide +kernel), kini_CaseManager, by decide +kernel, by decide +kernel, by decide +kernel⟩
theorem kiX9_isClosed : (Cond.instanceMethod yX9_isClosed ∈ WA) ∧ (Cond.selects yX9_isClosed.cls yX9_isClosed yX9_isClosed ∈ WA) := ⟨WA_of (i := 984) (by decide +kernel) (by decide +kernel), WA_of (i := 985) (by decide +kernel) (by decide +kernel)⟩
def mxX9_isGuilty : Nat := 2
theorem kvX9_isGuilty : (Cond.code yX9_isGuilty cX9_isGuilty 2 (some .boolean) ∈ WA) ∧ (Cond.initialized yX9_isGuilty.cls ∈ WA) ∧ (yX9_isGuilty.cls ≠ "java/lang/invoke/MethodHandle" ∧ yX9_isGuilty.cls ≠ "java/lang/invoke/VarHandle" ∧ (parseMethodDescriptor yX9_isGuilty.desc).map (fun d => d.parameters.length) = some 1) := ⟨WA_of (i := 993) (by decide +kernel) (by decide +kernel), kini_CaseManager, by decide +kernel, by decide +kernel, by decide +kernel⟩
theorem kiX9_isGuilty : (Cond.instanceMethod yX9_isGuilty ∈ WA) ∧ (Cond.selects yX9_isGuilty.cls yX9_isGuilty yX9_isGuilty ∈ WA) := ⟨WA_of (i := 991) (by decide +kernel) (by decide +kernel), WA_of (i := 992) (by decide +kernel) (by decide +kernel)⟩
def mxX9_appealCount : Nat := 2
theorem kvX9_appealCount : (Cond.code yX9_appealCount cX9_appealCount 2 (some .int) ∈ WA) ∧ (Cond.initialized yX9_appealCount.cls ∈ WA) ∧ (yX9_appealCount.cls ≠ "java/lang/invoke/MethodHandle" ∧ yX9_appealCount.cls ≠ "java/lang/invoke/VarHandle" ∧ (parseMethodDescriptor yX9_appealCount.desc).map (fun d => d.parameters.length) = some 1) := ⟨WA_of (i := 1002) (by decide +kernel) (by decide +kernel), kini_CaseManager, by decide +kernel, by decide +kernel, by decide +kernel⟩
theorem kiX9_appealCount : (Cond.instanceMethod yX9_appealCount ∈ WA) ∧ (Cond.selects yX9_appealCount.cls yX9_appealCount yX9_appealCount ∈ WA) := ⟨WA_of (i := 1000) (by decide +kernel) (by decide +kernel), WA_of (i := 1001) (by decide +kernel) (by decide +kernel)⟩
def mxX9_testimonyCount : Nat := 2
theorem kvX9_testimonyCount : (Cond.code yX9_testimonyCount cX9_testimonyCount 2 (some .int) ∈ WA) ∧ (Cond.initialized yX9_testimonyCount.cls ∈ WA) ∧ (yX9_testimonyCount.cls ≠ "java/lang/invoke/MethodHandle" ∧ yX9_testimonyCount.cls ≠ "java/lang/invoke/VarHandle" ∧ (parseMethodDescriptor yX9_testimonyCount.desc).map (fun d => d.parameters.length) = some 1) := ⟨WA_of (i := 1009) (by decide +kernel) (by decide +kernel), kini_CaseManager, by decide +kernel, by decide +kernel, by decide +kernel⟩
theorem kiX9_testimonyCount : (Cond.instanceMethod yX9_testimonyCount ∈ WA) ∧ (Cond.selects yX9_testimonyCount.cls yX9_testimonyCount yX9_testimonyCount ∈ WA) := ⟨WA_of (i := 1007) (by decide +kernel) (by decide +kernel), WA_of (i := 1008) (by decide +kernel) (by decide +kernel)⟩
def mxX9_witnessAt : Nat := 3
theorem kvX9_witnessAt : (Cond.code yX9_witnessAt cX9_witnessAt 3 (some .int) ∈ WA) ∧ (Cond.initialized yX9_witnessAt.cls ∈ WA) ∧ (yX9_witnessAt.cls ≠ "java/lang/invoke/MethodHandle" ∧ yX9_witnessAt.cls ≠ "java/lang/invoke/VarHandle" ∧ (parseMethodDescriptor yX9_witnessAt.desc).map (fun d => d.parameters.length) = some 2) := ⟨WA_of (i := 1016) (by decide +kernel) (by decide +kernel), kini_CaseManager, by decide +kernel, by decide +kernel, by decide +kernel⟩
theorem kiX9_witnessAt : (Cond.instanceMethod yX9_witnessAt ∈ WA) ∧ (Cond.selects yX9_witnessAt.cls yX9_witnessAt yX9_witnessAt ∈ WA) := ⟨WA_of (i := 1014) (by decide +kernel) (by decide +kernel), WA_of (i := 1015) (by decide +kernel) (by decide +kernel)⟩
def mxX9_hasTestified : Nat := 3
theorem kvX9_hasTestified : (Cond.code yX9_hasTestified cX9_hasTestified 3 (some .boolean) ∈ WA) ∧ (Cond.initialized yX9_hasTestified.cls ∈ WA) ∧ (yX9_hasTestified.cls ≠ "java/lang/invoke/MethodHandle" ∧ yX9_hasTestified.cls ≠ "java/lang/invoke/VarHandle" ∧ (parseMethodDescriptor yX9_hasTestified.desc).map (fun d => d.parameters.length) = some 2) := ⟨WA_of (i := 1025) (by decide +kernel) (by decide +kernel), kini_CaseManager, by decide +kernel, by decide +kernel, by decide +kernel⟩
theorem kiX9_hasTestified : (Cond.instanceMethod yX9_hasTestified ∈ WA) ∧ (Cond.selects yX9_hasTestified.cls yX9_hasTestified yX9_hasTestified ∈ WA) := ⟨WA_of (i := 1023) (by decide +kernel) (by decide +kernel), WA_of (i := 1024) (by decide +kernel) (by decide +kernel)⟩
def mxX9_isForProsecution : Nat := 3
theorem kvX9_isForProsecution : (Cond.code yX9_isForProsecution cX9_isForProsecution 3 (some .boolean) ∈ WA) ∧ (Cond.initialized yX9_isForProsecution.cls ∈ WA) ∧ (yX9_isForProsecution.cls ≠ "java/lang/invoke/MethodHandle" ∧ yX9_isForProsecution.cls ≠ "java/lang/invoke/VarHandle" ∧ (parseMethodDescriptor yX9_isForProsecution.desc).map (fun d => d.parameters.length) = some 2) := ⟨WA_of (i := 1039) (by decide +kernel) (by decide +kernel), kini_CaseManager, by decide +kernel, by decide +kernel, by decide +kernel⟩
theorem kiX9_isForProsecution : (Cond.instanceMethod yX9_isForProsecution ∈ WA) ∧ (Cond.selects yX9_isForProsecution.cls yX9_isForProsecution yX9_isForProsecution ∈ WA) := ⟨WA_of (i := 1037) (by decide +kernel) (by decide +kernel), WA_of (i := 1038) (by decide +kernel) (by decide +kernel)⟩
def mxX9_strength : Nat := 3
theorem kvX9_strength : (Cond.code yX9_strength cX9_strength 3 (some .int) ∈ WA) ∧ (Cond.initialized yX9_strength.cls ∈ WA) ∧ (yX9_strength.cls ≠ "java/lang/invoke/MethodHandle" ∧ yX9_strength.cls ≠ "java/lang/invoke/VarHandle" ∧ (parseMethodDescriptor yX9_strength.desc).map (fun d => d.parameters.length) = some 2) := ⟨WA_of (i := 1051) (by decide +kernel) (by decide +kernel), kini_CaseManager, by decide +kernel, by decide +kernel, by decide +kernel⟩
theorem kiX9_strength : (Cond.instanceMethod yX9_strength ∈ WA) ∧ (Cond.selects yX9_strength.cls yX9_strength yX9_strength ∈ WA) := ⟨WA_of (i := 1049) (by decide +kernel) (by decide +kernel), WA_of (i := 1050) (by decide +kernel) (by decide +kernel)⟩
def mxX9_questionCount : Nat := 3
theorem kvX9_questionCount : (Cond.code yX9_questionCount cX9_questionCount 3 (some .int) ∈ WA) ∧ (Cond.initialized yX9_questionCount.cls ∈ WA) ∧ (yX9_questionCount.cls ≠ "java/lang/invoke/MethodHandle" ∧ yX9_questionCount.cls ≠ "java/lang/invoke/VarHandle" ∧ (parseMethodDescriptor yX9_questionCount.desc).map (fun d => d.parameters.length) = some 2) := ⟨WA_of (i := 1059) (by decide +kernel) (by decide +kernel), kini_CaseManager, by decide +kernel, by decide +kernel, by decide +kernel⟩
theorem kiX9_questionCount : (Cond.instanceMethod yX9_questionCount ∈ WA) ∧ (Cond.selects yX9_questionCount.cls yX9_questionCount yX9_questionCount ∈ WA) := ⟨WA_of (i := 1057) (by decide +kernel) (by decide +kernel), WA_of (i := 1058) (by decide +kernel) (by decide +kernel)⟩
def mxX9_witnessCount : Nat := 1
theorem kvX9_witnessCount : (Cond.code yX9_witnessCount cX9_witnessCount 1 (some .int) ∈ WA) ∧ (Cond.initialized yX9_witnessCount.cls ∈ WA) ∧ (yX9_witnessCount.cls ≠ "java/lang/invoke/MethodHandle" ∧ yX9_witnessCount.cls ≠ "java/lang/invoke/VarHandle" ∧ (parseMethodDescriptor yX9_witnessCount.desc).map (fun d => d.parameters.length) = some 0) := ⟨WA_of (i := 402) (by decide +kernel) (by decide +kernel), kini_CaseManager, by decide +kernel, by decide +kernel, by decide +kernel⟩
theorem kiX9_witnessCount : (Cond.instanceMethod yX9_witnessCount ∈ WA) ∧ (Cond.selects yX9_witnessCount.cls yX9_witnessCount yX9_witnessCount ∈ WA) := ⟨WA_of (i := 400) (by decide +kernel) (by decide +kernel), WA_of (i := 401) (by decide +kernel) (by decide +kernel)⟩
def mxX9_credibility : Nat := 2
theorem kvX9_credibility : (Cond.code yX9_credibility cX9_credibility 2 (some .int) ∈ WA) ∧ (Cond.initialized yX9_credibility.cls ∈ WA) ∧ (yX9_credibility.cls ≠ "java/lang/invoke/MethodHandle" ∧ yX9_credibility.cls ≠ "java/lang/invoke/VarHandle" ∧ (parseMethodDescriptor yX9_credibility.desc).map (fun d => d.parameters.length) = some 1) := ⟨WA_of (i := 1067) (by decide +kernel) (by decide +kernel), kini_CaseManager, by decide +kernel, by decide +kernel, by decide +kernel⟩
theorem kiX9_credibility : (Cond.instanceMethod yX9_credibility ∈ WA) ∧ (Cond.selects yX9_credibility.cls yX9_credibility yX9_credibility ∈ WA) := ⟨WA_of (i := 1065) (by decide +kernel) (by decide +kernel), WA_of (i := 1066) (by decide +kernel) (by decide +kernel)⟩
def mxX9_casesOfWitness : Nat := 2
theorem kvX9_casesOfWitness : (Cond.code yX9_casesOfWitness cX9_casesOfWitness 2 (some .int) ∈ WA) ∧ (Cond.initialized yX9_casesOfWitness.cls ∈ WA) ∧ (yX9_casesOfWitness.cls ≠ "java/lang/invoke/MethodHandle" ∧ yX9_casesOfWitness.cls ≠ "java/lang/invoke/VarHandle" ∧ (parseMethodDescriptor yX9_casesOfWitness.desc).map (fun d => d.parameters.length) = some 1) := ⟨WA_of (i := 1074) (by decide +kernel) (by decide +kernel), kini_CaseManager, by decide +kernel, by decide +kernel, by decide +kernel⟩
theorem kiX9_casesOfWitness : (Cond.instanceMethod yX9_casesOfWitness ∈ WA) ∧ (Cond.selects yX9_casesOfWitness.cls yX9_casesOfWitness yX9_casesOfWitness ∈ WA) := ⟨WA_of (i := 1072) (by decide +kernel) (by decide +kernel), WA_of (i := 1073) (by decide +kernel) (by decide +kernel)⟩
def mxX9_mostCredible : Nat := 3
theorem kvX9_mostCredible : (Cond.code yX9_mostCredible cX9_mostCredible 3 (some .int) ∈ WA) ∧ (Cond.initialized yX9_mostCredible.cls ∈ WA) ∧ (yX9_mostCredible.cls ≠ "java/lang/invoke/MethodHandle" ∧ yX9_mostCredible.cls ≠ "java/lang/invoke/VarHandle" ∧ (parseMethodDescriptor yX9_mostCredible.desc).map (fun d => d.parameters.length) = some 1) := ⟨WA_of (i := 1085) (by decide +kernel) (by decide +kernel), kini_CaseManager, by decide +kernel, by decide +kernel, by decide +kernel⟩
theorem kiX9_mostCredible : (Cond.instanceMethod yX9_mostCredible ∈ WA) ∧ (Cond.selects yX9_mostCredible.cls yX9_mostCredible yX9_mostCredible ∈ WA) := ⟨WA_of (i := 1083) (by decide +kernel) (by decide +kernel), WA_of (i := 1084) (by decide +kernel) (by decide +kernel)⟩
def mxX9_agreement : Nat := 3
theorem kvX9_agreement : (Cond.code yX9_agreement cX9_agreement 3 (some .int) ∈ WA) ∧ (Cond.initialized yX9_agreement.cls ∈ WA) ∧ (yX9_agreement.cls ≠ "java/lang/invoke/MethodHandle" ∧ yX9_agreement.cls ≠ "java/lang/invoke/VarHandle" ∧ (parseMethodDescriptor yX9_agreement.desc).map (fun d => d.parameters.length) = some 2) := ⟨WA_of (i := 1106) (by decide +kernel) (by decide +kernel), kini_CaseManager, by decide +kernel, by decide +kernel, by decide +kernel⟩
theorem kiX9_agreement : (Cond.instanceMethod yX9_agreement ∈ WA) ∧ (Cond.selects yX9_agreement.cls yX9_agreement yX9_agreement ∈ WA) := ⟨WA_of (i := 1104) (by decide +kernel) (by decide +kernel), WA_of (i := 1105) (by decide +kernel) (by decide +kernel)⟩
def mxX9_areConnected : Nat := 3
theorem kvX9_areConnected : (Cond.code yX9_areConnected cX9_areConnected 3 (some .boolean) ∈ WA) ∧ (Cond.initialized yX9_areConnected.cls ∈ WA) ∧ (yX9_areConnected.cls ≠ "java/lang/invoke/MethodHandle" ∧ yX9_areConnected.cls ≠ "java/lang/invoke/VarHandle" ∧ (parseMethodDescriptor yX9_areConnected.desc).map (fun d => d.parameters.length) = some 2) := ⟨WA_of (i := 1118) (by decide +kernel) (by decide +kernel), kini_CaseManager, by decide +kernel, by decide +kernel, by decide +kernel⟩
theorem kiX9_areConnected : (Cond.instanceMethod yX9_areConnected ∈ WA) ∧ (Cond.selects yX9_areConnected.cls yX9_areConnected yX9_areConnected ∈ WA) := ⟨WA_of (i := 1116) (by decide +kernel) (by decide +kernel), WA_of (i := 1117) (by decide +kernel) (by decide +kernel)⟩
def mxX9_areConnectedBySearch : Nat := 3
theorem kvX9_areConnectedBySearch : (Cond.code yX9_areConnectedBySearch cX9_areConnectedBySearch 3 (some .boolean) ∈ WA) ∧ (Cond.initialized yX9_areConnectedBySearch.cls ∈ WA) ∧ (yX9_areConnectedBySearch.cls ≠ "java/lang/invoke/MethodHandle" ∧ yX9_areConnectedBySearch.cls ≠ "java/lang/invoke/VarHandle" ∧ (parseMethodDescriptor yX9_areConnectedBySearch.desc).map (fun d => d.parameters.length) = some 2) := ⟨WA_of (i := 1125) (by decide +kernel) (by decide +kernel), kini_CaseManager, by decide +kernel, by decide +kernel, by decide +kernel⟩
theorem kiX9_areConnectedBySearch : (Cond.instanceMethod yX9_areConnectedBySearch ∈ WA) ∧ (Cond.selects yX9_areConnectedBySearch.cls yX9_areConnectedBySearch yX9_areConnectedBySearch ∈ WA) := ⟨WA_of (i := 1123) (by decide +kernel) (by decide +kernel), WA_of (i := 1124) (by decide +kernel) (by decide +kernel)⟩
def mxX9_groupSize : Nat := 2
theorem kvX9_groupSize : (Cond.code yX9_groupSize cX9_groupSize 2 (some .int) ∈ WA) ∧ (Cond.initialized yX9_groupSize.cls ∈ WA) ∧ (yX9_groupSize.cls ≠ "java/lang/invoke/MethodHandle" ∧ yX9_groupSize.cls ≠ "java/lang/invoke/VarHandle" ∧ (parseMethodDescriptor yX9_groupSize.desc).map (fun d => d.parameters.length) = some 1) := ⟨WA_of (i := 1132) (by decide +kernel) (by decide +kernel), kini_CaseManager, by decide +kernel, by decide +kernel, by decide +kernel⟩
theorem kiX9_groupSize : (Cond.instanceMethod yX9_groupSize ∈ WA) ∧ (Cond.selects yX9_groupSize.cls yX9_groupSize yX9_groupSize ∈ WA) := ⟨WA_of (i := 1130) (by decide +kernel) (by decide +kernel), WA_of (i := 1131) (by decide +kernel) (by decide +kernel)⟩
def mxX9_groupCount : Nat := 1
theorem kvX9_groupCount : (Cond.code yX9_groupCount cX9_groupCount 1 (some .int) ∈ WA) ∧ (Cond.initialized yX9_groupCount.cls ∈ WA) ∧ (yX9_groupCount.cls ≠ "java/lang/invoke/MethodHandle" ∧ yX9_groupCount.cls ≠ "java/lang/invoke/VarHandle" ∧ (parseMethodDescriptor yX9_groupCount.desc).map (fun d => d.parameters.length) = some 0) := ⟨WA_of (i := 406) (by decide +kernel) (by decide +kernel), kini_CaseManager, by decide +kernel, by decide +kernel, by decide +kernel⟩
theorem kiX9_groupCount : (Cond.instanceMethod yX9_groupCount ∈ WA) ∧ (Cond.selects yX9_groupCount.cls yX9_groupCount yX9_groupCount ∈ WA) := ⟨WA_of (i := 404) (by decide +kernel) (by decide +kernel), WA_of (i := 405) (by decide +kernel) (by decide +kernel)⟩
def mxX9_heaviestWitness : Nat := 2
theorem kvX9_heaviestWitness : (Cond.code yX9_heaviestWitness cX9_heaviestWitness 2 (some .int) ∈ WA) ∧ (Cond.initialized yX9_heaviestWitness.cls ∈ WA) ∧ (yX9_heaviestWitness.cls ≠ "java/lang/invoke/MethodHandle" ∧ yX9_heaviestWitness.cls ≠ "java/lang/invoke/VarHandle" ∧ (parseMethodDescriptor yX9_heaviestWitness.desc).map (fun d => d.parameters.length) = some 1) := ⟨WA_of (i := 1144) (by decide +kernel) (by decide +kernel), kini_CaseManager, by decide +kernel, by decide +kernel, by decide +kernel⟩
theorem kiX9_heaviestWitness : (Cond.instanceMethod yX9_heaviestWitness ∈ WA) ∧ (Cond.selects yX9_heaviestWitness.cls yX9_heaviestWitness yX9_heaviestWitness ∈ WA) := ⟨WA_of (i := 1142) (by decide +kernel) (by decide +kernel), WA_of (i := 1143) (by decide +kernel) (by decide +kernel)⟩
def mxX9_nextToDecide : Nat := 2
theorem kvX9_nextToDecide : (Cond.code yX9_nextToDecide cX9_nextToDecide 2 (some .int) ∈ WA) ∧ (Cond.initialized yX9_nextToDecide.cls ∈ WA) ∧ (yX9_nextToDecide.cls ≠ "java/lang/invoke/MethodHandle" ∧ yX9_nextToDecide.cls ≠ "java/lang/invoke/VarHandle" ∧ (parseMethodDescriptor yX9_nextToDecide.desc).map (fun d => d.parameters.length) = some 0) := ⟨WA_of (i := 1155) (by decide +kernel) (by decide +kernel), kini_CaseManager, by decide +kernel, by decide +kernel, by decide +kernel⟩
theorem kiX9_nextToDecide : (Cond.instanceMethod yX9_nextToDecide ∈ WA) ∧ (Cond.selects yX9_nextToDecide.cls yX9_nextToDecide yX9_nextToDecide ∈ WA) := ⟨WA_of (i := 1153) (by decide +kernel) (by decide +kernel), WA_of (i := 1154) (by decide +kernel) (by decide +kernel)⟩
def mxX9_prosecutionWeight : Nat := 2
theorem kvX9_prosecutionWeight : (Cond.code yX9_prosecutionWeight cX9_prosecutionWeight 2 (some .int) ∈ WA) ∧ (Cond.initialized yX9_prosecutionWeight.cls ∈ WA) ∧ (yX9_prosecutionWeight.cls ≠ "java/lang/invoke/MethodHandle" ∧ yX9_prosecutionWeight.cls ≠ "java/lang/invoke/VarHandle" ∧ (parseMethodDescriptor yX9_prosecutionWeight.desc).map (fun d => d.parameters.length) = some 1) := ⟨WA_of (i := 1167) (by decide +kernel) (by decide +kernel), kini_CaseManager, by decide +kernel, by decide +kernel, by decide +kernel⟩
theorem kiX9_prosecutionWeight : (Cond.instanceMethod yX9_prosecutionWeight ∈ WA) ∧ (Cond.selects yX9_prosecutionWeight.cls yX9_prosecutionWeight yX9_prosecutionWeight ∈ WA) := ⟨WA_of (i := 1165) (by decide +kernel) (by decide +kernel), WA_of (i := 1166) (by decide +kernel) (by decide +kernel)⟩
def mxX9_defenceWeight : Nat := 2
theorem kvX9_defenceWeight : (Cond.code yX9_defenceWeight cX9_defenceWeight 2 (some .int) ∈ WA) ∧ (Cond.initialized yX9_defenceWeight.cls ∈ WA) ∧ (yX9_defenceWeight.cls ≠ "java/lang/invoke/MethodHandle" ∧ yX9_defenceWeight.cls ≠ "java/lang/invoke/VarHandle" ∧ (parseMethodDescriptor yX9_defenceWeight.desc).map (fun d => d.parameters.length) = some 1) := ⟨WA_of (i := 1177) (by decide +kernel) (by decide +kernel), kini_CaseManager, by decide +kernel, by decide +kernel, by decide +kernel⟩
theorem kiX9_defenceWeight : (Cond.instanceMethod yX9_defenceWeight ∈ WA) ∧ (Cond.selects yX9_defenceWeight.cls yX9_defenceWeight yX9_defenceWeight ∈ WA) := ⟨WA_of (i := 1175) (by decide +kernel) (by decide +kernel), WA_of (i := 1176) (by decide +kernel) (by decide +kernel)⟩
def mxX9_margin : Nat := 2
theorem kvX9_margin : (Cond.code yX9_margin cX9_margin 2 (some .int) ∈ WA) ∧ (Cond.initialized yX9_margin.cls ∈ WA) ∧ (yX9_margin.cls ≠ "java/lang/invoke/MethodHandle" ∧ yX9_margin.cls ≠ "java/lang/invoke/VarHandle" ∧ (parseMethodDescriptor yX9_margin.desc).map (fun d => d.parameters.length) = some 1) := ⟨WA_of (i := 1184) (by decide +kernel) (by decide +kernel), kini_CaseManager, by decide +kernel, by decide +kernel, by decide +kernel⟩
theorem kiX9_margin : (Cond.instanceMethod yX9_margin ∈ WA) ∧ (Cond.selects yX9_margin.cls yX9_margin yX9_margin ∈ WA) := ⟨WA_of (i := 1182) (by decide +kernel) (by decide +kernel), WA_of (i := 1183) (by decide +kernel) (by decide +kernel)⟩
def mxX9_marginByCredibility : Nat := 2
theorem kvX9_marginByCredibility : (Cond.code yX9_marginByCredibility cX9_marginByCredibility 2 (some .int) ∈ WA) ∧ (Cond.initialized yX9_marginByCredibility.cls ∈ WA) ∧ (yX9_marginByCredibility.cls ≠ "java/lang/invoke/MethodHandle" ∧ yX9_marginByCredibility.cls ≠ "java/lang/invoke/VarHandle" ∧ (parseMethodDescriptor yX9_marginByCredibility.desc).map (fun d => d.parameters.length) = some 1) := ⟨WA_of (i := 1191) (by decide +kernel) (by decide +kernel), kini_CaseManager, by decide +kernel, by decide +kernel, by decide +kernel⟩
theorem kiX9_marginByCredibility : (Cond.instanceMethod yX9_marginByCredibility ∈ WA) ∧ (Cond.selects yX9_marginByCredibility.cls yX9_marginByCredibility yX9_marginByCredibility ∈ WA) := ⟨WA_of (i := 1189) (by decide +kernel) (by decide +kernel), WA_of (i := 1190) (by decide +kernel) (by decide +kernel)⟩
def mxX9_firmAnswersToGuilty : Nat := 4
theorem kvX9_firmAnswersToGuilty : (Cond.code yX9_firmAnswersToGuilty cX9_firmAnswersToGuilty 4 (some .int) ∈ WA) ∧ (Cond.initialized yX9_firmAnswersToGuilty.cls ∈ WA) ∧ (yX9_firmAnswersToGuilty.cls ≠ "java/lang/invoke/MethodHandle" ∧ yX9_firmAnswersToGuilty.cls ≠ "java/lang/invoke/VarHandle" ∧ (parseMethodDescriptor yX9_firmAnswersToGuilty.desc).map (fun d => d.parameters.length) = some 2) := ⟨WA_of (i := 1198) (by decide +kernel) (by decide +kernel), kini_CaseManager, by decide +kernel, by decide +kernel, by decide +kernel⟩
theorem kiX9_firmAnswersToGuilty : (Cond.instanceMethod yX9_firmAnswersToGuilty ∈ WA) ∧ (Cond.selects yX9_firmAnswersToGuilty.cls yX9_firmAnswersToGuilty yX9_firmAnswersToGuilty ∈ WA) := ⟨WA_of (i := 1196) (by decide +kernel) (by decide +kernel), WA_of (i := 1197) (by decide +kernel) (by decide +kernel)⟩
def mxX9_sentence : Nat := 2
theorem kvX9_sentence : (Cond.code yX9_sentence cX9_sentence 2 (some .int) ∈ WA) ∧ (Cond.initialized yX9_sentence.cls ∈ WA) ∧ (yX9_sentence.cls ≠ "java/lang/invoke/MethodHandle" ∧ yX9_sentence.cls ≠ "java/lang/invoke/VarHandle" ∧ (parseMethodDescriptor yX9_sentence.desc).map (fun d => d.parameters.length) = some 1) := ⟨WA_of (i := 1210) (by decide +kernel) (by decide +kernel), kini_CaseManager, by decide +kernel, by decide +kernel, by decide +kernel⟩
theorem kiX9_sentence : (Cond.instanceMethod yX9_sentence ∈ WA) ∧ (Cond.selects yX9_sentence.cls yX9_sentence yX9_sentence ∈ WA) := ⟨WA_of (i := 1208) (by decide +kernel) (by decide +kernel), WA_of (i := 1209) (by decide +kernel) (by decide +kernel)⟩
def mxX9_sentenceByCases : Nat := 2
theorem kvX9_sentenceByCases : (Cond.code yX9_sentenceByCases cX9_sentenceByCases 2 (some .int) ∈ WA) ∧ (Cond.initialized yX9_sentenceByCases.cls ∈ WA) ∧ (yX9_sentenceByCases.cls ≠ "java/lang/invoke/MethodHandle" ∧ yX9_sentenceByCases.cls ≠ "java/lang/invoke/VarHandle" ∧ (parseMethodDescriptor yX9_sentenceByCases.desc).map (fun d => d.parameters.length) = some 1) := ⟨WA_of (i := 1221) (by decide +kernel) (by decide +kernel), kini_CaseManager, by decide +kernel, by decide +kernel, by decide +kernel⟩
theorem kiX9_sentenceByCases : (Cond.instanceMethod yX9_sentenceByCases ∈ WA) ∧ (Cond.selects yX9_sentenceByCases.cls yX9_sentenceByCases yX9_sentenceByCases ∈ WA) := ⟨WA_of (i := 1219) (by decide +kernel) (by decide +kernel), WA_of (i := 1220) (by decide +kernel) (by decide +kernel)⟩
def mxX9_mostSentenced : Nat := 3
theorem kvX9_mostSentenced : (Cond.code yX9_mostSentenced cX9_mostSentenced 3 (some .int) ∈ WA) ∧ (Cond.initialized yX9_mostSentenced.cls ∈ WA) ∧ (yX9_mostSentenced.cls ≠ "java/lang/invoke/MethodHandle" ∧ yX9_mostSentenced.cls ≠ "java/lang/invoke/VarHandle" ∧ (parseMethodDescriptor yX9_mostSentenced.desc).map (fun d => d.parameters.length) = some 0) := ⟨WA_of (i := 418) (by decide +kernel) (by decide +kernel), kini_CaseManager, by decide +kernel, by decide +kernel, by decide +kernel⟩
theorem kiX9_mostSentenced : (Cond.instanceMethod yX9_mostSentenced ∈ WA) ∧ (Cond.selects yX9_mostSentenced.cls yX9_mostSentenced yX9_mostSentenced ∈ WA) := ⟨WA_of (i := 416) (by decide +kernel) (by decide +kernel), WA_of (i := 417) (by decide +kernel) (by decide +kernel)⟩
def mxX9_docketLength : Nat := 1
theorem kvX9_docketLength : (Cond.code yX9_docketLength cX9_docketLength 1 (some .int) ∈ WA) ∧ (Cond.initialized yX9_docketLength.cls ∈ WA) ∧ (yX9_docketLength.cls ≠ "java/lang/invoke/MethodHandle" ∧ yX9_docketLength.cls ≠ "java/lang/invoke/VarHandle" ∧ (parseMethodDescriptor yX9_docketLength.desc).map (fun d => d.parameters.length) = some 0) := ⟨WA_of (i := 423) (by decide +kernel) (by decide +kernel), kini_CaseManager, by decide +kernel, by decide +kernel, by decide +kernel⟩
theorem kiX9_docketLength : (Cond.instanceMethod yX9_docketLength ∈ WA) ∧ (Cond.selects yX9_docketLength.cls yX9_docketLength yX9_docketLength ∈ WA) := ⟨WA_of (i := 421) (by decide +kernel) (by decide +kernel), WA_of (i := 422) (by decide +kernel) (by decide +kernel)⟩
def mxX9_docketAt : Nat := 2
theorem kvX9_docketAt : (Cond.code yX9_docketAt cX9_docketAt 2 (some .int) ∈ WA) ∧ (Cond.initialized yX9_docketAt.cls ∈ WA) ∧ (yX9_docketAt.cls ≠ "java/lang/invoke/MethodHandle" ∧ yX9_docketAt.cls ≠ "java/lang/invoke/VarHandle" ∧ (parseMethodDescriptor yX9_docketAt.desc).map (fun d => d.parameters.length) = some 1) := ⟨WA_of (i := 1228) (by decide +kernel) (by decide +kernel), kini_CaseManager, by decide +kernel, by decide +kernel, by decide +kernel⟩
theorem kiX9_docketAt : (Cond.instanceMethod yX9_docketAt ∈ WA) ∧ (Cond.selects yX9_docketAt.cls yX9_docketAt yX9_docketAt ∈ WA) := ⟨WA_of (i := 1226) (by decide +kernel) (by decide +kernel), WA_of (i := 1227) (by decide +kernel) (by decide +kernel)⟩
def mxX9_docketPosition : Nat := 2
theorem kvX9_docketPosition : (Cond.code yX9_docketPosition cX9_docketPosition 2 (some .int) ∈ WA) ∧ (Cond.initialized yX9_docketPosition.cls ∈ WA) ∧ (yX9_docketPosition.cls ≠ "java/lang/invoke/MethodHandle" ∧ yX9_docketPosition.cls ≠ "java/lang/invoke/VarHandle" ∧ (parseMethodDescriptor yX9_docketPosition.desc).map (fun d => d.parameters.length) = some 1) := ⟨WA_of (i := 1236) (by decide +kernel) (by decide +kernel), kini_CaseManager, by decide +kernel, by decide +kernel, by decide +kernel⟩
theorem kiX9_docketPosition : (Cond.instanceMethod yX9_docketPosition ∈ WA) ∧ (Cond.selects yX9_docketPosition.cls yX9_docketPosition yX9_docketPosition ∈ WA) := ⟨WA_of (i := 1234) (by decide +kernel) (by decide +kernel), WA_of (i := 1235) (by decide +kernel) (by decide +kernel)⟩
def mxX9_closedCount : Nat := 1
theorem kvX9_closedCount : (Cond.code yX9_closedCount cX9_closedCount 1 (some .int) ∈ WA) ∧ (Cond.initialized yX9_closedCount.cls ∈ WA) ∧ (yX9_closedCount.cls ≠ "java/lang/invoke/MethodHandle" ∧ yX9_closedCount.cls ≠ "java/lang/invoke/VarHandle" ∧ (parseMethodDescriptor yX9_closedCount.desc).map (fun d => d.parameters.length) = some 0) := ⟨WA_of (i := 436) (by decide +kernel) (by decide +kernel), kini_CaseManager, by decide +kernel, by decide +kernel, by decide +kernel⟩
theorem kiX9_closedCount : (Cond.instanceMethod yX9_closedCount ∈ WA) ∧ (Cond.selects yX9_closedCount.cls yX9_closedCount yX9_closedCount ∈ WA) := ⟨WA_of (i := 434) (by decide +kernel) (by decide +kernel), WA_of (i := 435) (by decide +kernel) (by decide +kernel)⟩
def mxX9_guiltyCount : Nat := 1
theorem kvX9_guiltyCount : (Cond.code yX9_guiltyCount cX9_guiltyCount 1 (some .int) ∈ WA) ∧ (Cond.initialized yX9_guiltyCount.cls ∈ WA) ∧ (yX9_guiltyCount.cls ≠ "java/lang/invoke/MethodHandle" ∧ yX9_guiltyCount.cls ≠ "java/lang/invoke/VarHandle" ∧ (parseMethodDescriptor yX9_guiltyCount.desc).map (fun d => d.parameters.length) = some 0) := ⟨WA_of (i := 440) (by decide +kernel) (by decide +kernel), kini_CaseManager, by decide +kernel, by decide +kernel, by decide +kernel⟩
theorem kiX9_guiltyCount : (Cond.instanceMethod yX9_guiltyCount ∈ WA) ∧ (Cond.selects yX9_guiltyCount.cls yX9_guiltyCount yX9_guiltyCount ∈ WA) := ⟨WA_of (i := 438) (by decide +kernel) (by decide +kernel), WA_of (i := 439) (by decide +kernel) (by decide +kernel)⟩
def mxX9_decisionCount : Nat := 1
theorem kvX9_decisionCount : (Cond.code yX9_decisionCount cX9_decisionCount 1 (some .int) ∈ WA) ∧ (Cond.initialized yX9_decisionCount.cls ∈ WA) ∧ (yX9_decisionCount.cls ≠ "java/lang/invoke/MethodHandle" ∧ yX9_decisionCount.cls ≠ "java/lang/invoke/VarHandle" ∧ (parseMethodDescriptor yX9_decisionCount.desc).map (fun d => d.parameters.length) = some 0) := ⟨WA_of (i := 452) (by decide +kernel) (by decide +kernel), kini_CaseManager, by decide +kernel, by decide +kernel, by decide +kernel⟩
theorem kiX9_decisionCount : (Cond.instanceMethod yX9_decisionCount ∈ WA) ∧ (Cond.selects yX9_decisionCount.cls yX9_decisionCount yX9_decisionCount ∈ WA) := ⟨WA_of (i := 450) (by decide +kernel) (by decide +kernel), WA_of (i := 451) (by decide +kernel) (by decide +kernel)⟩
def mxX9_questionTotal : Nat := 1
theorem kvX9_questionTotal : (Cond.code yX9_questionTotal cX9_questionTotal 1 (some .int) ∈ WA) ∧ (Cond.initialized yX9_questionTotal.cls ∈ WA) ∧ (yX9_questionTotal.cls ≠ "java/lang/invoke/MethodHandle" ∧ yX9_questionTotal.cls ≠ "java/lang/invoke/VarHandle" ∧ (parseMethodDescriptor yX9_questionTotal.desc).map (fun d => d.parameters.length) = some 0) := ⟨WA_of (i := 456) (by decide +kernel) (by decide +kernel), kini_CaseManager, by decide +kernel, by decide +kernel, by decide +kernel⟩
theorem kiX9_questionTotal : (Cond.instanceMethod yX9_questionTotal ∈ WA) ∧ (Cond.selects yX9_questionTotal.cls yX9_questionTotal yX9_questionTotal ∈ WA) := ⟨WA_of (i := 454) (by decide +kernel) (by decide +kernel), WA_of (i := 455) (by decide +kernel) (by decide +kernel)⟩
def mxX9_meanCredibility : Nat := 1
theorem kvX9_meanCredibility : (Cond.code yX9_meanCredibility cX9_meanCredibility 1 (some .double) ∈ WA) ∧ (Cond.initialized yX9_meanCredibility.cls ∈ WA) ∧ (yX9_meanCredibility.cls ≠ "java/lang/invoke/MethodHandle" ∧ yX9_meanCredibility.cls ≠ "java/lang/invoke/VarHandle" ∧ (parseMethodDescriptor yX9_meanCredibility.desc).map (fun d => d.parameters.length) = some 0) := ⟨WA_of (i := 1258) (by decide +kernel) (by decide +kernel), kini_CaseManager, by decide +kernel, by decide +kernel, by decide +kernel⟩
theorem kiX9_meanCredibility : (Cond.instanceMethod yX9_meanCredibility ∈ WA) ∧ (Cond.selects yX9_meanCredibility.cls yX9_meanCredibility yX9_meanCredibility ∈ WA) := ⟨WA_of (i := 1256) (by decide +kernel) (by decide +kernel), WA_of (i := 1257) (by decide +kernel) (by decide +kernel)⟩
def mxX9_guiltyShare : Nat := 2
theorem kvX9_guiltyShare : (Cond.code yX9_guiltyShare cX9_guiltyShare 2 (some .float) ∈ WA) ∧ (Cond.initialized yX9_guiltyShare.cls ∈ WA) ∧ (yX9_guiltyShare.cls ≠ "java/lang/invoke/MethodHandle" ∧ yX9_guiltyShare.cls ≠ "java/lang/invoke/VarHandle" ∧ (parseMethodDescriptor yX9_guiltyShare.desc).map (fun d => d.parameters.length) = some 0) := ⟨WA_of (i := 1272) (by decide +kernel) (by decide +kernel), kini_CaseManager, by decide +kernel, by decide +kernel, by decide +kernel⟩
theorem kiX9_guiltyShare : (Cond.instanceMethod yX9_guiltyShare ∈ WA) ∧ (Cond.selects yX9_guiltyShare.cls yX9_guiltyShare yX9_guiltyShare ∈ WA) := ⟨WA_of (i := 1270) (by decide +kernel) (by decide +kernel), WA_of (i := 1271) (by decide +kernel) (by decide +kernel)⟩
def mxX9_isConsistent : Nat := 1
theorem kvX9_isConsistent : (Cond.code yX9_isConsistent cX9_isConsistent 1 (some .boolean) ∈ WA) ∧ (Cond.initialized yX9_isConsistent.cls ∈ WA) ∧ (yX9_isConsistent.cls ≠ "java/lang/invoke/MethodHandle" ∧ yX9_isConsistent.cls ≠ "java/lang/invoke/VarHandle" ∧ (parseMethodDescriptor yX9_isConsistent.desc).map (fun d => d.parameters.length) = some 0) := ⟨WA_of (i := 460) (by decide +kernel) (by decide +kernel), kini_CaseManager, by decide +kernel, by decide +kernel, by decide +kernel⟩
theorem kiX9_isConsistent : (Cond.instanceMethod yX9_isConsistent ∈ WA) ∧ (Cond.selects yX9_isConsistent.cls yX9_isConsistent yX9_isConsistent ∈ WA) := ⟨WA_of (i := 458) (by decide +kernel) (by decide +kernel), WA_of (i := 459) (by decide +kernel) (by decide +kernel)⟩
def mxX9_formatCase : Nat := 3
theorem kvX9_formatCase : (Cond.code yX9_formatCase cX9_formatCase 3 (some .int) ∈ WA) ∧ (Cond.initialized yX9_formatCase.cls ∈ WA) ∧ (yX9_formatCase.cls ≠ "java/lang/invoke/MethodHandle" ∧ yX9_formatCase.cls ≠ "java/lang/invoke/VarHandle" ∧ (parseMethodDescriptor yX9_formatCase.desc).map (fun d => d.parameters.length) = some 1) := ⟨WA_of (i := 1280) (by decide +kernel) (by decide +kernel), kini_CaseManager, by decide +kernel, by decide +kernel, by decide +kernel⟩
theorem kiX9_formatCase : (Cond.instanceMethod yX9_formatCase ∈ WA) ∧ (Cond.selects yX9_formatCase.cls yX9_formatCase yX9_formatCase ∈ WA) := ⟨WA_of (i := 1278) (by decide +kernel) (by decide +kernel), WA_of (i := 1279) (by decide +kernel) (by decide +kernel)⟩
def mxX9_formatWitness : Nat := 2
theorem kvX9_formatWitness : (Cond.code yX9_formatWitness cX9_formatWitness 2 (some .int) ∈ WA) ∧ (Cond.initialized yX9_formatWitness.cls ∈ WA) ∧ (yX9_formatWitness.cls ≠ "java/lang/invoke/MethodHandle" ∧ yX9_formatWitness.cls ≠ "java/lang/invoke/VarHandle" ∧ (parseMethodDescriptor yX9_formatWitness.desc).map (fun d => d.parameters.length) = some 1) := ⟨WA_of (i := 1570) (by decide +kernel) (by decide +kernel), kini_CaseManager, by decide +kernel, by decide +kernel, by decide +kernel⟩
theorem kiX9_formatWitness : (Cond.instanceMethod yX9_formatWitness ∈ WA) ∧ (Cond.selects yX9_formatWitness.cls yX9_formatWitness yX9_formatWitness ∈ WA) := ⟨WA_of (i := 1568) (by decide +kernel) (by decide +kernel), WA_of (i := 1569) (by decide +kernel) (by decide +kernel)⟩
def mxX9_lineChar : Nat := 2
theorem kvX9_lineChar : (Cond.code yX9_lineChar cX9_lineChar 2 (some .char) ∈ WA) ∧ (Cond.initialized yX9_lineChar.cls ∈ WA) ∧ (yX9_lineChar.cls ≠ "java/lang/invoke/MethodHandle" ∧ yX9_lineChar.cls ≠ "java/lang/invoke/VarHandle" ∧ (parseMethodDescriptor yX9_lineChar.desc).map (fun d => d.parameters.length) = some 1) := ⟨WA_of (i := 1577) (by decide +kernel) (by decide +kernel), kini_CaseManager, by decide +kernel, by decide +kernel, by decide +kernel⟩
theorem kiX9_lineChar : (Cond.instanceMethod yX9_lineChar ∈ WA) ∧ (Cond.selects yX9_lineChar.cls yX9_lineChar yX9_lineChar ∈ WA) := ⟨WA_of (i := 1575) (by decide +kernel) (by decide +kernel), WA_of (i := 1576) (by decide +kernel) (by decide +kernel)⟩
def mxX9_append : Nat := 2
theorem kvX9_append : (Cond.code yX9_append cX9_append 2 (some .int) ∈ WA) ∧ (Cond.initialized yX9_append.cls ∈ WA) ∧ (yX9_append.cls ≠ "java/lang/invoke/MethodHandle" ∧ yX9_append.cls ≠ "java/lang/invoke/VarHandle" ∧ (parseMethodDescriptor yX9_append.desc).map (fun d => d.parameters.length) = some 1) := ⟨WA_of (i := 1595) (by decide +kernel) (by decide +kernel), kini_CaseManager, by decide +kernel, by decide +kernel, by decide +kernel⟩
theorem kiX9_append : (Cond.instanceMethod yX9_append ∈ WA) ∧ (Cond.selects yX9_append.cls yX9_append yX9_append ∈ WA) := ⟨WA_of (i := 1593) (by decide +kernel) (by decide +kernel), WA_of (i := 1594) (by decide +kernel) (by decide +kernel)⟩
def mxX9_run : Nat := 2
theorem kvX9_run : (Cond.code yX9_run cX9_run 2 (some .int) ∈ WA) ∧ (Cond.initialized yX9_run.cls ∈ WA) ∧ (yX9_run.cls ≠ "java/lang/invoke/MethodHandle" ∧ yX9_run.cls ≠ "java/lang/invoke/VarHandle" ∧ (parseMethodDescriptor yX9_run.desc).map (fun d => d.parameters.length) = some 0) := ⟨WA_of (i := 1605) (by decide +kernel) (by decide +kernel), kini_CaseManager, by decide +kernel, by decide +kernel, by decide +kernel⟩
theorem kiX9_run : (Cond.instanceMethod yX9_run ∈ WA) ∧ (Cond.selects yX9_run.cls yX9_run yX9_run ∈ WA) := ⟨WA_of (i := 1603) (by decide +kernel) (by decide +kernel), WA_of (i := 1604) (by decide +kernel) (by decide +kernel)⟩
def mxX9_errorPosition : Nat := 1
theorem kvX9_errorPosition : (Cond.code yX9_errorPosition cX9_errorPosition 1 (some .int) ∈ WA) ∧ (Cond.initialized yX9_errorPosition.cls ∈ WA) ∧ (yX9_errorPosition.cls ≠ "java/lang/invoke/MethodHandle" ∧ yX9_errorPosition.cls ≠ "java/lang/invoke/VarHandle" ∧ (parseMethodDescriptor yX9_errorPosition.desc).map (fun d => d.parameters.length) = some 0) := ⟨WA_of (i := 1705) (by decide +kernel) (by decide +kernel), kini_CaseManager, by decide +kernel, by decide +kernel, by decide +kernel⟩
theorem kiX9_errorPosition : (Cond.instanceMethod yX9_errorPosition ∈ WA) ∧ (Cond.selects yX9_errorPosition.cls yX9_errorPosition yX9_errorPosition ∈ WA) := ⟨WA_of (i := 1703) (by decide +kernel) (by decide +kernel), WA_of (i := 1704) (by decide +kernel) (by decide +kernel)⟩
def mxX9_failedCommand : Nat := 1
theorem kvX9_failedCommand : (Cond.code yX9_failedCommand cX9_failedCommand 1 (some .int) ∈ WA) ∧ (Cond.initialized yX9_failedCommand.cls ∈ WA) ∧ (yX9_failedCommand.cls ≠ "java/lang/invoke/MethodHandle" ∧ yX9_failedCommand.cls ≠ "java/lang/invoke/VarHandle" ∧ (parseMethodDescriptor yX9_failedCommand.desc).map (fun d => d.parameters.length) = some 0) := ⟨WA_of (i := 1713) (by decide +kernel) (by decide +kernel), kini_CaseManager, by decide +kernel, by decide +kernel, by decide +kernel⟩
theorem kiX9_failedCommand : (Cond.instanceMethod yX9_failedCommand ∈ WA) ∧ (Cond.selects yX9_failedCommand.cls yX9_failedCommand yX9_failedCommand ∈ WA) := ⟨WA_of (i := 1711) (by decide +kernel) (by decide +kernel), WA_of (i := 1712) (by decide +kernel) (by decide +kernel)⟩
def mxX9_isFailureOfState : Nat := 1
theorem kvX9_isFailureOfState : (Cond.code yX9_isFailureOfState cX9_isFailureOfState 1 (some .boolean) ∈ WA) ∧ (Cond.initialized yX9_isFailureOfState.cls ∈ WA) ∧ (yX9_isFailureOfState.cls ≠ "java/lang/invoke/MethodHandle" ∧ yX9_isFailureOfState.cls ≠ "java/lang/invoke/VarHandle" ∧ (parseMethodDescriptor yX9_isFailureOfState.desc).map (fun d => d.parameters.length) = some 0) := ⟨WA_of (i := 1725) (by decide +kernel) (by decide +kernel), kini_CaseManager, by decide +kernel, by decide +kernel, by decide +kernel⟩
theorem kiX9_isFailureOfState : (Cond.instanceMethod yX9_isFailureOfState ∈ WA) ∧ (Cond.selects yX9_isFailureOfState.cls yX9_isFailureOfState yX9_isFailureOfState ∈ WA) := ⟨WA_of (i := 1723) (by decide +kernel) (by decide +kernel), WA_of (i := 1724) (by decide +kernel) (by decide +kernel)⟩
def mxX9_undoableCount : Nat := 1
theorem kvX9_undoableCount : (Cond.code yX9_undoableCount cX9_undoableCount 1 (some .int) ∈ WA) ∧ (Cond.initialized yX9_undoableCount.cls ∈ WA) ∧ (yX9_undoableCount.cls ≠ "java/lang/invoke/MethodHandle" ∧ yX9_undoableCount.cls ≠ "java/lang/invoke/VarHandle" ∧ (parseMethodDescriptor yX9_undoableCount.desc).map (fun d => d.parameters.length) = some 0) := ⟨WA_of (i := 585) (by decide +kernel) (by decide +kernel), kini_CaseManager, by decide +kernel, by decide +kernel, by decide +kernel⟩
theorem kiX9_undoableCount : (Cond.instanceMethod yX9_undoableCount ∈ WA) ∧ (Cond.selects yX9_undoableCount.cls yX9_undoableCount yX9_undoableCount ∈ WA) := ⟨WA_of (i := 583) (by decide +kernel) (by decide +kernel), WA_of (i := 584) (by decide +kernel) (by decide +kernel)⟩
def mxX9_undo : Nat := 1
theorem kvX9_undo : (Cond.code yX9_undo cX9_undo 1 (some .int) ∈ WA) ∧ (Cond.initialized yX9_undo.cls ∈ WA) ∧ (yX9_undo.cls ≠ "java/lang/invoke/MethodHandle" ∧ yX9_undo.cls ≠ "java/lang/invoke/VarHandle" ∧ (parseMethodDescriptor yX9_undo.desc).map (fun d => d.parameters.length) = some 0) := ⟨WA_of (i := 1732) (by decide +kernel) (by decide +kernel), kini_CaseManager, by decide +kernel, by decide +kernel, by decide +kernel⟩
theorem kiX9_undo : (Cond.instanceMethod yX9_undo ∈ WA) ∧ (Cond.selects yX9_undo.cls yX9_undo yX9_undo ∈ WA) := ⟨WA_of (i := 1730) (by decide +kernel) (by decide +kernel), WA_of (i := 1731) (by decide +kernel) (by decide +kernel)⟩
def mxX9_save : Nat := 1
theorem kvX9_save : (Cond.code yX9_save cX9_save 1 (some .int) ∈ WA) ∧ (Cond.initialized yX9_save.cls ∈ WA) ∧ (yX9_save.cls ≠ "java/lang/invoke/MethodHandle" ∧ yX9_save.cls ≠ "java/lang/invoke/VarHandle" ∧ (parseMethodDescriptor yX9_save.desc).map (fun d => d.parameters.length) = some 0) := ⟨WA_of (i := 589) (by decide +kernel) (by decide +kernel), kini_CaseManager, by decide +kernel, by decide +kernel, by decide +kernel⟩
theorem kiX9_save : (Cond.instanceMethod yX9_save ∈ WA) ∧ (Cond.selects yX9_save.cls yX9_save yX9_save ∈ WA) := ⟨WA_of (i := 587) (by decide +kernel) (by decide +kernel), WA_of (i := 588) (by decide +kernel) (by decide +kernel)⟩
def mxX9_restore : Nat := 1
theorem kvX9_restore : (Cond.code yX9_restore cX9_restore 1 (some .int) ∈ WA) ∧ (Cond.initialized yX9_restore.cls ∈ WA) ∧ (yX9_restore.cls ≠ "java/lang/invoke/MethodHandle" ∧ yX9_restore.cls ≠ "java/lang/invoke/VarHandle" ∧ (parseMethodDescriptor yX9_restore.desc).map (fun d => d.parameters.length) = some 0) := ⟨WA_of (i := 1744) (by decide +kernel) (by decide +kernel), kini_CaseManager, by decide +kernel, by decide +kernel, by decide +kernel⟩
theorem kiX9_restore : (Cond.instanceMethod yX9_restore ∈ WA) ∧ (Cond.selects yX9_restore.cls yX9_restore yX9_restore ∈ WA) := ⟨WA_of (i := 1742) (by decide +kernel) (by decide +kernel), WA_of (i := 1743) (by decide +kernel) (by decide +kernel)⟩
def mxX9_change : Nat := 6
theorem kvX9_change : (Cond.code yX9_change cX9_change 6 (some .int) ∈ WA) ∧ (Cond.initialized yX9_change.cls ∈ WA) ∧ (yX9_change.cls ≠ "java/lang/invoke/MethodHandle" ∧ yX9_change.cls ≠ "java/lang/invoke/VarHandle" ∧ (parseMethodDescriptor yX9_change.desc).map (fun d => d.parameters.length) = some 5) := ⟨WA_of (i := 616) (by decide +kernel) (by decide +kernel), kini_CaseManager, by decide +kernel, by decide +kernel, by decide +kernel⟩
theorem kiX9_change : (Cond.instanceMethod yX9_change ∈ WA) ∧ (Cond.selects yX9_change.cls yX9_change yX9_change ∈ WA) := ⟨WA_of (i := 615) (by decide +kernel) (by decide +kernel), WA_of (i := 9) (by decide +kernel) (by decide +kernel)⟩
def mxX9_refuse : Nat := 1
theorem kvX9_refuse : (Cond.code yX9_refuse cX9_refuse 1 none ∈ WA) ∧ (Cond.initialized yX9_refuse.cls ∈ WA) ∧ (yX9_refuse.cls ≠ "java/lang/invoke/MethodHandle" ∧ yX9_refuse.cls ≠ "java/lang/invoke/VarHandle" ∧ (parseMethodDescriptor yX9_refuse.desc).map (fun d => d.parameters.length) = some 1) := ⟨WA_of (i := 680) (by decide +kernel) (by decide +kernel), kini_CaseManager, by decide +kernel, by decide +kernel, by decide +kernel⟩
theorem ksX9_refuse : Cond.static yX9_refuse ∈ WA := WA_of (i := 679) (by decide +kernel) (by decide +kernel)
def mxX9_executeProgram : Nat := 7
theorem kvX9_executeProgram : (Cond.code yX9_executeProgram cX9_executeProgram 7 (some .boolean) ∈ WA) ∧ (Cond.initialized yX9_executeProgram.cls ∈ WA) ∧ (yX9_executeProgram.cls ≠ "java/lang/invoke/MethodHandle" ∧ yX9_executeProgram.cls ≠ "java/lang/invoke/VarHandle" ∧ (parseMethodDescriptor yX9_executeProgram.desc).map (fun d => d.parameters.length) = some 0) := ⟨WA_of (i := 1681) (by decide +kernel) (by decide +kernel), kini_CaseManager, by decide +kernel, by decide +kernel, by decide +kernel⟩
theorem kiX9_executeProgram : (Cond.instanceMethod yX9_executeProgram ∈ WA) ∧ (Cond.selects yX9_executeProgram.cls yX9_executeProgram yX9_executeProgram ∈ WA) := ⟨WA_of (i := 1680) (by decide +kernel) (by decide +kernel), WA_of (i := 41) (by decide +kernel) (by decide +kernel)⟩
def mxX9_needCase : Nat := 2
theorem kvX9_needCase : (Cond.code yX9_needCase cX9_needCase 2 none ∈ WA) ∧ (Cond.initialized yX9_needCase.cls ∈ WA) ∧ (yX9_needCase.cls ≠ "java/lang/invoke/MethodHandle" ∧ yX9_needCase.cls ≠ "java/lang/invoke/VarHandle" ∧ (parseMethodDescriptor yX9_needCase.desc).map (fun d => d.parameters.length) = some 1) := ⟨WA_of (i := 956) (by decide +kernel) (by decide +kernel), kini_CaseManager, by decide +kernel, by decide +kernel, by decide +kernel⟩
theorem kiX9_needCase : (Cond.instanceMethod yX9_needCase ∈ WA) ∧ (Cond.selects yX9_needCase.cls yX9_needCase yX9_needCase ∈ WA) := ⟨WA_of (i := 955) (by decide +kernel) (by decide +kernel), WA_of (i := 25) (by decide +kernel) (by decide +kernel)⟩
def mxX9_needWitness : Nat := 2
theorem kvX9_needWitness : (Cond.code yX9_needWitness cX9_needWitness 2 none ∈ WA) ∧ (Cond.initialized yX9_needWitness.cls ∈ WA) ∧ (yX9_needWitness.cls ≠ "java/lang/invoke/MethodHandle" ∧ yX9_needWitness.cls ≠ "java/lang/invoke/VarHandle" ∧ (parseMethodDescriptor yX9_needWitness.desc).map (fun d => d.parameters.length) = some 1) := ⟨WA_of (i := 1029) (by decide +kernel) (by decide +kernel), kini_CaseManager, by decide +kernel, by decide +kernel, by decide +kernel⟩
theorem kiX9_needWitness : (Cond.instanceMethod yX9_needWitness ∈ WA) ∧ (Cond.selects yX9_needWitness.cls yX9_needWitness yX9_needWitness ∈ WA) := ⟨WA_of (i := 1028) (by decide +kernel) (by decide +kernel), WA_of (i := 26) (by decide +kernel) (by decide +kernel)⟩
def mxX9_needTestimony : Nat := 3
theorem kvX9_needTestimony : (Cond.code yX9_needTestimony cX9_needTestimony 3 none ∈ WA) ∧ (Cond.initialized yX9_needTestimony.cls ∈ WA) ∧ (yX9_needTestimony.cls ≠ "java/lang/invoke/MethodHandle" ∧ yX9_needTestimony.cls ≠ "java/lang/invoke/VarHandle" ∧ (parseMethodDescriptor yX9_needTestimony.desc).map (fun d => d.parameters.length) = some 2) := ⟨WA_of (i := 1043) (by decide +kernel) (by decide +kernel), kini_CaseManager, by decide +kernel, by decide +kernel, by decide +kernel⟩
theorem kiX9_needTestimony : (Cond.instanceMethod yX9_needTestimony ∈ WA) ∧ (Cond.selects yX9_needTestimony.cls yX9_needTestimony yX9_needTestimony ∈ WA) := ⟨WA_of (i := 1042) (by decide +kernel) (by decide +kernel), WA_of (i := 27) (by decide +kernel) (by decide +kernel)⟩
def mxX9_needFailure : Nat := 1
theorem kvX9_needFailure : (Cond.code yX9_needFailure cX9_needFailure 1 none ∈ WA) ∧ (Cond.initialized yX9_needFailure.cls ∈ WA) ∧ (yX9_needFailure.cls ≠ "java/lang/invoke/MethodHandle" ∧ yX9_needFailure.cls ≠ "java/lang/invoke/VarHandle" ∧ (parseMethodDescriptor yX9_needFailure.desc).map (fun d => d.parameters.length) = some 0) := ⟨WA_of (i := 1717) (by decide +kernel) (by decide +kernel), kini_CaseManager, by decide +kernel, by decide +kernel, by decide +kernel⟩
theorem kiX9_needFailure : (Cond.instanceMethod yX9_needFailure ∈ WA) ∧ (Cond.selects yX9_needFailure.cls yX9_needFailure yX9_needFailure ∈ WA) := ⟨WA_of (i := 1716) (by decide +kernel) (by decide +kernel), WA_of (i := 42) (by decide +kernel) (by decide +kernel)⟩
def mxX9_needDefendant : Nat := 1
theorem kvX9_needDefendant : (Cond.code yX9_needDefendant cX9_needDefendant 1 none ∈ WA) ∧ (Cond.initialized yX9_needDefendant.cls ∈ WA) ∧ (yX9_needDefendant.cls ≠ "java/lang/invoke/MethodHandle" ∧ yX9_needDefendant.cls ≠ "java/lang/invoke/VarHandle" ∧ (parseMethodDescriptor yX9_needDefendant.desc).map (fun d => d.parameters.length) = some 1) := ⟨WA_of (i := 1213) (by decide +kernel) (by decide +kernel), kini_CaseManager, by decide +kernel, by decide +kernel, by decide +kernel⟩
theorem ksX9_needDefendant : Cond.static yX9_needDefendant ∈ WA := WA_of (i := 1212) (by decide +kernel) (by decide +kernel)
def mxX9_isDefendant : Nat := 1
theorem kvX9_isDefendant : (Cond.code yX9_isDefendant cX9_isDefendant 1 (some .boolean) ∈ WA) ∧ (Cond.initialized yX9_isDefendant.cls ∈ WA) ∧ (yX9_isDefendant.cls ≠ "java/lang/invoke/MethodHandle" ∧ yX9_isDefendant.cls ≠ "java/lang/invoke/VarHandle" ∧ (parseMethodDescriptor yX9_isDefendant.desc).map (fun d => d.parameters.length) = some 1) := ⟨WA_of (i := 627) (by decide +kernel) (by decide +kernel), kini_CaseManager, by decide +kernel, by decide +kernel, by decide +kernel⟩
theorem ksX9_isDefendant : Cond.static yX9_isDefendant ∈ WA := WA_of (i := 626) (by decide +kernel) (by decide +kernel)
def mxX9_isOffence : Nat := 1
theorem kvX9_isOffence : (Cond.code yX9_isOffence cX9_isOffence 1 (some .boolean) ∈ WA) ∧ (Cond.initialized yX9_isOffence.cls ∈ WA) ∧ (yX9_isOffence.cls ≠ "java/lang/invoke/MethodHandle" ∧ yX9_isOffence.cls ≠ "java/lang/invoke/VarHandle" ∧ (parseMethodDescriptor yX9_isOffence.desc).map (fun d => d.parameters.length) = some 1) := ⟨WA_of (i := 630) (by decide +kernel) (by decide +kernel), kini_CaseManager, by decide +kernel, by decide +kernel, by decide +kernel⟩
theorem ksX9_isOffence : Cond.static yX9_isOffence ∈ WA := WA_of (i := 629) (by decide +kernel) (by decide +kernel)
def mxX9_writeHead : Nat := 2
theorem kvX9_writeHead : (Cond.code yX9_writeHead cX9_writeHead 2 none ∈ WA) ∧ (Cond.initialized yX9_writeHead.cls ∈ WA) ∧ (yX9_writeHead.cls ≠ "java/lang/invoke/MethodHandle" ∧ yX9_writeHead.cls ≠ "java/lang/invoke/VarHandle" ∧ (parseMethodDescriptor yX9_writeHead.desc).map (fun d => d.parameters.length) = some 1) := ⟨WA_of (i := 1535) (by decide +kernel) (by decide +kernel), kini_CaseManager, by decide +kernel, by decide +kernel, by decide +kernel⟩
theorem kiX9_writeHead : (Cond.instanceMethod yX9_writeHead ∈ WA) ∧ (Cond.selects yX9_writeHead.cls yX9_writeHead yX9_writeHead ∈ WA) := ⟨WA_of (i := 1534) (by decide +kernel) (by decide +kernel), WA_of (i := 30) (by decide +kernel) (by decide +kernel)⟩
def mxX9_writeTestimony : Nat := 3
theorem kvX9_writeTestimony : (Cond.code yX9_writeTestimony cX9_writeTestimony 3 none ∈ WA) ∧ (Cond.initialized yX9_writeTestimony.cls ∈ WA) ∧ (yX9_writeTestimony.cls ≠ "java/lang/invoke/MethodHandle" ∧ yX9_writeTestimony.cls ≠ "java/lang/invoke/VarHandle" ∧ (parseMethodDescriptor yX9_writeTestimony.desc).map (fun d => d.parameters.length) = some 2) := ⟨WA_of (i := 1562) (by decide +kernel) (by decide +kernel), kini_CaseManager, by decide +kernel, by decide +kernel, by decide +kernel⟩
theorem kiX9_writeTestimony : (Cond.instanceMethod yX9_writeTestimony ∈ WA) ∧ (Cond.selects yX9_writeTestimony.cls yX9_writeTestimony yX9_writeTestimony ∈ WA) := ⟨WA_of (i := 1561) (by decide +kernel) (by decide +kernel), WA_of (i := 31) (by decide +kernel) (by decide +kernel)⟩
def mxX9_doMarginsAgree : Nat := 2
theorem kvX9_doMarginsAgree : (Cond.code yX9_doMarginsAgree cX9_doMarginsAgree 2 (some .boolean) ∈ WA) ∧ (Cond.initialized yX9_doMarginsAgree.cls ∈ WA) ∧ (yX9_doMarginsAgree.cls ≠ "java/lang/invoke/MethodHandle" ∧ yX9_doMarginsAgree.cls ≠ "java/lang/invoke/VarHandle" ∧ (parseMethodDescriptor yX9_doMarginsAgree.desc).map (fun d => d.parameters.length) = some 0) := ⟨WA_of (i := 464) (by decide +kernel) (by decide +kernel), kini_CaseManager, by decide +kernel, by decide +kernel, by decide +kernel⟩
theorem kiX9_doMarginsAgree : (Cond.instanceMethod yX9_doMarginsAgree ∈ WA) ∧ (Cond.selects yX9_doMarginsAgree.cls yX9_doMarginsAgree yX9_doMarginsAgree ∈ WA) := ⟨WA_of (i := 463) (by decide +kernel) (by decide +kernel), WA_of (i := 0) (by decide +kernel) (by decide +kernel)⟩
def mxX9_doSentencesAgree : Nat := 2
theorem kvX9_doSentencesAgree : (Cond.code yX9_doSentencesAgree cX9_doSentencesAgree 2 (some .boolean) ∈ WA) ∧ (Cond.initialized yX9_doSentencesAgree.cls ∈ WA) ∧ (yX9_doSentencesAgree.cls ≠ "java/lang/invoke/MethodHandle" ∧ yX9_doSentencesAgree.cls ≠ "java/lang/invoke/VarHandle" ∧ (parseMethodDescriptor yX9_doSentencesAgree.desc).map (fun d => d.parameters.length) = some 0) := ⟨WA_of (i := 501) (by decide +kernel) (by decide +kernel), kini_CaseManager, by decide +kernel, by decide +kernel, by decide +kernel⟩
theorem kiX9_doSentencesAgree : (Cond.instanceMethod yX9_doSentencesAgree ∈ WA) ∧ (Cond.selects yX9_doSentencesAgree.cls yX9_doSentencesAgree yX9_doSentencesAgree ∈ WA) := ⟨WA_of (i := 500) (by decide +kernel) (by decide +kernel), WA_of (i := 1) (by decide +kernel) (by decide +kernel)⟩
def mxX9_doConnectionsAgree : Nat := 3
theorem kvX9_doConnectionsAgree : (Cond.code yX9_doConnectionsAgree cX9_doConnectionsAgree 3 (some .boolean) ∈ WA) ∧ (Cond.initialized yX9_doConnectionsAgree.cls ∈ WA) ∧ (yX9_doConnectionsAgree.cls ≠ "java/lang/invoke/MethodHandle" ∧ yX9_doConnectionsAgree.cls ≠ "java/lang/invoke/VarHandle" ∧ (parseMethodDescriptor yX9_doConnectionsAgree.desc).map (fun d => d.parameters.length) = some 0) := ⟨WA_of (i := 510) (by decide +kernel) (by decide +kernel), kini_CaseManager, by decide +kernel, by decide +kernel, by decide +kernel⟩
theorem kiX9_doConnectionsAgree : (Cond.instanceMethod yX9_doConnectionsAgree ∈ WA) ∧ (Cond.selects yX9_doConnectionsAgree.cls yX9_doConnectionsAgree yX9_doConnectionsAgree ∈ WA) := ⟨WA_of (i := 509) (by decide +kernel) (by decide +kernel), WA_of (i := 2) (by decide +kernel) (by decide +kernel)⟩
def mxX9_doesDocketAgree : Nat := 2
theorem kvX9_doesDocketAgree : (Cond.code yX9_doesDocketAgree cX9_doesDocketAgree 2 (some .boolean) ∈ WA) ∧ (Cond.initialized yX9_doesDocketAgree.cls ∈ WA) ∧ (yX9_doesDocketAgree.cls ≠ "java/lang/invoke/MethodHandle" ∧ yX9_doesDocketAgree.cls ≠ "java/lang/invoke/VarHandle" ∧ (parseMethodDescriptor yX9_doesDocketAgree.desc).map (fun d => d.parameters.length) = some 0) := ⟨WA_of (i := 556) (by decide +kernel) (by decide +kernel), kini_CaseManager, by decide +kernel, by decide +kernel, by decide +kernel⟩
theorem kiX9_doesDocketAgree : (Cond.instanceMethod yX9_doesDocketAgree ∈ WA) ∧ (Cond.selects yX9_doesDocketAgree.cls yX9_doesDocketAgree yX9_doesDocketAgree ∈ WA) := ⟨WA_of (i := 555) (by decide +kernel) (by decide +kernel), WA_of (i := 7) (by decide +kernel) (by decide +kernel)⟩
def mxX10_init : Nat := 1
theorem kvX10_init : (Cond.code yX10_init cX10_init 1 none ∈ WA) ∧ (Cond.initialized yX10_init.cls ∈ WA) ∧ (yX10_init.cls ≠ "java/lang/invoke/MethodHandle" ∧ yX10_init.cls ≠ "java/lang/invoke/VarHandle" ∧ (parseMethodDescriptor yX10_init.desc).map (fun d => d.parameters.length) = some 0) := ⟨WA_of (i := 1754) (by decide +kernel) (by decide +kernel), kini_CaseManagerModel, by decide +kernel, by decide +kernel, by decide +kernel⟩
theorem kiiX10_init : Cond.instanceMethod yX10_init ∈ WA := WA_of (i := 1753) (by decide +kernel) (by decide +kernel)
def mxX10_thrown : Nat := 1
theorem kvX10_thrown : (Cond.code yX10_thrown cX10_thrown 1 (some .int) ∈ WA) ∧ (Cond.initialized yX10_thrown.cls ∈ WA) ∧ (yX10_thrown.cls ≠ "java/lang/invoke/MethodHandle" ∧ yX10_thrown.cls ≠ "java/lang/invoke/VarHandle" ∧ (parseMethodDescriptor yX10_thrown.desc).map (fun d => d.parameters.length) = some 0) := ⟨WA_of (i := 1809) (by decide +kernel) (by decide +kernel), kini_CaseManagerModel, by decide +kernel, by decide +kernel, by decide +kernel⟩
theorem kiX10_thrown : (Cond.instanceMethod yX10_thrown ∈ WA) ∧ (Cond.selects yX10_thrown.cls yX10_thrown yX10_thrown ∈ WA) := ⟨WA_of (i := 1807) (by decide +kernel) (by decide +kernel), WA_of (i := 1808) (by decide +kernel) (by decide +kernel)⟩
def mxX10_in : Nat := 3
theorem kvX10_in : (Cond.code yX10_in cX10_in 3 (some .boolean) ∈ WA) ∧ (Cond.initialized yX10_in.cls ∈ WA) ∧ (yX10_in.cls ≠ "java/lang/invoke/MethodHandle" ∧ yX10_in.cls ≠ "java/lang/invoke/VarHandle" ∧ (parseMethodDescriptor yX10_in.desc).map (fun d => d.parameters.length) = some 3) := ⟨WA_of (i := 1831) (by decide +kernel) (by decide +kernel), kini_CaseManagerModel, by decide +kernel, by decide +kernel, by decide +kernel⟩
theorem ksX10_in : Cond.static yX10_in ∈ WA := WA_of (i := 1830) (by decide +kernel) (by decide +kernel)
def mxX10_copies : Nat := 4
theorem kvX10_copies : (Cond.code yX10_copies cX10_copies 4 none ∈ WA) ∧ (Cond.initialized yX10_copies.cls ∈ WA) ∧ (yX10_copies.cls ≠ "java/lang/invoke/MethodHandle" ∧ yX10_copies.cls ≠ "java/lang/invoke/VarHandle" ∧ (parseMethodDescriptor yX10_copies.desc).map (fun d => d.parameters.length) = some 2) := ⟨WA_of (i := 1821) (by decide +kernel) (by decide +kernel), kini_CaseManagerModel, by decide +kernel, by decide +kernel, by decide +kernel⟩
theorem kiX10_copies : (Cond.instanceMethod yX10_copies ∈ WA) ∧ (Cond.selects yX10_copies.cls yX10_copies yX10_copies ∈ WA) := ⟨WA_of (i := 1820) (by decide +kernel) (by decide +kernel), WA_of (i := 44) (by decide +kernel) (by decide +kernel)⟩
def mxX10_begins : Nat := 1
theorem kvX10_begins : (Cond.code yX10_begins cX10_begins 1 none ∈ WA) ∧ (Cond.initialized yX10_begins.cls ∈ WA) ∧ (yX10_begins.cls ≠ "java/lang/invoke/MethodHandle" ∧ yX10_begins.cls ≠ "java/lang/invoke/VarHandle" ∧ (parseMethodDescriptor yX10_begins.desc).map (fun d => d.parameters.length) = some 0) := ⟨WA_of (i := 1817) (by decide +kernel) (by decide +kernel), kini_CaseManagerModel, by decide +kernel, by decide +kernel, by decide +kernel⟩
theorem kiX10_begins : (Cond.instanceMethod yX10_begins ∈ WA) ∧ (Cond.selects yX10_begins.cls yX10_begins yX10_begins ∈ WA) := ⟨WA_of (i := 1816) (by decide +kernel) (by decide +kernel), WA_of (i := 43) (by decide +kernel) (by decide +kernel)⟩
def mxX10_ends : Nat := 7
theorem kvX10_ends : (Cond.code yX10_ends cX10_ends 7 (some .int) ∈ WA) ∧ (Cond.initialized yX10_ends.cls ∈ WA) ∧ (yX10_ends.cls ≠ "java/lang/invoke/MethodHandle" ∧ yX10_ends.cls ≠ "java/lang/invoke/VarHandle" ∧ (parseMethodDescriptor yX10_ends.desc).map (fun d => d.parameters.length) = some 5) := ⟨WA_of (i := 1850) (by decide +kernel) (by decide +kernel), kini_CaseManagerModel, by decide +kernel, by decide +kernel, by decide +kernel⟩
theorem kiX10_ends : (Cond.instanceMethod yX10_ends ∈ WA) ∧ (Cond.selects yX10_ends.cls yX10_ends yX10_ends ∈ WA) := ⟨WA_of (i := 1849) (by decide +kernel) (by decide +kernel), WA_of (i := 49) (by decide +kernel) (by decide +kernel)⟩
def mxX10_isFine : Nat := 2
theorem kvX10_isFine : (Cond.code yX10_isFine cX10_isFine 2 (some .boolean) ∈ WA) ∧ (Cond.initialized yX10_isFine.cls ∈ WA) ∧ (yX10_isFine.cls ≠ "java/lang/invoke/MethodHandle" ∧ yX10_isFine.cls ≠ "java/lang/invoke/VarHandle" ∧ (parseMethodDescriptor yX10_isFine.desc).map (fun d => d.parameters.length) = some 1) := ⟨WA_of (i := 1954) (by decide +kernel) (by decide +kernel), kini_CaseManagerModel, by decide +kernel, by decide +kernel, by decide +kernel⟩
theorem kiX10_isFine : (Cond.instanceMethod yX10_isFine ∈ WA) ∧ (Cond.selects yX10_isFine.cls yX10_isFine yX10_isFine ∈ WA) := ⟨WA_of (i := 1953) (by decide +kernel) (by decide +kernel), WA_of (i := 66) (by decide +kernel) (by decide +kernel)⟩
def mxX10_c : Nat := 3
theorem kvX10_c : (Cond.code yX10_c cX10_c 3 (some .int) ∈ WA) ∧ (Cond.initialized yX10_c.cls ∈ WA) ∧ (yX10_c.cls ≠ "java/lang/invoke/MethodHandle" ∧ yX10_c.cls ≠ "java/lang/invoke/VarHandle" ∧ (parseMethodDescriptor yX10_c.desc).map (fun d => d.parameters.length) = some 2) := ⟨WA_of (i := 1842) (by decide +kernel) (by decide +kernel), kini_CaseManagerModel, by decide +kernel, by decide +kernel, by decide +kernel⟩
theorem kiX10_c : (Cond.instanceMethod yX10_c ∈ WA) ∧ (Cond.selects yX10_c.cls yX10_c yX10_c ∈ WA) := ⟨WA_of (i := 1841) (by decide +kernel) (by decide +kernel), WA_of (i := 47) (by decide +kernel) (by decide +kernel)⟩
def mxX10_set : Nat := 4
theorem kvX10_set : (Cond.code yX10_set cX10_set 4 none ∈ WA) ∧ (Cond.initialized yX10_set.cls ∈ WA) ∧ (yX10_set.cls ≠ "java/lang/invoke/MethodHandle" ∧ yX10_set.cls ≠ "java/lang/invoke/VarHandle" ∧ (parseMethodDescriptor yX10_set.desc).map (fun d => d.parameters.length) = some 3) := ⟨WA_of (i := 1846) (by decide +kernel) (by decide +kernel), kini_CaseManagerModel, by decide +kernel, by decide +kernel, by decide +kernel⟩
theorem kiX10_set : (Cond.instanceMethod yX10_set ∈ WA) ∧ (Cond.selects yX10_set.cls yX10_set yX10_set ∈ WA) := ⟨WA_of (i := 1845) (by decide +kernel) (by decide +kernel), WA_of (i := 48) (by decide +kernel) (by decide +kernel)⟩
def mxX10_t : Nat := 4
theorem kvX10_t : (Cond.code yX10_t cX10_t 4 (some .int) ∈ WA) ∧ (Cond.initialized yX10_t.cls ∈ WA) ∧ (yX10_t.cls ≠ "java/lang/invoke/MethodHandle" ∧ yX10_t.cls ≠ "java/lang/invoke/VarHandle" ∧ (parseMethodDescriptor yX10_t.desc).map (fun d => d.parameters.length) = some 3) := ⟨WA_of (i := 1882) (by decide +kernel) (by decide +kernel), kini_CaseManagerModel, by decide +kernel, by decide +kernel, by decide +kernel⟩
theorem kiX10_t : (Cond.instanceMethod yX10_t ∈ WA) ∧ (Cond.selects yX10_t.cls yX10_t yX10_t ∈ WA) := ⟨WA_of (i := 1881) (by decide +kernel) (by decide +kernel), WA_of (i := 55) (by decide +kernel) (by decide +kernel)⟩
def mxX10_isCase : Nat := 2
theorem kvX10_isCase : (Cond.code yX10_isCase cX10_isCase 2 (some .boolean) ∈ WA) ∧ (Cond.initialized yX10_isCase.cls ∈ WA) ∧ (yX10_isCase.cls ≠ "java/lang/invoke/MethodHandle" ∧ yX10_isCase.cls ≠ "java/lang/invoke/VarHandle" ∧ (parseMethodDescriptor yX10_isCase.desc).map (fun d => d.parameters.length) = some 1) := ⟨WA_of (i := 1870) (by decide +kernel) (by decide +kernel), kini_CaseManagerModel, by decide +kernel, by decide +kernel, by decide +kernel⟩
theorem kiX10_isCase : (Cond.instanceMethod yX10_isCase ∈ WA) ∧ (Cond.selects yX10_isCase.cls yX10_isCase yX10_isCase ∈ WA) := ⟨WA_of (i := 1869) (by decide +kernel) (by decide +kernel), WA_of (i := 52) (by decide +kernel) (by decide +kernel)⟩
def mxX10_isWitness : Nat := 2
theorem kvX10_isWitness : (Cond.code yX10_isWitness cX10_isWitness 2 (some .boolean) ∈ WA) ∧ (Cond.initialized yX10_isWitness.cls ∈ WA) ∧ (yX10_isWitness.cls ≠ "java/lang/invoke/MethodHandle" ∧ yX10_isWitness.cls ≠ "java/lang/invoke/VarHandle" ∧ (parseMethodDescriptor yX10_isWitness.desc).map (fun d => d.parameters.length) = some 1) := ⟨WA_of (i := 1874) (by decide +kernel) (by decide +kernel), kini_CaseManagerModel, by decide +kernel, by decide +kernel, by decide +kernel⟩
theorem kiX10_isWitness : (Cond.instanceMethod yX10_isWitness ∈ WA) ∧ (Cond.selects yX10_isWitness.cls yX10_isWitness yX10_isWitness ∈ WA) := ⟨WA_of (i := 1873) (by decide +kernel) (by decide +kernel), WA_of (i := 53) (by decide +kernel) (by decide +kernel)⟩
def mxX10_spokenBy : Nat := 4
theorem kvX10_spokenBy : (Cond.code yX10_spokenBy cX10_spokenBy 4 (some .int) ∈ WA) ∧ (Cond.initialized yX10_spokenBy.cls ∈ WA) ∧ (yX10_spokenBy.cls ≠ "java/lang/invoke/MethodHandle" ∧ yX10_spokenBy.cls ≠ "java/lang/invoke/VarHandle" ∧ (parseMethodDescriptor yX10_spokenBy.desc).map (fun d => d.parameters.length) = some 2) := ⟨WA_of (i := 1878) (by decide +kernel) (by decide +kernel), kini_CaseManagerModel, by decide +kernel, by decide +kernel, by decide +kernel⟩
theorem kiX10_spokenBy : (Cond.instanceMethod yX10_spokenBy ∈ WA) ∧ (Cond.selects yX10_spokenBy.cls yX10_spokenBy yX10_spokenBy ∈ WA) := ⟨WA_of (i := 1877) (by decide +kernel) (by decide +kernel), WA_of (i := 54) (by decide +kernel) (by decide +kernel)⟩
def mxX10_severity : Nat := 2
theorem kvX10_severity : (Cond.code yX10_severity cX10_severity 2 (some .int) ∈ WA) ∧ (Cond.initialized yX10_severity.cls ∈ WA) ∧ (yX10_severity.cls ≠ "java/lang/invoke/MethodHandle" ∧ yX10_severity.cls ≠ "java/lang/invoke/VarHandle" ∧ (parseMethodDescriptor yX10_severity.desc).map (fun d => d.parameters.length) = some 1) := ⟨WA_of (i := 1914) (by decide +kernel) (by decide +kernel), kini_CaseManagerModel, by decide +kernel, by decide +kernel, by decide +kernel⟩
theorem kiX10_severity : (Cond.instanceMethod yX10_severity ∈ WA) ∧ (Cond.selects yX10_severity.cls yX10_severity yX10_severity ∈ WA) := ⟨WA_of (i := 1913) (by decide +kernel) (by decide +kernel), WA_of (i := 61) (by decide +kernel) (by decide +kernel)⟩
def mxX10_weightAt : Nat := 3
theorem kvX10_weightAt : (Cond.code yX10_weightAt cX10_weightAt 3 (some .int) ∈ WA) ∧ (Cond.initialized yX10_weightAt.cls ∈ WA) ∧ (yX10_weightAt.cls ≠ "java/lang/invoke/MethodHandle" ∧ yX10_weightAt.cls ≠ "java/lang/invoke/VarHandle" ∧ (parseMethodDescriptor yX10_weightAt.desc).map (fun d => d.parameters.length) = some 2) := ⟨WA_of (i := 1910) (by decide +kernel) (by decide +kernel), kini_CaseManagerModel, by decide +kernel, by decide +kernel, by decide +kernel⟩
theorem kiX10_weightAt : (Cond.instanceMethod yX10_weightAt ∈ WA) ∧ (Cond.selects yX10_weightAt.cls yX10_weightAt yX10_weightAt ∈ WA) := ⟨WA_of (i := 1909) (by decide +kernel) (by decide +kernel), WA_of (i := 60) (by decide +kernel) (by decide +kernel)⟩
def mxX10_weightOf : Nat := 5
theorem kvX10_weightOf : (Cond.code yX10_weightOf cX10_weightOf 5 (some .int) ∈ WA) ∧ (Cond.initialized yX10_weightOf.cls ∈ WA) ∧ (yX10_weightOf.cls ≠ "java/lang/invoke/MethodHandle" ∧ yX10_weightOf.cls ≠ "java/lang/invoke/VarHandle" ∧ (parseMethodDescriptor yX10_weightOf.desc).map (fun d => d.parameters.length) = some 2) := ⟨WA_of (i := 1906) (by decide +kernel) (by decide +kernel), kini_CaseManagerModel, by decide +kernel, by decide +kernel, by decide +kernel⟩
theorem kiX10_weightOf : (Cond.instanceMethod yX10_weightOf ∈ WA) ∧ (Cond.selects yX10_weightOf.cls yX10_weightOf yX10_weightOf ∈ WA) := ⟨WA_of (i := 1905) (by decide +kernel) (by decide +kernel), WA_of (i := 59) (by decide +kernel) (by decide +kernel)⟩
def mxX10_marginOf : Nat := 2
theorem kvX10_marginOf : (Cond.code yX10_marginOf cX10_marginOf 2 (some .int) ∈ WA) ∧ (Cond.initialized yX10_marginOf.cls ∈ WA) ∧ (yX10_marginOf.cls ≠ "java/lang/invoke/MethodHandle" ∧ yX10_marginOf.cls ≠ "java/lang/invoke/VarHandle" ∧ (parseMethodDescriptor yX10_marginOf.desc).map (fun d => d.parameters.length) = some 1) := ⟨WA_of (i := 1902) (by decide +kernel) (by decide +kernel), kini_CaseManagerModel, by decide +kernel, by decide +kernel, by decide +kernel⟩
theorem kiX10_marginOf : (Cond.instanceMethod yX10_marginOf ∈ WA) ∧ (Cond.selects yX10_marginOf.cls yX10_marginOf yX10_marginOf ∈ WA) := ⟨WA_of (i := 1901) (by decide +kernel) (by decide +kernel), WA_of (i := 58) (by decide +kernel) (by decide +kernel)⟩
def mxX10_findCase : Nat := 4
theorem kvX10_findCase : (Cond.code yX10_findCase cX10_findCase 4 (some .int) ∈ WA) ∧ (Cond.initialized yX10_findCase.cls ∈ WA) ∧ (yX10_findCase.cls ≠ "java/lang/invoke/MethodHandle" ∧ yX10_findCase.cls ≠ "java/lang/invoke/VarHandle" ∧ (parseMethodDescriptor yX10_findCase.desc).map (fun d => d.parameters.length) = some 2) := ⟨WA_of (i := 1838) (by decide +kernel) (by decide +kernel), kini_CaseManagerModel, by decide +kernel, by decide +kernel, by decide +kernel⟩
theorem kiX10_findCase : (Cond.instanceMethod yX10_findCase ∈ WA) ∧ (Cond.selects yX10_findCase.cls yX10_findCase yX10_findCase ∈ WA) := ⟨WA_of (i := 1837) (by decide +kernel) (by decide +kernel), WA_of (i := 46) (by decide +kernel) (by decide +kernel)⟩
def mxX10_isDefendant : Nat := 1
theorem kvX10_isDefendant : (Cond.code yX10_isDefendant cX10_isDefendant 1 (some .boolean) ∈ WA) ∧ (Cond.initialized yX10_isDefendant.cls ∈ WA) ∧ (yX10_isDefendant.cls ≠ "java/lang/invoke/MethodHandle" ∧ yX10_isDefendant.cls ≠ "java/lang/invoke/VarHandle" ∧ (parseMethodDescriptor yX10_isDefendant.desc).map (fun d => d.parameters.length) = some 1) := ⟨WA_of (i := 1828) (by decide +kernel) (by decide +kernel), kini_CaseManagerModel, by decide +kernel, by decide +kernel, by decide +kernel⟩
theorem ksX10_isDefendant : Cond.static yX10_isDefendant ∈ WA := WA_of (i := 1827) (by decide +kernel) (by decide +kernel)
def mxX10_isOffence : Nat := 1
theorem kvX10_isOffence : (Cond.code yX10_isOffence cX10_isOffence 1 (some .boolean) ∈ WA) ∧ (Cond.initialized yX10_isOffence.cls ∈ WA) ∧ (yX10_isOffence.cls ≠ "java/lang/invoke/MethodHandle" ∧ yX10_isOffence.cls ≠ "java/lang/invoke/VarHandle" ∧ (parseMethodDescriptor yX10_isOffence.desc).map (fun d => d.parameters.length) = some 1) := ⟨WA_of (i := 1834) (by decide +kernel) (by decide +kernel), kini_CaseManagerModel, by decide +kernel, by decide +kernel, by decide +kernel⟩
theorem ksX10_isOffence : Cond.static yX10_isOffence ∈ WA := WA_of (i := 1833) (by decide +kernel) (by decide +kernel)
def mxX10_charges : Nat := 5
theorem kvX10_charges : (Cond.code yX10_charges cX10_charges 5 (some .int) ∈ WA) ∧ (Cond.initialized yX10_charges.cls ∈ WA) ∧ (yX10_charges.cls ≠ "java/lang/invoke/MethodHandle" ∧ yX10_charges.cls ≠ "java/lang/invoke/VarHandle" ∧ (parseMethodDescriptor yX10_charges.desc).map (fun d => d.parameters.length) = some 2) := ⟨WA_of (i := 1825) (by decide +kernel) (by decide +kernel), kini_CaseManagerModel, by decide +kernel, by decide +kernel, by decide +kernel⟩
theorem kiX10_charges : (Cond.instanceMethod yX10_charges ∈ WA) ∧ (Cond.selects yX10_charges.cls yX10_charges yX10_charges ∈ WA) := ⟨WA_of (i := 1824) (by decide +kernel) (by decide +kernel), WA_of (i := 45) (by decide +kernel) (by decide +kernel)⟩
def mxX10_charge : Nat := 3
theorem kvX10_charge : (Cond.code yX10_charge cX10_charge 3 (some .int) ∈ WA) ∧ (Cond.initialized yX10_charge.cls ∈ WA) ∧ (yX10_charge.cls ≠ "java/lang/invoke/MethodHandle" ∧ yX10_charge.cls ≠ "java/lang/invoke/VarHandle" ∧ (parseMethodDescriptor yX10_charge.desc).map (fun d => d.parameters.length) = some 2) := ⟨WA_of (i := 1813) (by decide +kernel) (by decide +kernel), kini_CaseManagerModel, by decide +kernel, by decide +kernel, by decide +kernel⟩
theorem kiX10_charge : (Cond.instanceMethod yX10_charge ∈ WA) ∧ (Cond.selects yX10_charge.cls yX10_charge yX10_charge ∈ WA) := ⟨WA_of (i := 1811) (by decide +kernel) (by decide +kernel), WA_of (i := 1812) (by decide +kernel) (by decide +kernel)⟩
def mxX10_registers : Nat := 2
theorem kvX10_registers : (Cond.code yX10_registers cX10_registers 2 (some .int) ∈ WA) ∧ (Cond.initialized yX10_registers.cls ∈ WA) ∧ (yX10_registers.cls ≠ "java/lang/invoke/MethodHandle" ∧ yX10_registers.cls ≠ "java/lang/invoke/VarHandle" ∧ (parseMethodDescriptor yX10_registers.desc).map (fun d => d.parameters.length) = some 1) := ⟨WA_of (i := 1858) (by decide +kernel) (by decide +kernel), kini_CaseManagerModel, by decide +kernel, by decide +kernel, by decide +kernel⟩
theorem kiX10_registers : (Cond.instanceMethod yX10_registers ∈ WA) ∧ (Cond.selects yX10_registers.cls yX10_registers yX10_registers ∈ WA) := ⟨WA_of (i := 1857) (by decide +kernel) (by decide +kernel), WA_of (i := 50) (by decide +kernel) (by decide +kernel)⟩
def mxX10_addWitness : Nat := 2
theorem kvX10_addWitness : (Cond.code yX10_addWitness cX10_addWitness 2 (some .int) ∈ WA) ∧ (Cond.initialized yX10_addWitness.cls ∈ WA) ∧ (yX10_addWitness.cls ≠ "java/lang/invoke/MethodHandle" ∧ yX10_addWitness.cls ≠ "java/lang/invoke/VarHandle" ∧ (parseMethodDescriptor yX10_addWitness.desc).map (fun d => d.parameters.length) = some 1) := ⟨WA_of (i := 1854) (by decide +kernel) (by decide +kernel), kini_CaseManagerModel, by decide +kernel, by decide +kernel, by decide +kernel⟩
theorem kiX10_addWitness : (Cond.instanceMethod yX10_addWitness ∈ WA) ∧ (Cond.selects yX10_addWitness.cls yX10_addWitness yX10_addWitness ∈ WA) := ⟨WA_of (i := 1852) (by decide +kernel) (by decide +kernel), WA_of (i := 1853) (by decide +kernel) (by decide +kernel)⟩
def mxX10_testifies : Nat := 6
theorem kvX10_testifies : (Cond.code yX10_testifies cX10_testifies 6 (some .int) ∈ WA) ∧ (Cond.initialized yX10_testifies.cls ∈ WA) ∧ (yX10_testifies.cls ≠ "java/lang/invoke/MethodHandle" ∧ yX10_testifies.cls ≠ "java/lang/invoke/VarHandle" ∧ (parseMethodDescriptor yX10_testifies.desc).map (fun d => d.parameters.length) = some 4) := ⟨WA_of (i := 1866) (by decide +kernel) (by decide +kernel), kini_CaseManagerModel, by decide +kernel, by decide +kernel, by decide +kernel⟩
theorem kiX10_testifies : (Cond.instanceMethod yX10_testifies ∈ WA) ∧ (Cond.selects yX10_testifies.cls yX10_testifies yX10_testifies ∈ WA) := ⟨WA_of (i := 1865) (by decide +kernel) (by decide +kernel), WA_of (i := 51) (by decide +kernel) (by decide +kernel)⟩
def mxX10_testify : Nat := 5
theorem kvX10_testify : (Cond.code yX10_testify cX10_testify 5 (some .int) ∈ WA) ∧ (Cond.initialized yX10_testify.cls ∈ WA) ∧ (yX10_testify.cls ≠ "java/lang/invoke/MethodHandle" ∧ yX10_testify.cls ≠ "java/lang/invoke/VarHandle" ∧ (parseMethodDescriptor yX10_testify.desc).map (fun d => d.parameters.length) = some 4) := ⟨WA_of (i := 1862) (by decide +kernel) (by decide +kernel), kini_CaseManagerModel, by decide +kernel, by decide +kernel, by decide +kernel⟩
theorem kiX10_testify : (Cond.instanceMethod yX10_testify ∈ WA) ∧ (Cond.selects yX10_testify.cls yX10_testify yX10_testify ∈ WA) := ⟨WA_of (i := 1860) (by decide +kernel) (by decide +kernel), WA_of (i := 1861) (by decide +kernel) (by decide +kernel)⟩
def mxX10_asks : Nat := 6
theorem kvX10_asks : (Cond.code yX10_asks cX10_asks 6 (some .int) ∈ WA) ∧ (Cond.initialized yX10_asks.cls ∈ WA) ∧ (yX10_asks.cls ≠ "java/lang/invoke/MethodHandle" ∧ yX10_asks.cls ≠ "java/lang/invoke/VarHandle" ∧ (parseMethodDescriptor yX10_asks.desc).map (fun d => d.parameters.length) = some 3) := ⟨WA_of (i := 1890) (by decide +kernel) (by decide +kernel), kini_CaseManagerModel, by decide +kernel, by decide +kernel, by decide +kernel⟩
theorem kiX10_asks : (Cond.instanceMethod yX10_asks ∈ WA) ∧ (Cond.selects yX10_asks.cls yX10_asks yX10_asks ∈ WA) := ⟨WA_of (i := 1889) (by decide +kernel) (by decide +kernel), WA_of (i := 56) (by decide +kernel) (by decide +kernel)⟩
def mxX10_question : Nat := 4
theorem kvX10_question : (Cond.code yX10_question cX10_question 4 (some .int) ∈ WA) ∧ (Cond.initialized yX10_question.cls ∈ WA) ∧ (yX10_question.cls ≠ "java/lang/invoke/MethodHandle" ∧ yX10_question.cls ≠ "java/lang/invoke/VarHandle" ∧ (parseMethodDescriptor yX10_question.desc).map (fun d => d.parameters.length) = some 3) := ⟨WA_of (i := 1886) (by decide +kernel) (by decide +kernel), kini_CaseManagerModel, by decide +kernel, by decide +kernel, by decide +kernel⟩
theorem kiX10_question : (Cond.instanceMethod yX10_question ∈ WA) ∧ (Cond.selects yX10_question.cls yX10_question yX10_question ∈ WA) := ⟨WA_of (i := 1884) (by decide +kernel) (by decide +kernel), WA_of (i := 1885) (by decide +kernel) (by decide +kernel)⟩
def mxX10_decides : Nat := 2
theorem kvX10_decides : (Cond.code yX10_decides cX10_decides 2 (some .int) ∈ WA) ∧ (Cond.initialized yX10_decides.cls ∈ WA) ∧ (yX10_decides.cls ≠ "java/lang/invoke/MethodHandle" ∧ yX10_decides.cls ≠ "java/lang/invoke/VarHandle" ∧ (parseMethodDescriptor yX10_decides.desc).map (fun d => d.parameters.length) = some 1) := ⟨WA_of (i := 1898) (by decide +kernel) (by decide +kernel), kini_CaseManagerModel, by decide +kernel, by decide +kernel, by decide +kernel⟩
theorem kiX10_decides : (Cond.instanceMethod yX10_decides ∈ WA) ∧ (Cond.selects yX10_decides.cls yX10_decides yX10_decides ∈ WA) := ⟨WA_of (i := 1897) (by decide +kernel) (by decide +kernel), WA_of (i := 57) (by decide +kernel) (by decide +kernel)⟩
def mxX10_decide : Nat := 2
theorem kvX10_decide : (Cond.code yX10_decide cX10_decide 2 (some .boolean) ∈ WA) ∧ (Cond.initialized yX10_decide.cls ∈ WA) ∧ (yX10_decide.cls ≠ "java/lang/invoke/MethodHandle" ∧ yX10_decide.cls ≠ "java/lang/invoke/VarHandle" ∧ (parseMethodDescriptor yX10_decide.desc).map (fun d => d.parameters.length) = some 1) := ⟨WA_of (i := 1894) (by decide +kernel) (by decide +kernel), kini_CaseManagerModel, by decide +kernel, by decide +kernel, by decide +kernel⟩
theorem kiX10_decide : (Cond.instanceMethod yX10_decide ∈ WA) ∧ (Cond.selects yX10_decide.cls yX10_decide yX10_decide ∈ WA) := ⟨WA_of (i := 1892) (by decide +kernel) (by decide +kernel), WA_of (i := 1893) (by decide +kernel) (by decide +kernel)⟩
def mxX10_appeals : Nat := 2
theorem kvX10_appeals : (Cond.code yX10_appeals cX10_appeals 2 (some .int) ∈ WA) ∧ (Cond.initialized yX10_appeals.cls ∈ WA) ∧ (yX10_appeals.cls ≠ "java/lang/invoke/MethodHandle" ∧ yX10_appeals.cls ≠ "java/lang/invoke/VarHandle" ∧ (parseMethodDescriptor yX10_appeals.desc).map (fun d => d.parameters.length) = some 1) := ⟨WA_of (i := 1922) (by decide +kernel) (by decide +kernel), kini_CaseManagerModel, by decide +kernel, by decide +kernel, by decide +kernel⟩
theorem kiX10_appeals : (Cond.instanceMethod yX10_appeals ∈ WA) ∧ (Cond.selects yX10_appeals.cls yX10_appeals yX10_appeals ∈ WA) := ⟨WA_of (i := 1921) (by decide +kernel) (by decide +kernel), WA_of (i := 62) (by decide +kernel) (by decide +kernel)⟩
def mxX10_appeal : Nat := 2
theorem kvX10_appeal : (Cond.code yX10_appeal cX10_appeal 2 (some .int) ∈ WA) ∧ (Cond.initialized yX10_appeal.cls ∈ WA) ∧ (yX10_appeal.cls ≠ "java/lang/invoke/MethodHandle" ∧ yX10_appeal.cls ≠ "java/lang/invoke/VarHandle" ∧ (parseMethodDescriptor yX10_appeal.desc).map (fun d => d.parameters.length) = some 1) := ⟨WA_of (i := 1918) (by decide +kernel) (by decide +kernel), kini_CaseManagerModel, by decide +kernel, by decide +kernel, by decide +kernel⟩
theorem kiX10_appeal : (Cond.instanceMethod yX10_appeal ∈ WA) ∧ (Cond.selects yX10_appeal.cls yX10_appeal yX10_appeal ∈ WA) := ⟨WA_of (i := 1916) (by decide +kernel) (by decide +kernel), WA_of (i := 1917) (by decide +kernel) (by decide +kernel)⟩
def mxX10_inPhase : Nat := 5
theorem kvX10_inPhase : (Cond.code yX10_inPhase cX10_inPhase 5 (some .int) ∈ WA) ∧ (Cond.initialized yX10_inPhase.cls ∈ WA) ∧ (yX10_inPhase.cls ≠ "java/lang/invoke/MethodHandle" ∧ yX10_inPhase.cls ≠ "java/lang/invoke/VarHandle" ∧ (parseMethodDescriptor yX10_inPhase.desc).map (fun d => d.parameters.length) = some 2) := ⟨WA_of (i := 1934) (by decide +kernel) (by decide +kernel), kini_CaseManagerModel, by decide +kernel, by decide +kernel, by decide +kernel⟩
theorem kiX10_inPhase : (Cond.instanceMethod yX10_inPhase ∈ WA) ∧ (Cond.selects yX10_inPhase.cls yX10_inPhase yX10_inPhase ∈ WA) := ⟨WA_of (i := 1933) (by decide +kernel) (by decide +kernel), WA_of (i := 64) (by decide +kernel) (by decide +kernel)⟩
def mxX10_closes : Nat := 2
theorem kvX10_closes : (Cond.code yX10_closes cX10_closes 2 (some .int) ∈ WA) ∧ (Cond.initialized yX10_closes.cls ∈ WA) ∧ (yX10_closes.cls ≠ "java/lang/invoke/MethodHandle" ∧ yX10_closes.cls ≠ "java/lang/invoke/VarHandle" ∧ (parseMethodDescriptor yX10_closes.desc).map (fun d => d.parameters.length) = some 1) := ⟨WA_of (i := 1930) (by decide +kernel) (by decide +kernel), kini_CaseManagerModel, by decide +kernel, by decide +kernel, by decide +kernel⟩
theorem kiX10_closes : (Cond.instanceMethod yX10_closes ∈ WA) ∧ (Cond.selects yX10_closes.cls yX10_closes yX10_closes ∈ WA) := ⟨WA_of (i := 1929) (by decide +kernel) (by decide +kernel), WA_of (i := 63) (by decide +kernel) (by decide +kernel)⟩
def mxX10_close : Nat := 2
theorem kvX10_close : (Cond.code yX10_close cX10_close 2 (some .int) ∈ WA) ∧ (Cond.initialized yX10_close.cls ∈ WA) ∧ (yX10_close.cls ≠ "java/lang/invoke/MethodHandle" ∧ yX10_close.cls ≠ "java/lang/invoke/VarHandle" ∧ (parseMethodDescriptor yX10_close.desc).map (fun d => d.parameters.length) = some 1) := ⟨WA_of (i := 1926) (by decide +kernel) (by decide +kernel), kini_CaseManagerModel, by decide +kernel, by decide +kernel, by decide +kernel⟩
theorem kiX10_close : (Cond.instanceMethod yX10_close ∈ WA) ∧ (Cond.selects yX10_close.cls yX10_close yX10_close ∈ WA) := ⟨WA_of (i := 1924) (by decide +kernel) (by decide +kernel), WA_of (i := 1925) (by decide +kernel) (by decide +kernel)⟩
def mxX10_caseCount : Nat := 1
theorem kvX10_caseCount : (Cond.code yX10_caseCount cX10_caseCount 1 (some .int) ∈ WA) ∧ (Cond.initialized yX10_caseCount.cls ∈ WA) ∧ (yX10_caseCount.cls ≠ "java/lang/invoke/MethodHandle" ∧ yX10_caseCount.cls ≠ "java/lang/invoke/VarHandle" ∧ (parseMethodDescriptor yX10_caseCount.desc).map (fun d => d.parameters.length) = some 0) := ⟨WA_of (i := 1938) (by decide +kernel) (by decide +kernel), kini_CaseManagerModel, by decide +kernel, by decide +kernel, by decide +kernel⟩
theorem kiX10_caseCount : (Cond.instanceMethod yX10_caseCount ∈ WA) ∧ (Cond.selects yX10_caseCount.cls yX10_caseCount yX10_caseCount ∈ WA) := ⟨WA_of (i := 1936) (by decide +kernel) (by decide +kernel), WA_of (i := 1937) (by decide +kernel) (by decide +kernel)⟩
def mxX10_caseOf : Nat := 4
theorem kvX10_caseOf : (Cond.code yX10_caseOf cX10_caseOf 4 (some .int) ∈ WA) ∧ (Cond.initialized yX10_caseOf.cls ∈ WA) ∧ (yX10_caseOf.cls ≠ "java/lang/invoke/MethodHandle" ∧ yX10_caseOf.cls ≠ "java/lang/invoke/VarHandle" ∧ (parseMethodDescriptor yX10_caseOf.desc).map (fun d => d.parameters.length) = some 2) := ⟨WA_of (i := 1942) (by decide +kernel) (by decide +kernel), kini_CaseManagerModel, by decide +kernel, by decide +kernel, by decide +kernel⟩
theorem kiX10_caseOf : (Cond.instanceMethod yX10_caseOf ∈ WA) ∧ (Cond.selects yX10_caseOf.cls yX10_caseOf yX10_caseOf ∈ WA) := ⟨WA_of (i := 1940) (by decide +kernel) (by decide +kernel), WA_of (i := 1941) (by decide +kernel) (by decide +kernel)⟩
def mxX10_ofCase : Nat := 3
theorem kvX10_ofCase : (Cond.code yX10_ofCase cX10_ofCase 3 (some .int) ∈ WA) ∧ (Cond.initialized yX10_ofCase.cls ∈ WA) ∧ (yX10_ofCase.cls ≠ "java/lang/invoke/MethodHandle" ∧ yX10_ofCase.cls ≠ "java/lang/invoke/VarHandle" ∧ (parseMethodDescriptor yX10_ofCase.desc).map (fun d => d.parameters.length) = some 2) := ⟨WA_of (i := 1950) (by decide +kernel) (by decide +kernel), kini_CaseManagerModel, by decide +kernel, by decide +kernel, by decide +kernel⟩
theorem kiX10_ofCase : (Cond.instanceMethod yX10_ofCase ∈ WA) ∧ (Cond.selects yX10_ofCase.cls yX10_ofCase yX10_ofCase ∈ WA) := ⟨WA_of (i := 1949) (by decide +kernel) (by decide +kernel), WA_of (i := 65) (by decide +kernel) (by decide +kernel)⟩
def mxX10_defendantOf : Nat := 2
theorem kvX10_defendantOf : (Cond.code yX10_defendantOf cX10_defendantOf 2 (some .int) ∈ WA) ∧ (Cond.initialized yX10_defendantOf.cls ∈ WA) ∧ (yX10_defendantOf.cls ≠ "java/lang/invoke/MethodHandle" ∧ yX10_defendantOf.cls ≠ "java/lang/invoke/VarHandle" ∧ (parseMethodDescriptor yX10_defendantOf.desc).map (fun d => d.parameters.length) = some 1) := ⟨WA_of (i := 1946) (by decide +kernel) (by decide +kernel), kini_CaseManagerModel, by decide +kernel, by decide +kernel, by decide +kernel⟩
theorem kiX10_defendantOf : (Cond.instanceMethod yX10_defendantOf ∈ WA) ∧ (Cond.selects yX10_defendantOf.cls yX10_defendantOf yX10_defendantOf ∈ WA) := ⟨WA_of (i := 1944) (by decide +kernel) (by decide +kernel), WA_of (i := 1945) (by decide +kernel) (by decide +kernel)⟩
def mxX10_offenceOf : Nat := 2
theorem kvX10_offenceOf : (Cond.code yX10_offenceOf cX10_offenceOf 2 (some .int) ∈ WA) ∧ (Cond.initialized yX10_offenceOf.cls ∈ WA) ∧ (yX10_offenceOf.cls ≠ "java/lang/invoke/MethodHandle" ∧ yX10_offenceOf.cls ≠ "java/lang/invoke/VarHandle" ∧ (parseMethodDescriptor yX10_offenceOf.desc).map (fun d => d.parameters.length) = some 1) := ⟨WA_of (i := 1958) (by decide +kernel) (by decide +kernel), kini_CaseManagerModel, by decide +kernel, by decide +kernel, by decide +kernel⟩
theorem kiX10_offenceOf : (Cond.instanceMethod yX10_offenceOf ∈ WA) ∧ (Cond.selects yX10_offenceOf.cls yX10_offenceOf yX10_offenceOf ∈ WA) := ⟨WA_of (i := 1956) (by decide +kernel) (by decide +kernel), WA_of (i := 1957) (by decide +kernel) (by decide +kernel)⟩
def mxX10_isOpen : Nat := 2
theorem kvX10_isOpen : (Cond.code yX10_isOpen cX10_isOpen 2 (some .boolean) ∈ WA) ∧ (Cond.initialized yX10_isOpen.cls ∈ WA) ∧ (yX10_isOpen.cls ≠ "java/lang/invoke/MethodHandle" ∧ yX10_isOpen.cls ≠ "java/lang/invoke/VarHandle" ∧ (parseMethodDescriptor yX10_isOpen.desc).map (fun d => d.parameters.length) = some 1) := ⟨WA_of (i := 1962) (by decide +kernel) (by decide +kernel), kini_CaseManagerModel, by decide +kernel, by decide +kernel, by decide +kernel⟩
theorem kiX10_isOpen : (Cond.instanceMethod yX10_isOpen ∈ WA) ∧ (Cond.selects yX10_isOpen.cls yX10_isOpen yX10_isOpen ∈ WA) := ⟨WA_of (i := 1960) (by decide +kernel) (by decide +kernel), WA_of (i := 1961) (by decide +kernel) (by decide +kernel)⟩
def mxX10_isDecided : Nat := 2
theorem kvX10_isDecided : (Cond.code yX10_isDecided cX10_isDecided 2 (some .boolean) ∈ WA) ∧ (Cond.initialized yX10_isDecided.cls ∈ WA) ∧ (yX10_isDecided.cls ≠ "java/lang/invoke/MethodHandle" ∧ yX10_isDecided.cls ≠ "java/lang/invoke/VarHandle" ∧ (parseMethodDescriptor yX10_isDecided.desc).map (fun d => d.parameters.length) = some 1) := ⟨WA_of (i := 1966) (by decide +kernel) (by decide +kernel), kini_CaseManagerModel, by decide +kernel, by decide +kernel, by decide +kernel⟩
theorem kiX10_isDecided : (Cond.instanceMethod yX10_isDecided ∈ WA) ∧ (Cond.selects yX10_isDecided.cls yX10_isDecided yX10_isDecided ∈ WA) := ⟨WA_of (i := 1964) (by decide +kernel) (by decide +kernel), WA_of (i := 1965) (by decide +kernel) (by decide +kernel)⟩
def mxX10_isClosed : Nat := 2
theorem kvX10_isClosed : (Cond.code yX10_isClosed cX10_isClosed 2 (some .boolean) ∈ WA) ∧ (Cond.initialized yX10_isClosed.cls ∈ WA) ∧ (yX10_isClosed.cls ≠ "java/lang/invoke/MethodHandle" ∧ yX10_isClosed.cls ≠ "java/lang/invoke/VarHandle" ∧ (parseMethodDescriptor yX10_isClosed.desc).map (fun d => d.parameters.length) = some 1) := ⟨WA_of (i := 1970) (by decide +kernel) (by decide +kernel), kini_CaseManagerModel, by decide +kernel, by decide +kernel, by decide +kernel⟩
theorem kiX10_isClosed : (Cond.instanceMethod yX10_isClosed ∈ WA) ∧ (Cond.selects yX10_isClosed.cls yX10_isClosed yX10_isClosed ∈ WA) := ⟨WA_of (i := 1968) (by decide +kernel) (by decide +kernel), WA_of (i := 1969) (by decide +kernel) (by decide +kernel)⟩
def mxX10_isGuilty : Nat := 2
theorem kvX10_isGuilty : (Cond.code yX10_isGuilty cX10_isGuilty 2 (some .boolean) ∈ WA) ∧ (Cond.initialized yX10_isGuilty.cls ∈ WA) ∧ (yX10_isGuilty.cls ≠ "java/lang/invoke/MethodHandle" ∧ yX10_isGuilty.cls ≠ "java/lang/invoke/VarHandle" ∧ (parseMethodDescriptor yX10_isGuilty.desc).map (fun d => d.parameters.length) = some 1) := ⟨WA_of (i := 1974) (by decide +kernel) (by decide +kernel), kini_CaseManagerModel, by decide +kernel, by decide +kernel, by decide +kernel⟩
theorem kiX10_isGuilty : (Cond.instanceMethod yX10_isGuilty ∈ WA) ∧ (Cond.selects yX10_isGuilty.cls yX10_isGuilty yX10_isGuilty ∈ WA) := ⟨WA_of (i := 1972) (by decide +kernel) (by decide +kernel), WA_of (i := 1973) (by decide +kernel) (by decide +kernel)⟩
def mxX10_appealCount : Nat := 2
theorem kvX10_appealCount : (Cond.code yX10_appealCount cX10_appealCount 2 (some .int) ∈ WA) ∧ (Cond.initialized yX10_appealCount.cls ∈ WA) ∧ (yX10_appealCount.cls ≠ "java/lang/invoke/MethodHandle" ∧ yX10_appealCount.cls ≠ "java/lang/invoke/VarHandle" ∧ (parseMethodDescriptor yX10_appealCount.desc).map (fun d => d.parameters.length) = some 1) := ⟨WA_of (i := 1978) (by decide +kernel) (by decide +kernel), kini_CaseManagerModel, by decide +kernel, by decide +kernel, by decide +kernel⟩
theorem kiX10_appealCount : (Cond.instanceMethod yX10_appealCount ∈ WA) ∧ (Cond.selects yX10_appealCount.cls yX10_appealCount yX10_appealCount ∈ WA) := ⟨WA_of (i := 1976) (by decide +kernel) (by decide +kernel), WA_of (i := 1977) (by decide +kernel) (by decide +kernel)⟩
def mxX10_testimonyCount : Nat := 2
theorem kvX10_testimonyCount : (Cond.code yX10_testimonyCount cX10_testimonyCount 2 (some .int) ∈ WA) ∧ (Cond.initialized yX10_testimonyCount.cls ∈ WA) ∧ (yX10_testimonyCount.cls ≠ "java/lang/invoke/MethodHandle" ∧ yX10_testimonyCount.cls ≠ "java/lang/invoke/VarHandle" ∧ (parseMethodDescriptor yX10_testimonyCount.desc).map (fun d => d.parameters.length) = some 1) := ⟨WA_of (i := 1982) (by decide +kernel) (by decide +kernel), kini_CaseManagerModel, by decide +kernel, by decide +kernel, by decide +kernel⟩
theorem kiX10_testimonyCount : (Cond.instanceMethod yX10_testimonyCount ∈ WA) ∧ (Cond.selects yX10_testimonyCount.cls yX10_testimonyCount yX10_testimonyCount ∈ WA) := ⟨WA_of (i := 1980) (by decide +kernel) (by decide +kernel), WA_of (i := 1981) (by decide +kernel) (by decide +kernel)⟩
def mxX10_witnessAt : Nat := 3
theorem kvX10_witnessAt : (Cond.code yX10_witnessAt cX10_witnessAt 3 (some .int) ∈ WA) ∧ (Cond.initialized yX10_witnessAt.cls ∈ WA) ∧ (yX10_witnessAt.cls ≠ "java/lang/invoke/MethodHandle" ∧ yX10_witnessAt.cls ≠ "java/lang/invoke/VarHandle" ∧ (parseMethodDescriptor yX10_witnessAt.desc).map (fun d => d.parameters.length) = some 2) := ⟨WA_of (i := 1986) (by decide +kernel) (by decide +kernel), kini_CaseManagerModel, by decide +kernel, by decide +kernel, by decide +kernel⟩
theorem kiX10_witnessAt : (Cond.instanceMethod yX10_witnessAt ∈ WA) ∧ (Cond.selects yX10_witnessAt.cls yX10_witnessAt yX10_witnessAt ∈ WA) := ⟨WA_of (i := 1984) (by decide +kernel) (by decide +kernel), WA_of (i := 1985) (by decide +kernel) (by decide +kernel)⟩
def mxX10_hasTestified : Nat := 3
theorem kvX10_hasTestified : (Cond.code yX10_hasTestified cX10_hasTestified 3 (some .boolean) ∈ WA) ∧ (Cond.initialized yX10_hasTestified.cls ∈ WA) ∧ (yX10_hasTestified.cls ≠ "java/lang/invoke/MethodHandle" ∧ yX10_hasTestified.cls ≠ "java/lang/invoke/VarHandle" ∧ (parseMethodDescriptor yX10_hasTestified.desc).map (fun d => d.parameters.length) = some 2) := ⟨WA_of (i := 1990) (by decide +kernel) (by decide +kernel), kini_CaseManagerModel, by decide +kernel, by decide +kernel, by decide +kernel⟩
theorem kiX10_hasTestified : (Cond.instanceMethod yX10_hasTestified ∈ WA) ∧ (Cond.selects yX10_hasTestified.cls yX10_hasTestified yX10_hasTestified ∈ WA) := ⟨WA_of (i := 1988) (by decide +kernel) (by decide +kernel), WA_of (i := 1989) (by decide +kernel) (by decide +kernel)⟩
def mxX10_ofTestimony : Nat := 4
theorem kvX10_ofTestimony : (Cond.code yX10_ofTestimony cX10_ofTestimony 4 (some .int) ∈ WA) ∧ (Cond.initialized yX10_ofTestimony.cls ∈ WA) ∧ (yX10_ofTestimony.cls ≠ "java/lang/invoke/MethodHandle" ∧ yX10_ofTestimony.cls ≠ "java/lang/invoke/VarHandle" ∧ (parseMethodDescriptor yX10_ofTestimony.desc).map (fun d => d.parameters.length) = some 3) := ⟨WA_of (i := 1998) (by decide +kernel) (by decide +kernel), kini_CaseManagerModel, by decide +kernel, by decide +kernel, by decide +kernel⟩
theorem kiX10_ofTestimony : (Cond.instanceMethod yX10_ofTestimony ∈ WA) ∧ (Cond.selects yX10_ofTestimony.cls yX10_ofTestimony yX10_ofTestimony ∈ WA) := ⟨WA_of (i := 1997) (by decide +kernel) (by decide +kernel), WA_of (i := 67) (by decide +kernel) (by decide +kernel)⟩
def mxX10_isForProsecution : Nat := 3
theorem kvX10_isForProsecution : (Cond.code yX10_isForProsecution cX10_isForProsecution 3 (some .boolean) ∈ WA) ∧ (Cond.initialized yX10_isForProsecution.cls ∈ WA) ∧ (yX10_isForProsecution.cls ≠ "java/lang/invoke/MethodHandle" ∧ yX10_isForProsecution.cls ≠ "java/lang/invoke/VarHandle" ∧ (parseMethodDescriptor yX10_isForProsecution.desc).map (fun d => d.parameters.length) = some 2) := ⟨WA_of (i := 1994) (by decide +kernel) (by decide +kernel), kini_CaseManagerModel, by decide +kernel, by decide +kernel, by decide +kernel⟩
theorem kiX10_isForProsecution : (Cond.instanceMethod yX10_isForProsecution ∈ WA) ∧ (Cond.selects yX10_isForProsecution.cls yX10_isForProsecution yX10_isForProsecution ∈ WA) := ⟨WA_of (i := 1992) (by decide +kernel) (by decide +kernel), WA_of (i := 1993) (by decide +kernel) (by decide +kernel)⟩
def mxX10_strength : Nat := 3
theorem kvX10_strength : (Cond.code yX10_strength cX10_strength 3 (some .int) ∈ WA) ∧ (Cond.initialized yX10_strength.cls ∈ WA) ∧ (yX10_strength.cls ≠ "java/lang/invoke/MethodHandle" ∧ yX10_strength.cls ≠ "java/lang/invoke/VarHandle" ∧ (parseMethodDescriptor yX10_strength.desc).map (fun d => d.parameters.length) = some 2) := ⟨WA_of (i := 2002) (by decide +kernel) (by decide +kernel), kini_CaseManagerModel, by decide +kernel, by decide +kernel, by decide +kernel⟩
theorem kiX10_strength : (Cond.instanceMethod yX10_strength ∈ WA) ∧ (Cond.selects yX10_strength.cls yX10_strength yX10_strength ∈ WA) := ⟨WA_of (i := 2000) (by decide +kernel) (by decide +kernel), WA_of (i := 2001) (by decide +kernel) (by decide +kernel)⟩
def mxX10_questionCount : Nat := 3
theorem kvX10_questionCount : (Cond.code yX10_questionCount cX10_questionCount 3 (some .int) ∈ WA) ∧ (Cond.initialized yX10_questionCount.cls ∈ WA) ∧ (yX10_questionCount.cls ≠ "java/lang/invoke/MethodHandle" ∧ yX10_questionCount.cls ≠ "java/lang/invoke/VarHandle" ∧ (parseMethodDescriptor yX10_questionCount.desc).map (fun d => d.parameters.length) = some 2) := ⟨WA_of (i := 2006) (by decide +kernel) (by decide +kernel), kini_CaseManagerModel, by decide +kernel, by decide +kernel, by decide +kernel⟩
theorem kiX10_questionCount : (Cond.instanceMethod yX10_questionCount ∈ WA) ∧ (Cond.selects yX10_questionCount.cls yX10_questionCount yX10_questionCount ∈ WA) := ⟨WA_of (i := 2004) (by decide +kernel) (by decide +kernel), WA_of (i := 2005) (by decide +kernel) (by decide +kernel)⟩
def mxX10_witnessCount : Nat := 1
theorem kvX10_witnessCount : (Cond.code yX10_witnessCount cX10_witnessCount 1 (some .int) ∈ WA) ∧ (Cond.initialized yX10_witnessCount.cls ∈ WA) ∧ (yX10_witnessCount.cls ≠ "java/lang/invoke/MethodHandle" ∧ yX10_witnessCount.cls ≠ "java/lang/invoke/VarHandle" ∧ (parseMethodDescriptor yX10_witnessCount.desc).map (fun d => d.parameters.length) = some 0) := ⟨WA_of (i := 2010) (by decide +kernel) (by decide +kernel), kini_CaseManagerModel, by decide +kernel, by decide +kernel, by decide +kernel⟩
theorem kiX10_witnessCount : (Cond.instanceMethod yX10_witnessCount ∈ WA) ∧ (Cond.selects yX10_witnessCount.cls yX10_witnessCount yX10_witnessCount ∈ WA) := ⟨WA_of (i := 2008) (by decide +kernel) (by decide +kernel), WA_of (i := 2009) (by decide +kernel) (by decide +kernel)⟩
def mxX10_credibility : Nat := 2
theorem kvX10_credibility : (Cond.code yX10_credibility cX10_credibility 2 (some .int) ∈ WA) ∧ (Cond.initialized yX10_credibility.cls ∈ WA) ∧ (yX10_credibility.cls ≠ "java/lang/invoke/MethodHandle" ∧ yX10_credibility.cls ≠ "java/lang/invoke/VarHandle" ∧ (parseMethodDescriptor yX10_credibility.desc).map (fun d => d.parameters.length) = some 1) := ⟨WA_of (i := 2014) (by decide +kernel) (by decide +kernel), kini_CaseManagerModel, by decide +kernel, by decide +kernel, by decide +kernel⟩
theorem kiX10_credibility : (Cond.instanceMethod yX10_credibility ∈ WA) ∧ (Cond.selects yX10_credibility.cls yX10_credibility yX10_credibility ∈ WA) := ⟨WA_of (i := 2012) (by decide +kernel) (by decide +kernel), WA_of (i := 2013) (by decide +kernel) (by decide +kernel)⟩
def mxX10_casesBy : Nat := 4
theorem kvX10_casesBy : (Cond.code yX10_casesBy cX10_casesBy 4 (some .int) ∈ WA) ∧ (Cond.initialized yX10_casesBy.cls ∈ WA) ∧ (yX10_casesBy.cls ≠ "java/lang/invoke/MethodHandle" ∧ yX10_casesBy.cls ≠ "java/lang/invoke/VarHandle" ∧ (parseMethodDescriptor yX10_casesBy.desc).map (fun d => d.parameters.length) = some 1) := ⟨WA_of (i := 2022) (by decide +kernel) (by decide +kernel), kini_CaseManagerModel, by decide +kernel, by decide +kernel, by decide +kernel⟩
theorem kiX10_casesBy : (Cond.instanceMethod yX10_casesBy ∈ WA) ∧ (Cond.selects yX10_casesBy.cls yX10_casesBy yX10_casesBy ∈ WA) := ⟨WA_of (i := 2021) (by decide +kernel) (by decide +kernel), WA_of (i := 68) (by decide +kernel) (by decide +kernel)⟩
def mxX10_casesOfWitness : Nat := 2
theorem kvX10_casesOfWitness : (Cond.code yX10_casesOfWitness cX10_casesOfWitness 2 (some .int) ∈ WA) ∧ (Cond.initialized yX10_casesOfWitness.cls ∈ WA) ∧ (yX10_casesOfWitness.cls ≠ "java/lang/invoke/MethodHandle" ∧ yX10_casesOfWitness.cls ≠ "java/lang/invoke/VarHandle" ∧ (parseMethodDescriptor yX10_casesOfWitness.desc).map (fun d => d.parameters.length) = some 1) := ⟨WA_of (i := 2018) (by decide +kernel) (by decide +kernel), kini_CaseManagerModel, by decide +kernel, by decide +kernel, by decide +kernel⟩
theorem kiX10_casesOfWitness : (Cond.instanceMethod yX10_casesOfWitness ∈ WA) ∧ (Cond.selects yX10_casesOfWitness.cls yX10_casesOfWitness yX10_casesOfWitness ∈ WA) := ⟨WA_of (i := 2016) (by decide +kernel) (by decide +kernel), WA_of (i := 2017) (by decide +kernel) (by decide +kernel)⟩
def mxX10_mostCredible : Nat := 7
theorem kvX10_mostCredible : (Cond.code yX10_mostCredible cX10_mostCredible 7 (some .int) ∈ WA) ∧ (Cond.initialized yX10_mostCredible.cls ∈ WA) ∧ (yX10_mostCredible.cls ≠ "java/lang/invoke/MethodHandle" ∧ yX10_mostCredible.cls ≠ "java/lang/invoke/VarHandle" ∧ (parseMethodDescriptor yX10_mostCredible.desc).map (fun d => d.parameters.length) = some 1) := ⟨WA_of (i := 2026) (by decide +kernel) (by decide +kernel), kini_CaseManagerModel, by decide +kernel, by decide +kernel, by decide +kernel⟩
theorem kiX10_mostCredible : (Cond.instanceMethod yX10_mostCredible ∈ WA) ∧ (Cond.selects yX10_mostCredible.cls yX10_mostCredible yX10_mostCredible ∈ WA) := ⟨WA_of (i := 2024) (by decide +kernel) (by decide +kernel), WA_of (i := 2025) (by decide +kernel) (by decide +kernel)⟩
def mxX10_agreement : Nat := 7
theorem kvX10_agreement : (Cond.code yX10_agreement cX10_agreement 7 (some .int) ∈ WA) ∧ (Cond.initialized yX10_agreement.cls ∈ WA) ∧ (yX10_agreement.cls ≠ "java/lang/invoke/MethodHandle" ∧ yX10_agreement.cls ≠ "java/lang/invoke/VarHandle" ∧ (parseMethodDescriptor yX10_agreement.desc).map (fun d => d.parameters.length) = some 2) := ⟨WA_of (i := 2030) (by decide +kernel) (by decide +kernel), kini_CaseManagerModel, by decide +kernel, by decide +kernel, by decide +kernel⟩
theorem kiX10_agreement : (Cond.instanceMethod yX10_agreement ∈ WA) ∧ (Cond.selects yX10_agreement.cls yX10_agreement yX10_agreement ∈ WA) := ⟨WA_of (i := 2028) (by decide +kernel) (by decide +kernel), WA_of (i := 2029) (by decide +kernel) (by decide +kernel)⟩
def mxX10_groupOf : Nat := 7
theorem kvX10_groupOf : (Cond.code yX10_groupOf cX10_groupOf 7 (some .int) ∈ WA) ∧ (Cond.initialized yX10_groupOf.cls ∈ WA) ∧ (yX10_groupOf.cls ≠ "java/lang/invoke/MethodHandle" ∧ yX10_groupOf.cls ≠ "java/lang/invoke/VarHandle" ∧ (parseMethodDescriptor yX10_groupOf.desc).map (fun d => d.parameters.length) = some 1) := ⟨WA_of (i := 2038) (by decide +kernel) (by decide +kernel), kini_CaseManagerModel, by decide +kernel, by decide +kernel, by decide +kernel⟩
theorem kiX10_groupOf : (Cond.instanceMethod yX10_groupOf ∈ WA) ∧ (Cond.selects yX10_groupOf.cls yX10_groupOf yX10_groupOf ∈ WA) := ⟨WA_of (i := 2037) (by decide +kernel) (by decide +kernel), WA_of (i := 69) (by decide +kernel) (by decide +kernel)⟩
def mxX10_areConnected : Nat := 3
theorem kvX10_areConnected : (Cond.code yX10_areConnected cX10_areConnected 3 (some .boolean) ∈ WA) ∧ (Cond.initialized yX10_areConnected.cls ∈ WA) ∧ (yX10_areConnected.cls ≠ "java/lang/invoke/MethodHandle" ∧ yX10_areConnected.cls ≠ "java/lang/invoke/VarHandle" ∧ (parseMethodDescriptor yX10_areConnected.desc).map (fun d => d.parameters.length) = some 2) := ⟨WA_of (i := 2034) (by decide +kernel) (by decide +kernel), kini_CaseManagerModel, by decide +kernel, by decide +kernel, by decide +kernel⟩
theorem kiX10_areConnected : (Cond.instanceMethod yX10_areConnected ∈ WA) ∧ (Cond.selects yX10_areConnected.cls yX10_areConnected yX10_areConnected ∈ WA) := ⟨WA_of (i := 2032) (by decide +kernel) (by decide +kernel), WA_of (i := 2033) (by decide +kernel) (by decide +kernel)⟩
def mxX10_areConnectedBySearch : Nat := 3
theorem kvX10_areConnectedBySearch : (Cond.code yX10_areConnectedBySearch cX10_areConnectedBySearch 3 (some .boolean) ∈ WA) ∧ (Cond.initialized yX10_areConnectedBySearch.cls ∈ WA) ∧ (yX10_areConnectedBySearch.cls ≠ "java/lang/invoke/MethodHandle" ∧ yX10_areConnectedBySearch.cls ≠ "java/lang/invoke/VarHandle" ∧ (parseMethodDescriptor yX10_areConnectedBySearch.desc).map (fun d => d.parameters.length) = some 2) := ⟨WA_of (i := 2042) (by decide +kernel) (by decide +kernel), kini_CaseManagerModel, by decide +kernel, by decide +kernel, by decide +kernel⟩
theorem kiX10_areConnectedBySearch : (Cond.instanceMethod yX10_areConnectedBySearch ∈ WA) ∧ (Cond.selects yX10_areConnectedBySearch.cls yX10_areConnectedBySearch yX10_areConnectedBySearch ∈ WA) := ⟨WA_of (i := 2040) (by decide +kernel) (by decide +kernel), WA_of (i := 2041) (by decide +kernel) (by decide +kernel)⟩
def mxX10_groupSize : Nat := 5
theorem kvX10_groupSize : (Cond.code yX10_groupSize cX10_groupSize 5 (some .int) ∈ WA) ∧ (Cond.initialized yX10_groupSize.cls ∈ WA) ∧ (yX10_groupSize.cls ≠ "java/lang/invoke/MethodHandle" ∧ yX10_groupSize.cls ≠ "java/lang/invoke/VarHandle" ∧ (parseMethodDescriptor yX10_groupSize.desc).map (fun d => d.parameters.length) = some 1) := ⟨WA_of (i := 2047) (by decide +kernel) (by decide +kernel), kini_CaseManagerModel, by decide +kernel, by decide +kernel, by decide +kernel⟩
theorem kiX10_groupSize : (Cond.instanceMethod yX10_groupSize ∈ WA) ∧ (Cond.selects yX10_groupSize.cls yX10_groupSize yX10_groupSize ∈ WA) := ⟨WA_of (i := 2045) (by decide +kernel) (by decide +kernel), WA_of (i := 2046) (by decide +kernel) (by decide +kernel)⟩
def mxX10_groupCount : Nat := 3
theorem kvX10_groupCount : (Cond.code yX10_groupCount cX10_groupCount 3 (some .int) ∈ WA) ∧ (Cond.initialized yX10_groupCount.cls ∈ WA) ∧ (yX10_groupCount.cls ≠ "java/lang/invoke/MethodHandle" ∧ yX10_groupCount.cls ≠ "java/lang/invoke/VarHandle" ∧ (parseMethodDescriptor yX10_groupCount.desc).map (fun d => d.parameters.length) = some 0) := ⟨WA_of (i := 2051) (by decide +kernel) (by decide +kernel), kini_CaseManagerModel, by decide +kernel, by decide +kernel, by decide +kernel⟩
theorem kiX10_groupCount : (Cond.instanceMethod yX10_groupCount ∈ WA) ∧ (Cond.selects yX10_groupCount.cls yX10_groupCount yX10_groupCount ∈ WA) := ⟨WA_of (i := 2049) (by decide +kernel) (by decide +kernel), WA_of (i := 2050) (by decide +kernel) (by decide +kernel)⟩
def mxX10_heaviestWitness : Nat := 4
theorem kvX10_heaviestWitness : (Cond.code yX10_heaviestWitness cX10_heaviestWitness 4 (some .int) ∈ WA) ∧ (Cond.initialized yX10_heaviestWitness.cls ∈ WA) ∧ (yX10_heaviestWitness.cls ≠ "java/lang/invoke/MethodHandle" ∧ yX10_heaviestWitness.cls ≠ "java/lang/invoke/VarHandle" ∧ (parseMethodDescriptor yX10_heaviestWitness.desc).map (fun d => d.parameters.length) = some 1) := ⟨WA_of (i := 2055) (by decide +kernel) (by decide +kernel), kini_CaseManagerModel, by decide +kernel, by decide +kernel, by decide +kernel⟩
theorem kiX10_heaviestWitness : (Cond.instanceMethod yX10_heaviestWitness ∈ WA) ∧ (Cond.selects yX10_heaviestWitness.cls yX10_heaviestWitness yX10_heaviestWitness ∈ WA) := ⟨WA_of (i := 2053) (by decide +kernel) (by decide +kernel), WA_of (i := 2054) (by decide +kernel) (by decide +kernel)⟩
def mxX10_prosecutionWeight : Nat := 2
theorem kvX10_prosecutionWeight : (Cond.code yX10_prosecutionWeight cX10_prosecutionWeight 2 (some .int) ∈ WA) ∧ (Cond.initialized yX10_prosecutionWeight.cls ∈ WA) ∧ (yX10_prosecutionWeight.cls ≠ "java/lang/invoke/MethodHandle" ∧ yX10_prosecutionWeight.cls ≠ "java/lang/invoke/VarHandle" ∧ (parseMethodDescriptor yX10_prosecutionWeight.desc).map (fun d => d.parameters.length) = some 1) := ⟨WA_of (i := 2059) (by decide +kernel) (by decide +kernel), kini_CaseManagerModel, by decide +kernel, by decide +kernel, by decide +kernel⟩
theorem kiX10_prosecutionWeight : (Cond.instanceMethod yX10_prosecutionWeight ∈ WA) ∧ (Cond.selects yX10_prosecutionWeight.cls yX10_prosecutionWeight yX10_prosecutionWeight ∈ WA) := ⟨WA_of (i := 2057) (by decide +kernel) (by decide +kernel), WA_of (i := 2058) (by decide +kernel) (by decide +kernel)⟩
def mxX10_defenceWeight : Nat := 2
theorem kvX10_defenceWeight : (Cond.code yX10_defenceWeight cX10_defenceWeight 2 (some .int) ∈ WA) ∧ (Cond.initialized yX10_defenceWeight.cls ∈ WA) ∧ (yX10_defenceWeight.cls ≠ "java/lang/invoke/MethodHandle" ∧ yX10_defenceWeight.cls ≠ "java/lang/invoke/VarHandle" ∧ (parseMethodDescriptor yX10_defenceWeight.desc).map (fun d => d.parameters.length) = some 1) := ⟨WA_of (i := 2063) (by decide +kernel) (by decide +kernel), kini_CaseManagerModel, by decide +kernel, by decide +kernel, by decide +kernel⟩
theorem kiX10_defenceWeight : (Cond.instanceMethod yX10_defenceWeight ∈ WA) ∧ (Cond.selects yX10_defenceWeight.cls yX10_defenceWeight yX10_defenceWeight ∈ WA) := ⟨WA_of (i := 2061) (by decide +kernel) (by decide +kernel), WA_of (i := 2062) (by decide +kernel) (by decide +kernel)⟩
def mxX10_margin : Nat := 2
theorem kvX10_margin : (Cond.code yX10_margin cX10_margin 2 (some .int) ∈ WA) ∧ (Cond.initialized yX10_margin.cls ∈ WA) ∧ (yX10_margin.cls ≠ "java/lang/invoke/MethodHandle" ∧ yX10_margin.cls ≠ "java/lang/invoke/VarHandle" ∧ (parseMethodDescriptor yX10_margin.desc).map (fun d => d.parameters.length) = some 1) := ⟨WA_of (i := 2067) (by decide +kernel) (by decide +kernel), kini_CaseManagerModel, by decide +kernel, by decide +kernel, by decide +kernel⟩
theorem kiX10_margin : (Cond.instanceMethod yX10_margin ∈ WA) ∧ (Cond.selects yX10_margin.cls yX10_margin yX10_margin ∈ WA) := ⟨WA_of (i := 2065) (by decide +kernel) (by decide +kernel), WA_of (i := 2066) (by decide +kernel) (by decide +kernel)⟩
def mxX10_marginByCredibility : Nat := 2
theorem kvX10_marginByCredibility : (Cond.code yX10_marginByCredibility cX10_marginByCredibility 2 (some .int) ∈ WA) ∧ (Cond.initialized yX10_marginByCredibility.cls ∈ WA) ∧ (yX10_marginByCredibility.cls ≠ "java/lang/invoke/MethodHandle" ∧ yX10_marginByCredibility.cls ≠ "java/lang/invoke/VarHandle" ∧ (parseMethodDescriptor yX10_marginByCredibility.desc).map (fun d => d.parameters.length) = some 1) := ⟨WA_of (i := 2071) (by decide +kernel) (by decide +kernel), kini_CaseManagerModel, by decide +kernel, by decide +kernel, by decide +kernel⟩
theorem kiX10_marginByCredibility : (Cond.instanceMethod yX10_marginByCredibility ∈ WA) ∧ (Cond.selects yX10_marginByCredibility.cls yX10_marginByCredibility yX10_marginByCredibility ∈ WA) := ⟨WA_of (i := 2069) (by decide +kernel) (by decide +kernel), WA_of (i := 2070) (by decide +kernel) (by decide +kernel)⟩
def mxX10_firmAnswersToGuilty : Nat := 6
theorem kvX10_firmAnswersToGuilty : (Cond.code yX10_firmAnswersToGuilty cX10_firmAnswersToGuilty 6 (some .int) ∈ WA) ∧ (Cond.initialized yX10_firmAnswersToGuilty.cls ∈ WA) ∧ (yX10_firmAnswersToGuilty.cls ≠ "java/lang/invoke/MethodHandle" ∧ yX10_firmAnswersToGuilty.cls ≠ "java/lang/invoke/VarHandle" ∧ (parseMethodDescriptor yX10_firmAnswersToGuilty.desc).map (fun d => d.parameters.length) = some 2) := ⟨WA_of (i := 2076) (by decide +kernel) (by decide +kernel), kini_CaseManagerModel, by decide +kernel, by decide +kernel, by decide +kernel⟩
theorem kiX10_firmAnswersToGuilty : (Cond.instanceMethod yX10_firmAnswersToGuilty ∈ WA) ∧ (Cond.selects yX10_firmAnswersToGuilty.cls yX10_firmAnswersToGuilty yX10_firmAnswersToGuilty ∈ WA) := ⟨WA_of (i := 2074) (by decide +kernel) (by decide +kernel), WA_of (i := 2075) (by decide +kernel) (by decide +kernel)⟩
def mxX10_sentenceOf : Nat := 4
theorem kvX10_sentenceOf : (Cond.code yX10_sentenceOf cX10_sentenceOf 4 (some .int) ∈ WA) ∧ (Cond.initialized yX10_sentenceOf.cls ∈ WA) ∧ (yX10_sentenceOf.cls ≠ "java/lang/invoke/MethodHandle" ∧ yX10_sentenceOf.cls ≠ "java/lang/invoke/VarHandle" ∧ (parseMethodDescriptor yX10_sentenceOf.desc).map (fun d => d.parameters.length) = some 1) := ⟨WA_of (i := 2084) (by decide +kernel) (by decide +kernel), kini_CaseManagerModel, by decide +kernel, by decide +kernel, by decide +kernel⟩
theorem kiX10_sentenceOf : (Cond.instanceMethod yX10_sentenceOf ∈ WA) ∧ (Cond.selects yX10_sentenceOf.cls yX10_sentenceOf yX10_sentenceOf ∈ WA) := ⟨WA_of (i := 2083) (by decide +kernel) (by decide +kernel), WA_of (i := 70) (by decide +kernel) (by decide +kernel)⟩
def mxX10_sentence : Nat := 2
theorem kvX10_sentence : (Cond.code yX10_sentence cX10_sentence 2 (some .int) ∈ WA) ∧ (Cond.initialized yX10_sentence.cls ∈ WA) ∧ (yX10_sentence.cls ≠ "java/lang/invoke/MethodHandle" ∧ yX10_sentence.cls ≠ "java/lang/invoke/VarHandle" ∧ (parseMethodDescriptor yX10_sentence.desc).map (fun d => d.parameters.length) = some 1) := ⟨WA_of (i := 2080) (by decide +kernel) (by decide +kernel), kini_CaseManagerModel, by decide +kernel, by decide +kernel, by decide +kernel⟩
theorem kiX10_sentence : (Cond.instanceMethod yX10_sentence ∈ WA) ∧ (Cond.selects yX10_sentence.cls yX10_sentence yX10_sentence ∈ WA) := ⟨WA_of (i := 2078) (by decide +kernel) (by decide +kernel), WA_of (i := 2079) (by decide +kernel) (by decide +kernel)⟩
def mxX10_sentenceByCases : Nat := 2
theorem kvX10_sentenceByCases : (Cond.code yX10_sentenceByCases cX10_sentenceByCases 2 (some .int) ∈ WA) ∧ (Cond.initialized yX10_sentenceByCases.cls ∈ WA) ∧ (yX10_sentenceByCases.cls ≠ "java/lang/invoke/MethodHandle" ∧ yX10_sentenceByCases.cls ≠ "java/lang/invoke/VarHandle" ∧ (parseMethodDescriptor yX10_sentenceByCases.desc).map (fun d => d.parameters.length) = some 1) := ⟨WA_of (i := 2088) (by decide +kernel) (by decide +kernel), kini_CaseManagerModel, by decide +kernel, by decide +kernel, by decide +kernel⟩
theorem kiX10_sentenceByCases : (Cond.instanceMethod yX10_sentenceByCases ∈ WA) ∧ (Cond.selects yX10_sentenceByCases.cls yX10_sentenceByCases yX10_sentenceByCases ∈ WA) := ⟨WA_of (i := 2086) (by decide +kernel) (by decide +kernel), WA_of (i := 2087) (by decide +kernel) (by decide +kernel)⟩
def mxX10_mostSentenced : Nat := 3
theorem kvX10_mostSentenced : (Cond.code yX10_mostSentenced cX10_mostSentenced 3 (some .int) ∈ WA) ∧ (Cond.initialized yX10_mostSentenced.cls ∈ WA) ∧ (yX10_mostSentenced.cls ≠ "java/lang/invoke/MethodHandle" ∧ yX10_mostSentenced.cls ≠ "java/lang/invoke/VarHandle" ∧ (parseMethodDescriptor yX10_mostSentenced.desc).map (fun d => d.parameters.length) = some 0) := ⟨WA_of (i := 2093) (by decide +kernel) (by decide +kernel), kini_CaseManagerModel, by decide +kernel, by decide +kernel, by decide +kernel⟩
theorem kiX10_mostSentenced : (Cond.instanceMethod yX10_mostSentenced ∈ WA) ∧ (Cond.selects yX10_mostSentenced.cls yX10_mostSentenced yX10_mostSentenced ∈ WA) := ⟨WA_of (i := 2091) (by decide +kernel) (by decide +kernel), WA_of (i := 2092) (by decide +kernel) (by decide +kernel)⟩
def mxX10_rankOf : Nat := 6
theorem kvX10_rankOf : (Cond.code yX10_rankOf cX10_rankOf 6 (some .int) ∈ WA) ∧ (Cond.initialized yX10_rankOf.cls ∈ WA) ∧ (yX10_rankOf.cls ≠ "java/lang/invoke/MethodHandle" ∧ yX10_rankOf.cls ≠ "java/lang/invoke/VarHandle" ∧ (parseMethodDescriptor yX10_rankOf.desc).map (fun d => d.parameters.length) = some 1) := ⟨WA_of (i := 2105) (by decide +kernel) (by decide +kernel), kini_CaseManagerModel, by decide +kernel, by decide +kernel, by decide +kernel⟩
theorem kiX10_rankOf : (Cond.instanceMethod yX10_rankOf ∈ WA) ∧ (Cond.selects yX10_rankOf.cls yX10_rankOf yX10_rankOf ∈ WA) := ⟨WA_of (i := 2104) (by decide +kernel) (by decide +kernel), WA_of (i := 71) (by decide +kernel) (by decide +kernel)⟩
def mxX10_docketLength : Nat := 1
theorem kvX10_docketLength : (Cond.code yX10_docketLength cX10_docketLength 1 (some .int) ∈ WA) ∧ (Cond.initialized yX10_docketLength.cls ∈ WA) ∧ (yX10_docketLength.cls ≠ "java/lang/invoke/MethodHandle" ∧ yX10_docketLength.cls ≠ "java/lang/invoke/VarHandle" ∧ (parseMethodDescriptor yX10_docketLength.desc).map (fun d => d.parameters.length) = some 0) := ⟨WA_of (i := 2097) (by decide +kernel) (by decide +kernel), kini_CaseManagerModel, by decide +kernel, by decide +kernel, by decide +kernel⟩
theorem kiX10_docketLength : (Cond.instanceMethod yX10_docketLength ∈ WA) ∧ (Cond.selects yX10_docketLength.cls yX10_docketLength yX10_docketLength ∈ WA) := ⟨WA_of (i := 2095) (by decide +kernel) (by decide +kernel), WA_of (i := 2096) (by decide +kernel) (by decide +kernel)⟩
def mxX10_docketAt : Nat := 3
theorem kvX10_docketAt : (Cond.code yX10_docketAt cX10_docketAt 3 (some .int) ∈ WA) ∧ (Cond.initialized yX10_docketAt.cls ∈ WA) ∧ (yX10_docketAt.cls ≠ "java/lang/invoke/MethodHandle" ∧ yX10_docketAt.cls ≠ "java/lang/invoke/VarHandle" ∧ (parseMethodDescriptor yX10_docketAt.desc).map (fun d => d.parameters.length) = some 1) := ⟨WA_of (i := 2101) (by decide +kernel) (by decide +kernel), kini_CaseManagerModel, by decide +kernel, by decide +kernel, by decide +kernel⟩
theorem kiX10_docketAt : (Cond.instanceMethod yX10_docketAt ∈ WA) ∧ (Cond.selects yX10_docketAt.cls yX10_docketAt yX10_docketAt ∈ WA) := ⟨WA_of (i := 2099) (by decide +kernel) (by decide +kernel), WA_of (i := 2100) (by decide +kernel) (by decide +kernel)⟩
def mxX10_docketPosition : Nat := 2
theorem kvX10_docketPosition : (Cond.code yX10_docketPosition cX10_docketPosition 2 (some .int) ∈ WA) ∧ (Cond.initialized yX10_docketPosition.cls ∈ WA) ∧ (yX10_docketPosition.cls ≠ "java/lang/invoke/MethodHandle" ∧ yX10_docketPosition.cls ≠ "java/lang/invoke/VarHandle" ∧ (parseMethodDescriptor yX10_docketPosition.desc).map (fun d => d.parameters.length) = some 1) := ⟨WA_of (i := 2109) (by decide +kernel) (by decide +kernel), kini_CaseManagerModel, by decide +kernel, by decide +kernel, by decide +kernel⟩
theorem kiX10_docketPosition : (Cond.instanceMethod yX10_docketPosition ∈ WA) ∧ (Cond.selects yX10_docketPosition.cls yX10_docketPosition yX10_docketPosition ∈ WA) := ⟨WA_of (i := 2107) (by decide +kernel) (by decide +kernel), WA_of (i := 2108) (by decide +kernel) (by decide +kernel)⟩
def mxX10_nextToDecide : Nat := 4
theorem kvX10_nextToDecide : (Cond.code yX10_nextToDecide cX10_nextToDecide 4 (some .int) ∈ WA) ∧ (Cond.initialized yX10_nextToDecide.cls ∈ WA) ∧ (yX10_nextToDecide.cls ≠ "java/lang/invoke/MethodHandle" ∧ yX10_nextToDecide.cls ≠ "java/lang/invoke/VarHandle" ∧ (parseMethodDescriptor yX10_nextToDecide.desc).map (fun d => d.parameters.length) = some 0) := ⟨WA_of (i := 2113) (by decide +kernel) (by decide +kernel), kini_CaseManagerModel, by decide +kernel, by decide +kernel, by decide +kernel⟩
theorem kiX10_nextToDecide : (Cond.instanceMethod yX10_nextToDecide ∈ WA) ∧ (Cond.selects yX10_nextToDecide.cls yX10_nextToDecide yX10_nextToDecide ∈ WA) := ⟨WA_of (i := 2111) (by decide +kernel) (by decide +kernel), WA_of (i := 2112) (by decide +kernel) (by decide +kernel)⟩
def mxX10_closedCount : Nat := 1
theorem kvX10_closedCount : (Cond.code yX10_closedCount cX10_closedCount 1 (some .int) ∈ WA) ∧ (Cond.initialized yX10_closedCount.cls ∈ WA) ∧ (yX10_closedCount.cls ≠ "java/lang/invoke/MethodHandle" ∧ yX10_closedCount.cls ≠ "java/lang/invoke/VarHandle" ∧ (parseMethodDescriptor yX10_closedCount.desc).map (fun d => d.parameters.length) = some 0) := ⟨WA_of (i := 2117) (by decide +kernel) (by decide +kernel), kini_CaseManagerModel, by decide +kernel, by decide +kernel, by decide +kernel⟩
theorem kiX10_closedCount : (Cond.instanceMethod yX10_closedCount ∈ WA) ∧ (Cond.selects yX10_closedCount.cls yX10_closedCount yX10_closedCount ∈ WA) := ⟨WA_of (i := 2115) (by decide +kernel) (by decide +kernel), WA_of (i := 2116) (by decide +kernel) (by decide +kernel)⟩
def mxX10_guiltyCount : Nat := 1
theorem kvX10_guiltyCount : (Cond.code yX10_guiltyCount cX10_guiltyCount 1 (some .int) ∈ WA) ∧ (Cond.initialized yX10_guiltyCount.cls ∈ WA) ∧ (yX10_guiltyCount.cls ≠ "java/lang/invoke/MethodHandle" ∧ yX10_guiltyCount.cls ≠ "java/lang/invoke/VarHandle" ∧ (parseMethodDescriptor yX10_guiltyCount.desc).map (fun d => d.parameters.length) = some 0) := ⟨WA_of (i := 2121) (by decide +kernel) (by decide +kernel), kini_CaseManagerModel, by decide +kernel, by decide +kernel, by decide +kernel⟩
theorem kiX10_guiltyCount : (Cond.instanceMethod yX10_guiltyCount ∈ WA) ∧ (Cond.selects yX10_guiltyCount.cls yX10_guiltyCount yX10_guiltyCount ∈ WA) := ⟨WA_of (i := 2119) (by decide +kernel) (by decide +kernel), WA_of (i := 2120) (by decide +kernel) (by decide +kernel)⟩
def mxX10_decisionCount : Nat := 1
theorem kvX10_decisionCount : (Cond.code yX10_decisionCount cX10_decisionCount 1 (some .int) ∈ WA) ∧ (Cond.initialized yX10_decisionCount.cls ∈ WA) ∧ (yX10_decisionCount.cls ≠ "java/lang/invoke/MethodHandle" ∧ yX10_decisionCount.cls ≠ "java/lang/invoke/VarHandle" ∧ (parseMethodDescriptor yX10_decisionCount.desc).map (fun d => d.parameters.length) = some 0) := ⟨WA_of (i := 2125) (by decide +kernel) (by decide +kernel), kini_CaseManagerModel, by decide +kernel, by decide +kernel, by decide +kernel⟩
theorem kiX10_decisionCount : (Cond.instanceMethod yX10_decisionCount ∈ WA) ∧ (Cond.selects yX10_decisionCount.cls yX10_decisionCount yX10_decisionCount ∈ WA) := ⟨WA_of (i := 2123) (by decide +kernel) (by decide +kernel), WA_of (i := 2124) (by decide +kernel) (by decide +kernel)⟩
def mxX10_questionTotal : Nat := 1
theorem kvX10_questionTotal : (Cond.code yX10_questionTotal cX10_questionTotal 1 (some .int) ∈ WA) ∧ (Cond.initialized yX10_questionTotal.cls ∈ WA) ∧ (yX10_questionTotal.cls ≠ "java/lang/invoke/MethodHandle" ∧ yX10_questionTotal.cls ≠ "java/lang/invoke/VarHandle" ∧ (parseMethodDescriptor yX10_questionTotal.desc).map (fun d => d.parameters.length) = some 0) := ⟨WA_of (i := 2129) (by decide +kernel) (by decide +kernel), kini_CaseManagerModel, by decide +kernel, by decide +kernel, by decide +kernel⟩
theorem kiX10_questionTotal : (Cond.instanceMethod yX10_questionTotal ∈ WA) ∧ (Cond.selects yX10_questionTotal.cls yX10_questionTotal yX10_questionTotal ∈ WA) := ⟨WA_of (i := 2127) (by decide +kernel) (by decide +kernel), WA_of (i := 2128) (by decide +kernel) (by decide +kernel)⟩
def mxX10_meanCredibility : Nat := 4
theorem kvX10_meanCredibility : (Cond.code yX10_meanCredibility cX10_meanCredibility 4 (some .double) ∈ WA) ∧ (Cond.initialized yX10_meanCredibility.cls ∈ WA) ∧ (yX10_meanCredibility.cls ≠ "java/lang/invoke/MethodHandle" ∧ yX10_meanCredibility.cls ≠ "java/lang/invoke/VarHandle" ∧ (parseMethodDescriptor yX10_meanCredibility.desc).map (fun d => d.parameters.length) = some 0) := ⟨WA_of (i := 2133) (by decide +kernel) (by decide +kernel), kini_CaseManagerModel, by decide +kernel, by decide +kernel, by decide +kernel⟩
theorem kiX10_meanCredibility : (Cond.instanceMethod yX10_meanCredibility ∈ WA) ∧ (Cond.selects yX10_meanCredibility.cls yX10_meanCredibility yX10_meanCredibility ∈ WA) := ⟨WA_of (i := 2131) (by decide +kernel) (by decide +kernel), WA_of (i := 2132) (by decide +kernel) (by decide +kernel)⟩
def mxX10_guiltyShare : Nat := 2
theorem kvX10_guiltyShare : (Cond.code yX10_guiltyShare cX10_guiltyShare 2 (some .float) ∈ WA) ∧ (Cond.initialized yX10_guiltyShare.cls ∈ WA) ∧ (yX10_guiltyShare.cls ≠ "java/lang/invoke/MethodHandle" ∧ yX10_guiltyShare.cls ≠ "java/lang/invoke/VarHandle" ∧ (parseMethodDescriptor yX10_guiltyShare.desc).map (fun d => d.parameters.length) = some 0) := ⟨WA_of (i := 2137) (by decide +kernel) (by decide +kernel), kini_CaseManagerModel, by decide +kernel, by decide +kernel, by decide +kernel⟩
theorem kiX10_guiltyShare : (Cond.instanceMethod yX10_guiltyShare ∈ WA) ∧ (Cond.selects yX10_guiltyShare.cls yX10_guiltyShare yX10_guiltyShare ∈ WA) := ⟨WA_of (i := 2135) (by decide +kernel) (by decide +kernel), WA_of (i := 2136) (by decide +kernel) (by decide +kernel)⟩
def mxX10_isConsistent : Nat := 1
theorem kvX10_isConsistent : (Cond.code yX10_isConsistent cX10_isConsistent 1 (some .boolean) ∈ WA) ∧ (Cond.initialized yX10_isConsistent.cls ∈ WA) ∧ (yX10_isConsistent.cls ≠ "java/lang/invoke/MethodHandle" ∧ yX10_isConsistent.cls ≠ "java/lang/invoke/VarHandle" ∧ (parseMethodDescriptor yX10_isConsistent.desc).map (fun d => d.parameters.length) = some 0) := ⟨WA_of (i := 2141) (by decide +kernel) (by decide +kernel), kini_CaseManagerModel, by decide +kernel, by decide +kernel, by decide +kernel⟩
theorem kiX10_isConsistent : (Cond.instanceMethod yX10_isConsistent ∈ WA) ∧ (Cond.selects yX10_isConsistent.cls yX10_isConsistent yX10_isConsistent ∈ WA) := ⟨WA_of (i := 2139) (by decide +kernel) (by decide +kernel), WA_of (i := 2140) (by decide +kernel) (by decide +kernel)⟩
def mxX10_writes : Nat := 2
theorem kvX10_writes : (Cond.code yX10_writes cX10_writes 2 none ∈ WA) ∧ (Cond.initialized yX10_writes.cls ∈ WA) ∧ (yX10_writes.cls ≠ "java/lang/invoke/MethodHandle" ∧ yX10_writes.cls ≠ "java/lang/invoke/VarHandle" ∧ (parseMethodDescriptor yX10_writes.desc).map (fun d => d.parameters.length) = some 1) := ⟨WA_of (i := 2153) (by decide +kernel) (by decide +kernel), kini_CaseManagerModel, by decide +kernel, by decide +kernel, by decide +kernel⟩
theorem kiX10_writes : (Cond.instanceMethod yX10_writes ∈ WA) ∧ (Cond.selects yX10_writes.cls yX10_writes yX10_writes ∈ WA) := ⟨WA_of (i := 2152) (by decide +kernel) (by decide +kernel), WA_of (i := 73) (by decide +kernel) (by decide +kernel)⟩
def mxX10_writesNumber : Nat := 2
theorem kvX10_writesNumber : (Cond.code yX10_writesNumber cX10_writesNumber 2 none ∈ WA) ∧ (Cond.initialized yX10_writesNumber.cls ∈ WA) ∧ (yX10_writesNumber.cls ≠ "java/lang/invoke/MethodHandle" ∧ yX10_writesNumber.cls ≠ "java/lang/invoke/VarHandle" ∧ (parseMethodDescriptor yX10_writesNumber.desc).map (fun d => d.parameters.length) = some 1) := ⟨WA_of (i := 2149) (by decide +kernel) (by decide +kernel), kini_CaseManagerModel, by decide +kernel, by decide +kernel, by decide +kernel⟩
theorem kiX10_writesNumber : (Cond.instanceMethod yX10_writesNumber ∈ WA) ∧ (Cond.selects yX10_writesNumber.cls yX10_writesNumber yX10_writesNumber ∈ WA) := ⟨WA_of (i := 2148) (by decide +kernel) (by decide +kernel), WA_of (i := 72) (by decide +kernel) (by decide +kernel)⟩
def mxX10_formatCase : Nat := 4
theorem kvX10_formatCase : (Cond.code yX10_formatCase cX10_formatCase 4 (some .int) ∈ WA) ∧ (Cond.initialized yX10_formatCase.cls ∈ WA) ∧ (yX10_formatCase.cls ≠ "java/lang/invoke/MethodHandle" ∧ yX10_formatCase.cls ≠ "java/lang/invoke/VarHandle" ∧ (parseMethodDescriptor yX10_formatCase.desc).map (fun d => d.parameters.length) = some 1) := ⟨WA_of (i := 2145) (by decide +kernel) (by decide +kernel), kini_CaseManagerModel, by decide +kernel, by decide +kernel, by decide +kernel⟩
theorem kiX10_formatCase : (Cond.instanceMethod yX10_formatCase ∈ WA) ∧ (Cond.selects yX10_formatCase.cls yX10_formatCase yX10_formatCase ∈ WA) := ⟨WA_of (i := 2143) (by decide +kernel) (by decide +kernel), WA_of (i := 2144) (by decide +kernel) (by decide +kernel)⟩
def mxX10_formatWitness : Nat := 2
theorem kvX10_formatWitness : (Cond.code yX10_formatWitness cX10_formatWitness 2 (some .int) ∈ WA) ∧ (Cond.initialized yX10_formatWitness.cls ∈ WA) ∧ (yX10_formatWitness.cls ≠ "java/lang/invoke/MethodHandle" ∧ yX10_formatWitness.cls ≠ "java/lang/invoke/VarHandle" ∧ (parseMethodDescriptor yX10_formatWitness.desc).map (fun d => d.parameters.length) = some 1) := ⟨WA_of (i := 2157) (by decide +kernel) (by decide +kernel), kini_CaseManagerModel, by decide +kernel, by decide +kernel, by decide +kernel⟩
theorem kiX10_formatWitness : (Cond.instanceMethod yX10_formatWitness ∈ WA) ∧ (Cond.selects yX10_formatWitness.cls yX10_formatWitness yX10_formatWitness ∈ WA) := ⟨WA_of (i := 2155) (by decide +kernel) (by decide +kernel), WA_of (i := 2156) (by decide +kernel) (by decide +kernel)⟩
def mxX10_lineChar : Nat := 2
theorem kvX10_lineChar : (Cond.code yX10_lineChar cX10_lineChar 2 (some .char) ∈ WA) ∧ (Cond.initialized yX10_lineChar.cls ∈ WA) ∧ (yX10_lineChar.cls ≠ "java/lang/invoke/MethodHandle" ∧ yX10_lineChar.cls ≠ "java/lang/invoke/VarHandle" ∧ (parseMethodDescriptor yX10_lineChar.desc).map (fun d => d.parameters.length) = some 1) := ⟨WA_of (i := 2161) (by decide +kernel) (by decide +kernel), kini_CaseManagerModel, by decide +kernel, by decide +kernel, by decide +kernel⟩
theorem kiX10_lineChar : (Cond.instanceMethod yX10_lineChar ∈ WA) ∧ (Cond.selects yX10_lineChar.cls yX10_lineChar yX10_lineChar ∈ WA) := ⟨WA_of (i := 2159) (by decide +kernel) (by decide +kernel), WA_of (i := 2160) (by decide +kernel) (by decide +kernel)⟩
def mxX10_append : Nat := 2
theorem kvX10_append : (Cond.code yX10_append cX10_append 2 (some .int) ∈ WA) ∧ (Cond.initialized yX10_append.cls ∈ WA) ∧ (yX10_append.cls ≠ "java/lang/invoke/MethodHandle" ∧ yX10_append.cls ≠ "java/lang/invoke/VarHandle" ∧ (parseMethodDescriptor yX10_append.desc).map (fun d => d.parameters.length) = some 1) := ⟨WA_of (i := 2165) (by decide +kernel) (by decide +kernel), kini_CaseManagerModel, by decide +kernel, by decide +kernel, by decide +kernel⟩
theorem kiX10_append : (Cond.instanceMethod yX10_append ∈ WA) ∧ (Cond.selects yX10_append.cls yX10_append yX10_append ∈ WA) := ⟨WA_of (i := 2163) (by decide +kernel) (by decide +kernel), WA_of (i := 2164) (by decide +kernel) (by decide +kernel)⟩
def mxX10_sign : Nat := 1
theorem kvX10_sign : (Cond.code yX10_sign cX10_sign 1 (some .int) ∈ WA) ∧ (Cond.initialized yX10_sign.cls ∈ WA) ∧ (yX10_sign.cls ≠ "java/lang/invoke/MethodHandle" ∧ yX10_sign.cls ≠ "java/lang/invoke/VarHandle" ∧ (parseMethodDescriptor yX10_sign.desc).map (fun d => d.parameters.length) = some 0) := ⟨WA_of (i := 2181) (by decide +kernel) (by decide +kernel), kini_CaseManagerModel, by decide +kernel, by decide +kernel, by decide +kernel⟩
theorem kiX10_sign : (Cond.instanceMethod yX10_sign ∈ WA) ∧ (Cond.selects yX10_sign.cls yX10_sign yX10_sign ∈ WA) := ⟨WA_of (i := 2180) (by decide +kernel) (by decide +kernel), WA_of (i := 76) (by decide +kernel) (by decide +kernel)⟩
def mxX10_needs : Nat := 2
theorem kvX10_needs : (Cond.code yX10_needs cX10_needs 2 none ∈ WA) ∧ (Cond.initialized yX10_needs.cls ∈ WA) ∧ (yX10_needs.cls ≠ "java/lang/invoke/MethodHandle" ∧ yX10_needs.cls ≠ "java/lang/invoke/VarHandle" ∧ (parseMethodDescriptor yX10_needs.desc).map (fun d => d.parameters.length) = some 1) := ⟨WA_of (i := 2193) (by decide +kernel) (by decide +kernel), kini_CaseManagerModel, by decide +kernel, by decide +kernel, by decide +kernel⟩
theorem kiX10_needs : (Cond.instanceMethod yX10_needs ∈ WA) ∧ (Cond.selects yX10_needs.cls yX10_needs yX10_needs ∈ WA) := ⟨WA_of (i := 2192) (by decide +kernel) (by decide +kernel), WA_of (i := 79) (by decide +kernel) (by decide +kernel)⟩
def mxX10_letters : Nat := 4
theorem kvX10_letters : (Cond.code yX10_letters cX10_letters 4 none ∈ WA) ∧ (Cond.initialized yX10_letters.cls ∈ WA) ∧ (yX10_letters.cls ≠ "java/lang/invoke/MethodHandle" ∧ yX10_letters.cls ≠ "java/lang/invoke/VarHandle" ∧ (parseMethodDescriptor yX10_letters.desc).map (fun d => d.parameters.length) = some 3) := ⟨WA_of (i := 2189) (by decide +kernel) (by decide +kernel), kini_CaseManagerModel, by decide +kernel, by decide +kernel, by decide +kernel⟩
theorem kiX10_letters : (Cond.instanceMethod yX10_letters ∈ WA) ∧ (Cond.selects yX10_letters.cls yX10_letters yX10_letters ∈ WA) := ⟨WA_of (i := 2188) (by decide +kernel) (by decide +kernel), WA_of (i := 78) (by decide +kernel) (by decide +kernel)⟩
def mxX10_number : Nat := 4
theorem kvX10_number : (Cond.code yX10_number cX10_number 4 (some .int) ∈ WA) ∧ (Cond.initialized yX10_number.cls ∈ WA) ∧ (yX10_number.cls ≠ "java/lang/invoke/MethodHandle" ∧ yX10_number.cls ≠ "java/lang/invoke/VarHandle" ∧ (parseMethodDescriptor yX10_number.desc).map (fun d => d.parameters.length) = some 1) := ⟨WA_of (i := 2201) (by decide +kernel) (by decide +kernel), kini_CaseManagerModel, by decide +kernel, by decide +kernel, by decide +kernel⟩
theorem kiX10_number : (Cond.instanceMethod yX10_number ∈ WA) ∧ (Cond.selects yX10_number.cls yX10_number yX10_number ∈ WA) := ⟨WA_of (i := 2200) (by decide +kernel) (by decide +kernel), WA_of (i := 81) (by decide +kernel) (by decide +kernel)⟩
def mxX10_behind : Nat := 2
theorem kvX10_behind : (Cond.code yX10_behind cX10_behind 2 (some .int) ∈ WA) ∧ (Cond.initialized yX10_behind.cls ∈ WA) ∧ (yX10_behind.cls ≠ "java/lang/invoke/MethodHandle" ∧ yX10_behind.cls ≠ "java/lang/invoke/VarHandle" ∧ (parseMethodDescriptor yX10_behind.desc).map (fun d => d.parameters.length) = some 1) := ⟨WA_of (i := 2197) (by decide +kernel) (by decide +kernel), kini_CaseManagerModel, by decide +kernel, by decide +kernel, by decide +kernel⟩
theorem kiX10_behind : (Cond.instanceMethod yX10_behind ∈ WA) ∧ (Cond.selects yX10_behind.cls yX10_behind yX10_behind ∈ WA) := ⟨WA_of (i := 2196) (by decide +kernel) (by decide +kernel), WA_of (i := 80) (by decide +kernel) (by decide +kernel)⟩
def mxX10_either : Nat := 4
theorem kvX10_either : (Cond.code yX10_either cX10_either 4 (some .int) ∈ WA) ∧ (Cond.initialized yX10_either.cls ∈ WA) ∧ (yX10_either.cls ≠ "java/lang/invoke/MethodHandle" ∧ yX10_either.cls ≠ "java/lang/invoke/VarHandle" ∧ (parseMethodDescriptor yX10_either.desc).map (fun d => d.parameters.length) = some 2) := ⟨WA_of (i := 2205) (by decide +kernel) (by decide +kernel), kini_CaseManagerModel, by decide +kernel, by decide +kernel, by decide +kernel⟩
theorem kiX10_either : (Cond.instanceMethod yX10_either ∈ WA) ∧ (Cond.selects yX10_either.cls yX10_either yX10_either ∈ WA) := ⟨WA_of (i := 2204) (by decide +kernel) (by decide +kernel), WA_of (i := 82) (by decide +kernel) (by decide +kernel)⟩
def mxX10_word : Nat := 2
theorem kvX10_word : (Cond.code yX10_word cX10_word 2 (some .int) ∈ WA) ∧ (Cond.initialized yX10_word.cls ∈ WA) ∧ (yX10_word.cls ≠ "java/lang/invoke/MethodHandle" ∧ yX10_word.cls ≠ "java/lang/invoke/VarHandle" ∧ (parseMethodDescriptor yX10_word.desc).map (fun d => d.parameters.length) = some 1) := ⟨WA_of (i := 2185) (by decide +kernel) (by decide +kernel), kini_CaseManagerModel, by decide +kernel, by decide +kernel, by decide +kernel⟩
theorem kiX10_word : (Cond.instanceMethod yX10_word ∈ WA) ∧ (Cond.selects yX10_word.cls yX10_word yX10_word ∈ WA) := ⟨WA_of (i := 2184) (by decide +kernel) (by decide +kernel), WA_of (i := 77) (by decide +kernel) (by decide +kernel)⟩
def mxX10_command : Nat := 4
theorem kvX10_command : (Cond.code yX10_command cX10_command 4 none ∈ WA) ∧ (Cond.initialized yX10_command.cls ∈ WA) ∧ (yX10_command.cls ≠ "java/lang/invoke/MethodHandle" ∧ yX10_command.cls ≠ "java/lang/invoke/VarHandle" ∧ (parseMethodDescriptor yX10_command.desc).map (fun d => d.parameters.length) = some 0) := ⟨WA_of (i := 2177) (by decide +kernel) (by decide +kernel), kini_CaseManagerModel, by decide +kernel, by decide +kernel, by decide +kernel⟩
theorem kiX10_command : (Cond.instanceMethod yX10_command ∈ WA) ∧ (Cond.selects yX10_command.cls yX10_command yX10_command ∈ WA) := ⟨WA_of (i := 2176) (by decide +kernel) (by decide +kernel), WA_of (i := 75) (by decide +kernel) (by decide +kernel)⟩
def mxX10_parse : Nat := 1
theorem kvX10_parse : (Cond.code yX10_parse cX10_parse 1 none ∈ WA) ∧ (Cond.initialized yX10_parse.cls ∈ WA) ∧ (yX10_parse.cls ≠ "java/lang/invoke/MethodHandle" ∧ yX10_parse.cls ≠ "java/lang/invoke/VarHandle" ∧ (parseMethodDescriptor yX10_parse.desc).map (fun d => d.parameters.length) = some 0) := ⟨WA_of (i := 2173) (by decide +kernel) (by decide +kernel), kini_CaseManagerModel, by decide +kernel, by decide +kernel, by decide +kernel⟩
theorem kiX10_parse : (Cond.instanceMethod yX10_parse ∈ WA) ∧ (Cond.selects yX10_parse.cls yX10_parse yX10_parse ∈ WA) := ⟨WA_of (i := 2172) (by decide +kernel) (by decide +kernel), WA_of (i := 74) (by decide +kernel) (by decide +kernel)⟩
def mxX10_does : Nat := 5
theorem kvX10_does : (Cond.code yX10_does cX10_does 5 (some .int) ∈ WA) ∧ (Cond.initialized yX10_does.cls ∈ WA) ∧ (yX10_does.cls ≠ "java/lang/invoke/MethodHandle" ∧ yX10_does.cls ≠ "java/lang/invoke/VarHandle" ∧ (parseMethodDescriptor yX10_does.desc).map (fun d => d.parameters.length) = some 1) := ⟨WA_of (i := 2209) (by decide +kernel) (by decide +kernel), kini_CaseManagerModel, by decide +kernel, by decide +kernel, by decide +kernel⟩
theorem kiX10_does : (Cond.instanceMethod yX10_does ∈ WA) ∧ (Cond.selects yX10_does.cls yX10_does yX10_does ∈ WA) := ⟨WA_of (i := 2208) (by decide +kernel) (by decide +kernel), WA_of (i := 83) (by decide +kernel) (by decide +kernel)⟩
def mxX10_run : Nat := 3
theorem kvX10_run : (Cond.code yX10_run cX10_run 3 (some .int) ∈ WA) ∧ (Cond.initialized yX10_run.cls ∈ WA) ∧ (yX10_run.cls ≠ "java/lang/invoke/MethodHandle" ∧ yX10_run.cls ≠ "java/lang/invoke/VarHandle" ∧ (parseMethodDescriptor yX10_run.desc).map (fun d => d.parameters.length) = some 0) := ⟨WA_of (i := 2169) (by decide +kernel) (by decide +kernel), kini_CaseManagerModel, by decide +kernel, by decide +kernel, by decide +kernel⟩
theorem kiX10_run : (Cond.instanceMethod yX10_run ∈ WA) ∧ (Cond.selects yX10_run.cls yX10_run yX10_run ∈ WA) := ⟨WA_of (i := 2167) (by decide +kernel) (by decide +kernel), WA_of (i := 2168) (by decide +kernel) (by decide +kernel)⟩
def mxX10_errorPosition : Nat := 1
theorem kvX10_errorPosition : (Cond.code yX10_errorPosition cX10_errorPosition 1 (some .int) ∈ WA) ∧ (Cond.initialized yX10_errorPosition.cls ∈ WA) ∧ (yX10_errorPosition.cls ≠ "java/lang/invoke/MethodHandle" ∧ yX10_errorPosition.cls ≠ "java/lang/invoke/VarHandle" ∧ (parseMethodDescriptor yX10_errorPosition.desc).map (fun d => d.parameters.length) = some 0) := ⟨WA_of (i := 2213) (by decide +kernel) (by decide +kernel), kini_CaseManagerModel, by decide +kernel, by decide +kernel, by decide +kernel⟩
theorem kiX10_errorPosition : (Cond.instanceMethod yX10_errorPosition ∈ WA) ∧ (Cond.selects yX10_errorPosition.cls yX10_errorPosition yX10_errorPosition ∈ WA) := ⟨WA_of (i := 2211) (by decide +kernel) (by decide +kernel), WA_of (i := 2212) (by decide +kernel) (by decide +kernel)⟩
def mxX10_failedCommand : Nat := 1
theorem kvX10_failedCommand : (Cond.code yX10_failedCommand cX10_failedCommand 1 (some .int) ∈ WA) ∧ (Cond.initialized yX10_failedCommand.cls ∈ WA) ∧ (yX10_failedCommand.cls ≠ "java/lang/invoke/MethodHandle" ∧ yX10_failedCommand.cls ≠ "java/lang/invoke/VarHandle" ∧ (parseMethodDescriptor yX10_failedCommand.desc).map (fun d => d.parameters.length) = some 0) := ⟨WA_of (i := 2217) (by decide +kernel) (by decide +kernel), kini_CaseManagerModel, by decide +kernel, by decide +kernel, by decide +kernel⟩
theorem kiX10_failedCommand : (Cond.instanceMethod yX10_failedCommand ∈ WA) ∧ (Cond.selects yX10_failedCommand.cls yX10_failedCommand yX10_failedCommand ∈ WA) := ⟨WA_of (i := 2215) (by decide +kernel) (by decide +kernel), WA_of (i := 2216) (by decide +kernel) (by decide +kernel)⟩
def mxX10_isFailureOfState : Nat := 1
theorem kvX10_isFailureOfState : (Cond.code yX10_isFailureOfState cX10_isFailureOfState 1 (some .boolean) ∈ WA) ∧ (Cond.initialized yX10_isFailureOfState.cls ∈ WA) ∧ (yX10_isFailureOfState.cls ≠ "java/lang/invoke/MethodHandle" ∧ yX10_isFailureOfState.cls ≠ "java/lang/invoke/VarHandle" ∧ (parseMethodDescriptor yX10_isFailureOfState.desc).map (fun d => d.parameters.length) = some 0) := ⟨WA_of (i := 2221) (by decide +kernel) (by decide +kernel), kini_CaseManagerModel, by decide +kernel, by decide +kernel, by decide +kernel⟩
theorem kiX10_isFailureOfState : (Cond.instanceMethod yX10_isFailureOfState ∈ WA) ∧ (Cond.selects yX10_isFailureOfState.cls yX10_isFailureOfState yX10_isFailureOfState ∈ WA) := ⟨WA_of (i := 2219) (by decide +kernel) (by decide +kernel), WA_of (i := 2220) (by decide +kernel) (by decide +kernel)⟩
def mxX10_undoableCount : Nat := 1
theorem kvX10_undoableCount : (Cond.code yX10_undoableCount cX10_undoableCount 1 (some .int) ∈ WA) ∧ (Cond.initialized yX10_undoableCount.cls ∈ WA) ∧ (yX10_undoableCount.cls ≠ "java/lang/invoke/MethodHandle" ∧ yX10_undoableCount.cls ≠ "java/lang/invoke/VarHandle" ∧ (parseMethodDescriptor yX10_undoableCount.desc).map (fun d => d.parameters.length) = some 0) := ⟨WA_of (i := 2225) (by decide +kernel) (by decide +kernel), kini_CaseManagerModel, by decide +kernel, by decide +kernel, by decide +kernel⟩
theorem kiX10_undoableCount : (Cond.instanceMethod yX10_undoableCount ∈ WA) ∧ (Cond.selects yX10_undoableCount.cls yX10_undoableCount yX10_undoableCount ∈ WA) := ⟨WA_of (i := 2223) (by decide +kernel) (by decide +kernel), WA_of (i := 2224) (by decide +kernel) (by decide +kernel)⟩
def mxX10_undo : Nat := 1
theorem kvX10_undo : (Cond.code yX10_undo cX10_undo 1 (some .int) ∈ WA) ∧ (Cond.initialized yX10_undo.cls ∈ WA) ∧ (yX10_undo.cls ≠ "java/lang/invoke/MethodHandle" ∧ yX10_undo.cls ≠ "java/lang/invoke/VarHandle" ∧ (parseMethodDescriptor yX10_undo.desc).map (fun d => d.parameters.length) = some 0) := ⟨WA_of (i := 2229) (by decide +kernel) (by decide +kernel), kini_CaseManagerModel, by decide +kernel, by decide +kernel, by decide +kernel⟩
theorem kiX10_undo : (Cond.instanceMethod yX10_undo ∈ WA) ∧ (Cond.selects yX10_undo.cls yX10_undo yX10_undo ∈ WA) := ⟨WA_of (i := 2227) (by decide +kernel) (by decide +kernel), WA_of (i := 2228) (by decide +kernel) (by decide +kernel)⟩
def mxX10_save : Nat := 1
theorem kvX10_save : (Cond.code yX10_save cX10_save 1 (some .int) ∈ WA) ∧ (Cond.initialized yX10_save.cls ∈ WA) ∧ (yX10_save.cls ≠ "java/lang/invoke/MethodHandle" ∧ yX10_save.cls ≠ "java/lang/invoke/VarHandle" ∧ (parseMethodDescriptor yX10_save.desc).map (fun d => d.parameters.length) = some 0) := ⟨WA_of (i := 2233) (by decide +kernel) (by decide +kernel), kini_CaseManagerModel, by decide +kernel, by decide +kernel, by decide +kernel⟩
theorem kiX10_save : (Cond.instanceMethod yX10_save ∈ WA) ∧ (Cond.selects yX10_save.cls yX10_save yX10_save ∈ WA) := ⟨WA_of (i := 2231) (by decide +kernel) (by decide +kernel), WA_of (i := 2232) (by decide +kernel) (by decide +kernel)⟩
def mxX10_restore : Nat := 1
theorem kvX10_restore : (Cond.code yX10_restore cX10_restore 1 (some .int) ∈ WA) ∧ (Cond.initialized yX10_restore.cls ∈ WA) ∧ (yX10_restore.cls ≠ "java/lang/invoke/MethodHandle" ∧ yX10_restore.cls ≠ "java/lang/invoke/VarHandle" ∧ (parseMethodDescriptor yX10_restore.desc).map (fun d => d.parameters.length) = some 0) := ⟨WA_of (i := 2237) (by decide +kernel) (by decide +kernel), kini_CaseManagerModel, by decide +kernel, by decide +kernel, by decide +kernel⟩
theorem kiX10_restore : (Cond.instanceMethod yX10_restore ∈ WA) ∧ (Cond.selects yX10_restore.cls yX10_restore yX10_restore ∈ WA) := ⟨WA_of (i := 2235) (by decide +kernel) (by decide +kernel), WA_of (i := 2236) (by decide +kernel) (by decide +kernel)⟩
def mxJ5_init_d00df : Nat := 2
theorem kvJ5_init_d00df : (Cond.code yJ5_init_d00df cJ5_init_d00df 2 none ∈ WA) ∧ (Cond.initialized yJ5_init_d00df.cls ∈ WA) ∧ (yJ5_init_d00df.cls ≠ "java/lang/invoke/MethodHandle" ∧ yJ5_init_d00df.cls ≠ "java/lang/invoke/VarHandle" ∧ (parseMethodDescriptor yJ5_init_d00df.desc).map (fun d => d.parameters.length) = some 1) := ⟨WA_of (i := 295) (by decide +kernel) (by decide +kernel), kini_java_lang_AbstractStringBuilder, by decide +kernel, by decide +kernel, by decide +kernel⟩
theorem kiiJ5_init_d00df : Cond.instanceMethod yJ5_init_d00df ∈ WA := WA_of (i := 294) (by decide +kernel) (by decide +kernel)
def mxJ5_length_8abf5 : Nat := 1
theorem kvJ5_length_8abf5 : (Cond.code yJ5_length_8abf5 cJ5_length_8abf5 1 (some .int) ∈ WA) ∧ (Cond.initialized yJ5_length_8abf5.cls ∈ WA) ∧ (yJ5_length_8abf5.cls ≠ "java/lang/invoke/MethodHandle" ∧ yJ5_length_8abf5.cls ≠ "java/lang/invoke/VarHandle" ∧ (parseMethodDescriptor yJ5_length_8abf5.desc).map (fun d => d.parameters.length) = some 0) := ⟨WA_of (i := 1459) (by decide +kernel) (by decide +kernel), kini_java_lang_AbstractStringBuilder, by decide +kernel, by decide +kernel, by decide +kernel⟩
theorem kiiJ5_length_8abf5 : Cond.instanceMethod yJ5_length_8abf5 ∈ WA := WA_of (i := 1453) (by decide +kernel) (by decide +kernel)
def mxJ5_ensureCapacityInternal_d00df : Nat := 3
theorem kvJ5_ensureCapacityInternal_d00df : (Cond.code yJ5_ensureCapacityInternal_d00df cJ5_ensureCapacityInternal_d00df 3 none ∈ WA) ∧ (Cond.initialized yJ5_ensureCapacityInternal_d00df.cls ∈ WA) ∧ (yJ5_ensureCapacityInternal_d00df.cls ≠ "java/lang/invoke/MethodHandle" ∧ yJ5_ensureCapacityInternal_d00df.cls ≠ "java/lang/invoke/VarHandle" ∧ (parseMethodDescriptor yJ5_ensureCapacityInternal_d00df.desc).map (fun d => d.parameters.length) = some 1) := ⟨WA_of (i := 1310) (by decide +kernel) (by decide +kernel), kini_java_lang_AbstractStringBuilder, by decide +kernel, by decide +kernel, by decide +kernel⟩
theorem kiiJ5_ensureCapacityInternal_d00df : Cond.instanceMethod yJ5_ensureCapacityInternal_d00df ∈ WA := WA_of (i := 1309) (by decide +kernel) (by decide +kernel)
def mxJ5_newCapacity_0f7a4 : Nat := 6
theorem kvJ5_newCapacity_0f7a4 : (Cond.code yJ5_newCapacity_0f7a4 cJ5_newCapacity_0f7a4 6 (some .int) ∈ WA) ∧ (Cond.initialized yJ5_newCapacity_0f7a4.cls ∈ WA) ∧ (yJ5_newCapacity_0f7a4.cls ≠ "java/lang/invoke/MethodHandle" ∧ yJ5_newCapacity_0f7a4.cls ≠ "java/lang/invoke/VarHandle" ∧ (parseMethodDescriptor yJ5_newCapacity_0f7a4.desc).map (fun d => d.parameters.length) = some 1) := ⟨WA_of (i := 1314) (by decide +kernel) (by decide +kernel), kini_java_lang_AbstractStringBuilder, by decide +kernel, by decide +kernel, by decide +kernel⟩
theorem kiiJ5_newCapacity_0f7a4 : Cond.instanceMethod yJ5_newCapacity_0f7a4 ∈ WA := WA_of (i := 1313) (by decide +kernel) (by decide +kernel)
def mxJ5_inflate_da8c8 : Nat := 2
theorem kvJ5_inflate_da8c8 : (Cond.code yJ5_inflate_da8c8 cJ5_inflate_da8c8 2 none ∈ WA) ∧ (Cond.initialized yJ5_inflate_da8c8.cls ∈ WA) ∧ (yJ5_inflate_da8c8.cls ≠ "java/lang/invoke/MethodHandle" ∧ yJ5_inflate_da8c8.cls ≠ "java/lang/invoke/VarHandle" ∧ (parseMethodDescriptor yJ5_inflate_da8c8.desc).map (fun d => d.parameters.length) = some 0) := ⟨WA_of (i := 1388) (by decide +kernel) (by decide +kernel), kini_java_lang_AbstractStringBuilder, by decide +kernel, by decide +kernel, by decide +kernel⟩
theorem kiiJ5_inflate_da8c8 : Cond.instanceMethod yJ5_inflate_da8c8 ∈ WA := WA_of (i := 1387) (by decide +kernel) (by decide +kernel)
def mxJ5_setLength_d00df : Nat := 2
theorem kvJ5_setLength_d00df : (Cond.code yJ5_setLength_d00df cJ5_setLength_d00df 2 none ∈ WA) ∧ (Cond.initialized yJ5_setLength_d00df.cls ∈ WA) ∧ (yJ5_setLength_d00df.cls ≠ "java/lang/invoke/MethodHandle" ∧ yJ5_setLength_d00df.cls ≠ "java/lang/invoke/VarHandle" ∧ (parseMethodDescriptor yJ5_setLength_d00df.desc).map (fun d => d.parameters.length) = some 1) := ⟨WA_of (i := 1287) (by decide +kernel) (by decide +kernel), kini_java_lang_AbstractStringBuilder, by decide +kernel, by decide +kernel, by decide +kernel⟩
theorem kiiJ5_setLength_d00df : Cond.instanceMethod yJ5_setLength_d00df ∈ WA := WA_of (i := 1286) (by decide +kernel) (by decide +kernel)
def mxJ5_charAt_5068e : Nat := 5
theorem kvJ5_charAt_5068e : (Cond.code yJ5_charAt_5068e cJ5_charAt_5068e 5 (some .char) ∈ WA) ∧ (Cond.initialized yJ5_charAt_5068e.cls ∈ WA) ∧ (yJ5_charAt_5068e.cls ≠ "java/lang/invoke/MethodHandle" ∧ yJ5_charAt_5068e.cls ≠ "java/lang/invoke/VarHandle" ∧ (parseMethodDescriptor yJ5_charAt_5068e.desc).map (fun d => d.parameters.length) = some 1) := ⟨WA_of (i := 1585) (by decide +kernel) (by decide +kernel), kini_java_lang_AbstractStringBuilder, by decide +kernel, by decide +kernel, by decide +kernel⟩
theorem kiiJ5_charAt_5068e : Cond.instanceMethod yJ5_charAt_5068e ∈ WA := WA_of (i := 1584) (by decide +kernel) (by decide +kernel)
def mxJ5_append_cf1ce : Nat := 3
theorem kvJ5_append_cf1ce : (Cond.code yJ5_append_cf1ce cJ5_append_cf1ce 3 (some (.object "java/lang/AbstractStringBuilder")) ∈ WA) ∧ (Cond.initialized yJ5_append_cf1ce.cls ∈ WA) ∧ (yJ5_append_cf1ce.cls ≠ "java/lang/invoke/MethodHandle" ∧ yJ5_append_cf1ce.cls ≠ "java/lang/invoke/VarHandle" ∧ (parseMethodDescriptor yJ5_append_cf1ce.desc).map (fun d => d.parameters.length) = some 1) := ⟨WA_of (i := 1302) (by decide +kernel) (by decide +kernel), kini_java_lang_AbstractStringBuilder, by decide +kernel, by decide +kernel, by decide +kernel⟩
theorem kiiJ5_append_cf1ce : Cond.instanceMethod yJ5_append_cf1ce ∈ WA := WA_of (i := 1301) (by decide +kernel) (by decide +kernel)
def mxJ5_appendNull_278bc : Nat := 3
theorem kvJ5_appendNull_278bc : (Cond.code yJ5_appendNull_278bc cJ5_appendNull_278bc 3 (some (.object "java/lang/AbstractStringBuilder")) ∈ WA) ∧ (Cond.initialized yJ5_appendNull_278bc.cls ∈ WA) ∧ (yJ5_appendNull_278bc.cls ≠ "java/lang/invoke/MethodHandle" ∧ yJ5_appendNull_278bc.cls ≠ "java/lang/invoke/VarHandle" ∧ (parseMethodDescriptor yJ5_appendNull_278bc.desc).map (fun d => d.parameters.length) = some 0) := ⟨WA_of (i := 1306) (by decide +kernel) (by decide +kernel), kini_java_lang_AbstractStringBuilder, by decide +kernel, by decide +kernel, by decide +kernel⟩
theorem kiiJ5_appendNull_278bc : Cond.instanceMethod yJ5_appendNull_278bc ∈ WA := WA_of (i := 1305) (by decide +kernel) (by decide +kernel)
def mxJ5_append_3fe6f : Nat := 2
theorem kvJ5_append_3fe6f : (Cond.code yJ5_append_3fe6f cJ5_append_3fe6f 2 (some (.object "java/lang/AbstractStringBuilder")) ∈ WA) ∧ (Cond.initialized yJ5_append_3fe6f.cls ∈ WA) ∧ (yJ5_append_3fe6f.cls ≠ "java/lang/invoke/MethodHandle" ∧ yJ5_append_3fe6f.cls ≠ "java/lang/invoke/VarHandle" ∧ (parseMethodDescriptor yJ5_append_3fe6f.desc).map (fun d => d.parameters.length) = some 1) := ⟨WA_of (i := 1543) (by decide +kernel) (by decide +kernel), kini_java_lang_AbstractStringBuilder, by decide +kernel, by decide +kernel, by decide +kernel⟩
theorem kiiJ5_append_3fe6f : Cond.instanceMethod yJ5_append_3fe6f ∈ WA := WA_of (i := 1542) (by decide +kernel) (by decide +kernel)
def mxJ5_append_c97b9 : Nat := 4
theorem kvJ5_append_c97b9 : (Cond.code yJ5_append_c97b9 cJ5_append_c97b9 4 (some (.object "java/lang/AbstractStringBuilder")) ∈ WA) ∧ (Cond.initialized yJ5_append_c97b9.cls ∈ WA) ∧ (yJ5_append_c97b9.cls ≠ "java/lang/invoke/MethodHandle" ∧ yJ5_append_c97b9.cls ≠ "java/lang/invoke/VarHandle" ∧ (parseMethodDescriptor yJ5_append_c97b9.desc).map (fun d => d.parameters.length) = some 1) := ⟨WA_of (i := 1416) (by decide +kernel) (by decide +kernel), kini_java_lang_AbstractStringBuilder, by decide +kernel, by decide +kernel, by decide +kernel⟩
theorem kiiJ5_append_c97b9 : Cond.instanceMethod yJ5_append_c97b9 ∈ WA := WA_of (i := 1415) (by decide +kernel) (by decide +kernel)
def mxJ5_getValue_6d5f1 : Nat := 1
theorem kvJ5_getValue_6d5f1 : (Cond.code yJ5_getValue_6d5f1 cJ5_getValue_6d5f1 1 (some (.array .byte)) ∈ WA) ∧ (Cond.initialized yJ5_getValue_6d5f1.cls ∈ WA) ∧ (yJ5_getValue_6d5f1.cls ≠ "java/lang/invoke/MethodHandle" ∧ yJ5_getValue_6d5f1.cls ≠ "java/lang/invoke/VarHandle" ∧ (parseMethodDescriptor yJ5_getValue_6d5f1.desc).map (fun d => d.parameters.length) = some 0) := ⟨WA_of (i := 1451) (by decide +kernel) (by decide +kernel), kini_java_lang_AbstractStringBuilder, by decide +kernel, by decide +kernel, by decide +kernel⟩
theorem kiiJ5_getValue_6d5f1 : Cond.instanceMethod yJ5_getValue_6d5f1 ∈ WA := WA_of (i := 1448) (by decide +kernel) (by decide +kernel)
def mxJ5_isLatin1_aae02 : Nat := 1
theorem kvJ5_isLatin1_aae02 : (Cond.code yJ5_isLatin1_aae02 cJ5_isLatin1_aae02 1 (some .boolean) ∈ WA) ∧ (Cond.initialized yJ5_isLatin1_aae02.cls ∈ WA) ∧ (yJ5_isLatin1_aae02.cls ≠ "java/lang/invoke/MethodHandle" ∧ yJ5_isLatin1_aae02.cls ≠ "java/lang/invoke/VarHandle" ∧ (parseMethodDescriptor yJ5_isLatin1_aae02.desc).map (fun d => d.parameters.length) = some 0) := ⟨WA_of (i := 1340) (by decide +kernel) (by decide +kernel), kini_java_lang_AbstractStringBuilder, by decide +kernel, by decide +kernel, by decide +kernel⟩
theorem kiiJ5_isLatin1_aae02 : Cond.instanceMethod yJ5_isLatin1_aae02 ∈ WA := WA_of (i := 1337) (by decide +kernel) (by decide +kernel)
def mxJ5_inflateIfNeededFor_a7421 : Nat := 2
theorem kvJ5_inflateIfNeededFor_a7421 : (Cond.code yJ5_inflateIfNeededFor_a7421 cJ5_inflateIfNeededFor_a7421 2 none ∈ WA) ∧ (Cond.initialized yJ5_inflateIfNeededFor_a7421.cls ∈ WA) ∧ (yJ5_inflateIfNeededFor_a7421.cls ≠ "java/lang/invoke/MethodHandle" ∧ yJ5_inflateIfNeededFor_a7421.cls ≠ "java/lang/invoke/VarHandle" ∧ (parseMethodDescriptor yJ5_inflateIfNeededFor_a7421.desc).map (fun d => d.parameters.length) = some 1) := ⟨WA_of (i := 1383) (by decide +kernel) (by decide +kernel), kini_java_lang_AbstractStringBuilder, by decide +kernel, by decide +kernel, by decide +kernel⟩
theorem kiiJ5_inflateIfNeededFor_a7421 : Cond.instanceMethod yJ5_inflateIfNeededFor_a7421 ∈ WA := WA_of (i := 1382) (by decide +kernel) (by decide +kernel)
def mxJ5_putStringAt_47b60 : Nat := 3
theorem kvJ5_putStringAt_47b60 : (Cond.code yJ5_putStringAt_47b60 cJ5_putStringAt_47b60 3 none ∈ WA) ∧ (Cond.initialized yJ5_putStringAt_47b60.cls ∈ WA) ∧ (yJ5_putStringAt_47b60.cls ≠ "java/lang/invoke/MethodHandle" ∧ yJ5_putStringAt_47b60.cls ≠ "java/lang/invoke/VarHandle" ∧ (parseMethodDescriptor yJ5_putStringAt_47b60.desc).map (fun d => d.parameters.length) = some 2) := ⟨WA_of (i := 1379) (by decide +kernel) (by decide +kernel), kini_java_lang_AbstractStringBuilder, by decide +kernel, by decide +kernel, by decide +kernel⟩
theorem kiiJ5_putStringAt_47b60 : Cond.instanceMethod yJ5_putStringAt_47b60 ∈ WA := WA_of (i := 1378) (by decide +kernel) (by decide +kernel)
def mxJx00060_init_a7421 : Nat := 2
theorem kvJx00060_init_a7421 : (Cond.code yJx00060_init_a7421 cJx00060_init_a7421 2 none ∈ WA) ∧ (Cond.initialized yJx00060_init_a7421.cls ∈ WA) ∧ (yJx00060_init_a7421.cls ≠ "java/lang/invoke/MethodHandle" ∧ yJx00060_init_a7421.cls ≠ "java/lang/invoke/VarHandle" ∧ (parseMethodDescriptor yJx00060_init_a7421.desc).map (fun d => d.parameters.length) = some 1) := ⟨WA_of (i := 883) (by decide +kernel) (by decide +kernel), kini_java_lang_ArrayIndexOutOfBoundsException, by decide +kernel, by decide +kernel, by decide +kernel⟩
theorem kiiJx00060_init_a7421 : Cond.instanceMethod yJx00060_init_a7421 ∈ WA := WA_of (i := 882) (by decide +kernel) (by decide +kernel)
def mxJx00060_init_d00df : Nat := 2
theorem kvJx00060_init_d00df : (Cond.code yJx00060_init_d00df cJx00060_init_d00df 2 none ∈ WA) ∧ (Cond.initialized yJx00060_init_d00df.cls ∈ WA) ∧ (yJx00060_init_d00df.cls ≠ "java/lang/invoke/MethodHandle" ∧ yJx00060_init_d00df.cls ≠ "java/lang/invoke/VarHandle" ∧ (parseMethodDescriptor yJx00060_init_d00df.desc).map (fun d => d.parameters.length) = some 1) := ⟨WA_of (i := 1521) (by decide +kernel) (by decide +kernel), kini_java_lang_ArrayIndexOutOfBoundsException, by decide +kernel, by decide +kernel, by decide +kernel⟩
theorem kiiJx00060_init_d00df : Cond.instanceMethod yJx00060_init_d00df ∈ WA := WA_of (i := 1520) (by decide +kernel) (by decide +kernel)
def mxJ6_getChars_ba4f3 : Nat := 7
theorem kvJ6_getChars_ba4f3 : (Cond.code yJ6_getChars_ba4f3 cJ6_getChars_ba4f3 7 (some .int) ∈ WA) ∧ (Cond.initialized yJ6_getChars_ba4f3.cls ∈ WA) ∧ (yJ6_getChars_ba4f3.cls ≠ "java/lang/invoke/MethodHandle" ∧ yJ6_getChars_ba4f3.cls ≠ "java/lang/invoke/VarHandle" ∧ (parseMethodDescriptor yJ6_getChars_ba4f3.desc).map (fun d => d.parameters.length) = some 3) := ⟨WA_of (i := 1422) (by decide +kernel) (by decide +kernel), kini_java_lang_Integer, by decide +kernel, by decide +kernel, by decide +kernel⟩
theorem ksJ6_getChars_ba4f3 : Cond.static yJ6_getChars_ba4f3 ∈ WA := WA_of (i := 1421) (by decide +kernel) (by decide +kernel)
def mxJ6_stringSize_0f7a4 : Nat := 4
theorem kvJ6_stringSize_0f7a4 : (Cond.code yJ6_stringSize_0f7a4 cJ6_stringSize_0f7a4 4 (some .int) ∈ WA) ∧ (Cond.initialized yJ6_stringSize_0f7a4.cls ∈ WA) ∧ (yJ6_stringSize_0f7a4.cls ≠ "java/lang/invoke/MethodHandle" ∧ yJ6_stringSize_0f7a4.cls ≠ "java/lang/invoke/VarHandle" ∧ (parseMethodDescriptor yJ6_stringSize_0f7a4.desc).map (fun d => d.parameters.length) = some 1) := ⟨WA_of (i := 1419) (by decide +kernel) (by decide +kernel), kini_java_lang_Integer, by decide +kernel, by decide +kernel, by decide +kernel⟩
theorem ksJ6_stringSize_0f7a4 : Cond.static yJ6_stringSize_0f7a4 ∈ WA := WA_of (i := 1418) (by decide +kernel) (by decide +kernel)
def mxJ9_max_7cf53 : Nat := 2
theorem kvJ9_max_7cf53 : (Cond.code yJ9_max_7cf53 cJ9_max_7cf53 2 (some .int) ∈ WA) ∧ (Cond.initialized yJ9_max_7cf53.cls ∈ WA) ∧ (yJ9_max_7cf53.cls ≠ "java/lang/invoke/MethodHandle" ∧ yJ9_max_7cf53.cls ≠ "java/lang/invoke/VarHandle" ∧ (parseMethodDescriptor yJ9_max_7cf53.desc).map (fun d => d.parameters.length) = some 2) := ⟨WA_of (i := 849) (by decide +kernel) (by decide +kernel), kini_java_lang_Math, by decide +kernel, by decide +kernel, by decide +kernel⟩
theorem ksJ9_max_7cf53 : Cond.static yJ9_max_7cf53 ∈ WA := WA_of (i := 848) (by decide +kernel) (by decide +kernel)
def mxJ9_min_7cf53 : Nat := 2
theorem kvJ9_min_7cf53 : (Cond.code yJ9_min_7cf53 cJ9_min_7cf53 2 (some .int) ∈ WA) ∧ (Cond.initialized yJ9_min_7cf53.cls ∈ WA) ∧ (yJ9_min_7cf53.cls ≠ "java/lang/invoke/MethodHandle" ∧ yJ9_min_7cf53.cls ≠ "java/lang/invoke/VarHandle" ∧ (parseMethodDescriptor yJ9_min_7cf53.desc).map (fun d => d.parameters.length) = some 2) := ⟨WA_of (i := 600) (by decide +kernel) (by decide +kernel), kini_java_lang_Math, by decide +kernel, by decide +kernel, by decide +kernel⟩
theorem ksJ9_min_7cf53 : Cond.static yJ9_min_7cf53 ∈ WA := WA_of (i := 599) (by decide +kernel) (by decide +kernel)
def mxJ0_init_81219 : Nat := 2
theorem kvJ0_init_81219 : (Cond.code yJ0_init_81219 cJ0_init_81219 2 none ∈ WA) ∧ (Cond.initialized yJ0_init_81219.cls ∈ WA) ∧ (yJ0_init_81219.cls ≠ "java/lang/invoke/MethodHandle" ∧ yJ0_init_81219.cls ≠ "java/lang/invoke/VarHandle" ∧ (parseMethodDescriptor yJ0_init_81219.desc).map (fun d => d.parameters.length) = some 1) := ⟨WA_of (i := 1442) (by decide +kernel) (by decide +kernel), kini_java_lang_String, by decide +kernel, by decide +kernel, by decide +kernel⟩
theorem kiiJ0_init_81219 : Cond.instanceMethod yJ0_init_81219 ∈ WA := WA_of (i := 1441) (by decide +kernel) (by decide +kernel)
def mxJ0_length_8abf5 : Nat := 1
theorem kvJ0_length_8abf5 : (Cond.code yJ0_length_8abf5 cJ0_length_8abf5 1 (some .int) ∈ WA) ∧ (Cond.initialized yJ0_length_8abf5.cls ∈ WA) ∧ (yJ0_length_8abf5.cls ≠ "java/lang/invoke/MethodHandle" ∧ yJ0_length_8abf5.cls ≠ "java/lang/invoke/VarHandle" ∧ (parseMethodDescriptor yJ0_length_8abf5.desc).map (fun d => d.parameters.length) = some 0) := ⟨WA_of (i := 1370) (by decide +kernel) (by decide +kernel), kini_java_lang_String, by decide +kernel, by decide +kernel, by decide +kernel⟩
theorem kiJ0_length_8abf5 : (Cond.instanceMethod yJ0_length_8abf5 ∈ WA) ∧ (Cond.selects yJ0_length_8abf5.cls yJ0_length_8abf5 yJ0_length_8abf5 ∈ WA) := ⟨WA_of (i := 1368) (by decide +kernel) (by decide +kernel), WA_of (i := 1369) (by decide +kernel) (by decide +kernel)⟩
def mxJ0_charAt_5068e : Nat := 2
theorem kvJ0_charAt_5068e : (Cond.code yJ0_charAt_5068e cJ0_charAt_5068e 2 (some .char) ∈ WA) ∧ (Cond.initialized yJ0_charAt_5068e.cls ∈ WA) ∧ (yJ0_charAt_5068e.cls ≠ "java/lang/invoke/MethodHandle" ∧ yJ0_charAt_5068e.cls ≠ "java/lang/invoke/VarHandle" ∧ (parseMethodDescriptor yJ0_charAt_5068e.desc).map (fun d => d.parameters.length) = some 1) := ⟨WA_of (i := 1638) (by decide +kernel) (by decide +kernel), kini_java_lang_String, by decide +kernel, by decide +kernel, by decide +kernel⟩
theorem kiJ0_charAt_5068e : (Cond.instanceMethod yJ0_charAt_5068e ∈ WA) ∧ (Cond.selects yJ0_charAt_5068e.cls yJ0_charAt_5068e yJ0_charAt_5068e ∈ WA) := ⟨WA_of (i := 1636) (by decide +kernel) (by decide +kernel), WA_of (i := 1637) (by decide +kernel) (by decide +kernel)⟩
def mxJ0_getBytes_840e7 : Nat := 4
theorem kvJ0_getBytes_840e7 : (Cond.code yJ0_getBytes_840e7 cJ0_getBytes_840e7 4 none ∈ WA) ∧ (Cond.initialized yJ0_getBytes_840e7.cls ∈ WA) ∧ (yJ0_getBytes_840e7.cls ≠ "java/lang/invoke/MethodHandle" ∧ yJ0_getBytes_840e7.cls ≠ "java/lang/invoke/VarHandle" ∧ (parseMethodDescriptor yJ0_getBytes_840e7.desc).map (fun d => d.parameters.length) = some 3) := ⟨WA_of (i := 1407) (by decide +kernel) (by decide +kernel), kini_java_lang_String, by decide +kernel, by decide +kernel, by decide +kernel⟩
theorem kiJ0_getBytes_840e7 : (Cond.instanceMethod yJ0_getBytes_840e7 ∈ WA) ∧ (Cond.selects yJ0_getBytes_840e7.cls yJ0_getBytes_840e7 yJ0_getBytes_840e7 ∈ WA) := ⟨WA_of (i := 1405) (by decide +kernel) (by decide +kernel), WA_of (i := 1406) (by decide +kernel) (by decide +kernel)⟩
def mxJ0_init_db425 : Nat := 5
theorem kvJ0_init_db425 : (Cond.code yJ0_init_db425 cJ0_init_db425 5 none ∈ WA) ∧ (Cond.initialized yJ0_init_db425.cls ∈ WA) ∧ (yJ0_init_db425.cls ≠ "java/lang/invoke/MethodHandle" ∧ yJ0_init_db425.cls ≠ "java/lang/invoke/VarHandle" ∧ (parseMethodDescriptor yJ0_init_db425.desc).map (fun d => d.parameters.length) = some 2) := ⟨WA_of (i := 1445) (by decide +kernel) (by decide +kernel), kini_java_lang_String, by decide +kernel, by decide +kernel, by decide +kernel⟩
theorem kiiJ0_init_db425 : Cond.instanceMethod yJ0_init_db425 ∈ WA := WA_of (i := 1444) (by decide +kernel) (by decide +kernel)
def mxJ0_coder_7d493 : Nat := 1
theorem kvJ0_coder_7d493 : (Cond.code yJ0_coder_7d493 cJ0_coder_7d493 1 (some .byte) ∈ WA) ∧ (Cond.initialized yJ0_coder_7d493.cls ∈ WA) ∧ (yJ0_coder_7d493.cls ≠ "java/lang/invoke/MethodHandle" ∧ yJ0_coder_7d493.cls ≠ "java/lang/invoke/VarHandle" ∧ (parseMethodDescriptor yJ0_coder_7d493.desc).map (fun d => d.parameters.length) = some 0) := ⟨WA_of (i := 1374) (by decide +kernel) (by decide +kernel), kini_java_lang_String, by decide +kernel, by decide +kernel, by decide +kernel⟩
theorem kiJ0_coder_7d493 : (Cond.instanceMethod yJ0_coder_7d493 ∈ WA) ∧ (Cond.selects yJ0_coder_7d493.cls yJ0_coder_7d493 yJ0_coder_7d493 ∈ WA) := ⟨WA_of (i := 1372) (by decide +kernel) (by decide +kernel), WA_of (i := 1373) (by decide +kernel) (by decide +kernel)⟩
def mxJ0_isLatin1_aae02 : Nat := 1
theorem kvJ0_isLatin1_aae02 : (Cond.code yJ0_isLatin1_aae02 cJ0_isLatin1_aae02 1 (some .boolean) ∈ WA) ∧ (Cond.initialized yJ0_isLatin1_aae02.cls ∈ WA) ∧ (yJ0_isLatin1_aae02.cls ≠ "java/lang/invoke/MethodHandle" ∧ yJ0_isLatin1_aae02.cls ≠ "java/lang/invoke/VarHandle" ∧ (parseMethodDescriptor yJ0_isLatin1_aae02.desc).map (fun d => d.parameters.length) = some 0) := ⟨WA_of (i := 1642) (by decide +kernel) (by decide +kernel), kini_java_lang_String, by decide +kernel, by decide +kernel, by decide +kernel⟩
theorem kiJ0_isLatin1_aae02 : (Cond.instanceMethod yJ0_isLatin1_aae02 ∈ WA) ∧ (Cond.selects yJ0_isLatin1_aae02.cls yJ0_isLatin1_aae02 yJ0_isLatin1_aae02 ∈ WA) := ⟨WA_of (i := 1640) (by decide +kernel) (by decide +kernel), WA_of (i := 1641) (by decide +kernel) (by decide +kernel)⟩
def mxJ0_checkIndex_df160 : Nat := 2
theorem kvJ0_checkIndex_df160 : (Cond.code yJ0_checkIndex_df160 cJ0_checkIndex_df160 2 none ∈ WA) ∧ (Cond.initialized yJ0_checkIndex_df160.cls ∈ WA) ∧ (yJ0_checkIndex_df160.cls ≠ "java/lang/invoke/MethodHandle" ∧ yJ0_checkIndex_df160.cls ≠ "java/lang/invoke/VarHandle" ∧ (parseMethodDescriptor yJ0_checkIndex_df160.desc).map (fun d => d.parameters.length) = some 2) := ⟨WA_of (i := 1555) (by decide +kernel) (by decide +kernel), kini_java_lang_String, by decide +kernel, by decide +kernel, by decide +kernel⟩
theorem ksJ0_checkIndex_df160 : Cond.static yJ0_checkIndex_df160 ∈ WA := WA_of (i := 1554) (by decide +kernel) (by decide +kernel)
def mxJ0_checkBoundsOffCount_cabcc : Nat := 3
theorem kvJ0_checkBoundsOffCount_cabcc : (Cond.code yJ0_checkBoundsOffCount_cabcc cJ0_checkBoundsOffCount_cabcc 3 (some .int) ∈ WA) ∧ (Cond.initialized yJ0_checkBoundsOffCount_cabcc.cls ∈ WA) ∧ (yJ0_checkBoundsOffCount_cabcc.cls ≠ "java/lang/invoke/MethodHandle" ∧ yJ0_checkBoundsOffCount_cabcc.cls ≠ "java/lang/invoke/VarHandle" ∧ (parseMethodDescriptor yJ0_checkBoundsOffCount_cabcc.desc).map (fun d => d.parameters.length) = some 3) := ⟨WA_of (i := 1400) (by decide +kernel) (by decide +kernel), kini_java_lang_String, by decide +kernel, by decide +kernel, by decide +kernel⟩
theorem ksJ0_checkBoundsOffCount_cabcc : Cond.static yJ0_checkBoundsOffCount_cabcc ∈ WA := WA_of (i := 1399) (by decide +kernel) (by decide +kernel)
def mxJ0_checkBoundsBeginEnd_23922 : Nat := 3
theorem kvJ0_checkBoundsBeginEnd_23922 : (Cond.code yJ0_checkBoundsBeginEnd_23922 cJ0_checkBoundsBeginEnd_23922 3 none ∈ WA) ∧ (Cond.initialized yJ0_checkBoundsBeginEnd_23922.cls ∈ WA) ∧ (yJ0_checkBoundsBeginEnd_23922.cls ≠ "java/lang/invoke/MethodHandle" ∧ yJ0_checkBoundsBeginEnd_23922.cls ≠ "java/lang/invoke/VarHandle" ∧ (parseMethodDescriptor yJ0_checkBoundsBeginEnd_23922.desc).map (fun d => d.parameters.length) = some 3) := ⟨WA_of (i := 1352) (by decide +kernel) (by decide +kernel), kini_java_lang_String, by decide +kernel, by decide +kernel, by decide +kernel⟩
theorem ksJ0_checkBoundsBeginEnd_23922 : Cond.static yJ0_checkBoundsBeginEnd_23922 ∈ WA := WA_of (i := 1351) (by decide +kernel) (by decide +kernel)
def mxJ4_init_da8c8 : Nat := 1
theorem kvJ4_init_da8c8 : (Cond.code yJ4_init_da8c8 cJ4_init_da8c8 1 none ∈ WA) ∧ (Cond.initialized yJ4_init_da8c8.cls ∈ WA) ∧ (yJ4_init_da8c8.cls ≠ "java/lang/invoke/MethodHandle" ∧ yJ4_init_da8c8.cls ≠ "java/lang/invoke/VarHandle" ∧ (parseMethodDescriptor yJ4_init_da8c8.desc).map (fun d => d.parameters.length) = some 0) := ⟨WA_of (i := 292) (by decide +kernel) (by decide +kernel), kini_java_lang_StringBuilder, by decide +kernel, by decide +kernel, by decide +kernel⟩
theorem kiiJ4_init_da8c8 : Cond.instanceMethod yJ4_init_da8c8 ∈ WA := WA_of (i := 291) (by decide +kernel) (by decide +kernel)
def mxJ4_append_15ec4 : Nat := 2
theorem kvJ4_append_15ec4 : (Cond.code yJ4_append_15ec4 cJ4_append_15ec4 2 (some (.object "java/lang/StringBuilder")) ∈ WA) ∧ (Cond.initialized yJ4_append_15ec4.cls ∈ WA) ∧ (yJ4_append_15ec4.cls ≠ "java/lang/invoke/MethodHandle" ∧ yJ4_append_15ec4.cls ≠ "java/lang/invoke/VarHandle" ∧ (parseMethodDescriptor yJ4_append_15ec4.desc).map (fun d => d.parameters.length) = some 1) := ⟨WA_of (i := 1299) (by decide +kernel) (by decide +kernel), kini_java_lang_StringBuilder, by decide +kernel, by decide +kernel, by decide +kernel⟩
theorem kiJ4_append_15ec4 : (Cond.instanceMethod yJ4_append_15ec4 ∈ WA) ∧ (Cond.selects yJ4_append_15ec4.cls yJ4_append_15ec4 yJ4_append_15ec4 ∈ WA) := ⟨WA_of (i := 1297) (by decide +kernel) (by decide +kernel), WA_of (i := 1298) (by decide +kernel) (by decide +kernel)⟩
def mxJ4_append_cf468 : Nat := 2
theorem kvJ4_append_cf468 : (Cond.code yJ4_append_cf468 cJ4_append_cf468 2 (some (.object "java/lang/StringBuilder")) ∈ WA) ∧ (Cond.initialized yJ4_append_cf468.cls ∈ WA) ∧ (yJ4_append_cf468.cls ≠ "java/lang/invoke/MethodHandle" ∧ yJ4_append_cf468.cls ≠ "java/lang/invoke/VarHandle" ∧ (parseMethodDescriptor yJ4_append_cf468.desc).map (fun d => d.parameters.length) = some 1) := ⟨WA_of (i := 1540) (by decide +kernel) (by decide +kernel), kini_java_lang_StringBuilder, by decide +kernel, by decide +kernel, by decide +kernel⟩
theorem kiJ4_append_cf468 : (Cond.instanceMethod yJ4_append_cf468 ∈ WA) ∧ (Cond.selects yJ4_append_cf468.cls yJ4_append_cf468 yJ4_append_cf468 ∈ WA) := ⟨WA_of (i := 1538) (by decide +kernel) (by decide +kernel), WA_of (i := 1539) (by decide +kernel) (by decide +kernel)⟩
def mxJ4_append_bf812 : Nat := 2
theorem kvJ4_append_bf812 : (Cond.code yJ4_append_bf812 cJ4_append_bf812 2 (some (.object "java/lang/StringBuilder")) ∈ WA) ∧ (Cond.initialized yJ4_append_bf812.cls ∈ WA) ∧ (yJ4_append_bf812.cls ≠ "java/lang/invoke/MethodHandle" ∧ yJ4_append_bf812.cls ≠ "java/lang/invoke/VarHandle" ∧ (parseMethodDescriptor yJ4_append_bf812.desc).map (fun d => d.parameters.length) = some 1) := ⟨WA_of (i := 1413) (by decide +kernel) (by decide +kernel), kini_java_lang_StringBuilder, by decide +kernel, by decide +kernel, by decide +kernel⟩
theorem kiJ4_append_bf812 : (Cond.instanceMethod yJ4_append_bf812 ∈ WA) ∧ (Cond.selects yJ4_append_bf812.cls yJ4_append_bf812 yJ4_append_bf812 ∈ WA) := ⟨WA_of (i := 1411) (by decide +kernel) (by decide +kernel), WA_of (i := 1412) (by decide +kernel) (by decide +kernel)⟩
def mxJ4_toString_0e30d : Nat := 1
theorem kvJ4_toString_0e30d : (Cond.code yJ4_toString_0e30d cJ4_toString_0e30d 1 (some (.object "java/lang/String")) ∈ WA) ∧ (Cond.initialized yJ4_toString_0e30d.cls ∈ WA) ∧ (yJ4_toString_0e30d.cls ≠ "java/lang/invoke/MethodHandle" ∧ yJ4_toString_0e30d.cls ≠ "java/lang/invoke/VarHandle" ∧ (parseMethodDescriptor yJ4_toString_0e30d.desc).map (fun d => d.parameters.length) = some 0) := ⟨WA_of (i := 1438) (by decide +kernel) (by decide +kernel), kini_java_lang_StringBuilder, by decide +kernel, by decide +kernel, by decide +kernel⟩
theorem kiJ4_toString_0e30d : (Cond.instanceMethod yJ4_toString_0e30d ∈ WA) ∧ (Cond.selects yJ4_toString_0e30d.cls yJ4_toString_0e30d yJ4_toString_0e30d ∈ WA) := ⟨WA_of (i := 1436) (by decide +kernel) (by decide +kernel), WA_of (i := 1437) (by decide +kernel) (by decide +kernel)⟩
def mxJ4_charAt_5068e : Nat := 2
theorem kvJ4_charAt_5068e : (Cond.code yJ4_charAt_5068e cJ4_charAt_5068e 2 (some .char) ∈ WA) ∧ (Cond.initialized yJ4_charAt_5068e.cls ∈ WA) ∧ (yJ4_charAt_5068e.cls ≠ "java/lang/invoke/MethodHandle" ∧ yJ4_charAt_5068e.cls ≠ "java/lang/invoke/VarHandle" ∧ (parseMethodDescriptor yJ4_charAt_5068e.desc).map (fun d => d.parameters.length) = some 1) := ⟨WA_of (i := 1582) (by decide +kernel) (by decide +kernel), kini_java_lang_StringBuilder, by decide +kernel, by decide +kernel, by decide +kernel⟩
theorem kiJ4_charAt_5068e : (Cond.instanceMethod yJ4_charAt_5068e ∈ WA) ∧ (Cond.selects yJ4_charAt_5068e.cls yJ4_charAt_5068e yJ4_charAt_5068e ∈ WA) := ⟨WA_of (i := 1580) (by decide +kernel) (by decide +kernel), WA_of (i := 1581) (by decide +kernel) (by decide +kernel)⟩
def mxJ4_setLength_d00df : Nat := 2
theorem kvJ4_setLength_d00df : (Cond.code yJ4_setLength_d00df cJ4_setLength_d00df 2 none ∈ WA) ∧ (Cond.initialized yJ4_setLength_d00df.cls ∈ WA) ∧ (yJ4_setLength_d00df.cls ≠ "java/lang/invoke/MethodHandle" ∧ yJ4_setLength_d00df.cls ≠ "java/lang/invoke/VarHandle" ∧ (parseMethodDescriptor yJ4_setLength_d00df.desc).map (fun d => d.parameters.length) = some 1) := ⟨WA_of (i := 1284) (by decide +kernel) (by decide +kernel), kini_java_lang_StringBuilder, by decide +kernel, by decide +kernel, by decide +kernel⟩
theorem kiJ4_setLength_d00df : (Cond.instanceMethod yJ4_setLength_d00df ∈ WA) ∧ (Cond.selects yJ4_setLength_d00df.cls yJ4_setLength_d00df yJ4_setLength_d00df ∈ WA) := ⟨WA_of (i := 1282) (by decide +kernel) (by decide +kernel), WA_of (i := 1283) (by decide +kernel) (by decide +kernel)⟩
def mxJ4_length_8abf5 : Nat := 1
theorem kvJ4_length_8abf5 : (Cond.code yJ4_length_8abf5 cJ4_length_8abf5 1 (some .int) ∈ WA) ∧ (Cond.initialized yJ4_length_8abf5.cls ∈ WA) ∧ (yJ4_length_8abf5.cls ≠ "java/lang/invoke/MethodHandle" ∧ yJ4_length_8abf5.cls ≠ "java/lang/invoke/VarHandle" ∧ (parseMethodDescriptor yJ4_length_8abf5.desc).map (fun d => d.parameters.length) = some 0) := ⟨WA_of (i := 1457) (by decide +kernel) (by decide +kernel), kini_java_lang_StringBuilder, by decide +kernel, by decide +kernel, by decide +kernel⟩
theorem kiJ4_length_8abf5 : (Cond.instanceMethod yJ4_length_8abf5 ∈ WA) ∧ (Cond.selects yJ4_length_8abf5.cls yJ4_length_8abf5 yJ4_length_8abf5 ∈ WA) := ⟨WA_of (i := 1456) (by decide +kernel) (by decide +kernel), WA_of (i := 2251) (by decide +kernel) (by decide +kernel)⟩
def mxJx7c733_init_d00df : Nat := 2
theorem kvJx7c733_init_d00df : (Cond.code yJx7c733_init_d00df cJx7c733_init_d00df 2 none ∈ WA) ∧ (Cond.initialized yJx7c733_init_d00df.cls ∈ WA) ∧ (yJx7c733_init_d00df.cls ≠ "java/lang/invoke/MethodHandle" ∧ yJx7c733_init_d00df.cls ≠ "java/lang/invoke/VarHandle" ∧ (parseMethodDescriptor yJx7c733_init_d00df.desc).map (fun d => d.parameters.length) = some 1) := ⟨WA_of (i := 1292) (by decide +kernel) (by decide +kernel), kini_java_lang_StringIndexOutOfBoundsException, by decide +kernel, by decide +kernel, by decide +kernel⟩
theorem kiiJx7c733_init_d00df : Cond.instanceMethod yJx7c733_init_d00df ∈ WA := WA_of (i := 1291) (by decide +kernel) (by decide +kernel)
def mxJ1_charAt_3b067 : Nat := 2
theorem kvJ1_charAt_3b067 : (Cond.code yJ1_charAt_3b067 cJ1_charAt_3b067 2 (some .char) ∈ WA) ∧ (Cond.initialized yJ1_charAt_3b067.cls ∈ WA) ∧ (yJ1_charAt_3b067.cls ≠ "java/lang/invoke/MethodHandle" ∧ yJ1_charAt_3b067.cls ≠ "java/lang/invoke/VarHandle" ∧ (parseMethodDescriptor yJ1_charAt_3b067.desc).map (fun d => d.parameters.length) = some 2) := ⟨WA_of (i := 1645) (by decide +kernel) (by decide +kernel), kini_java_lang_StringLatin1, by decide +kernel, by decide +kernel, by decide +kernel⟩
theorem ksJ1_charAt_3b067 : Cond.static yJ1_charAt_3b067 ∈ WA := WA_of (i := 1644) (by decide +kernel) (by decide +kernel)
def mxJ1_canEncode_fc78d : Nat := 1
theorem kvJ1_canEncode_fc78d : (Cond.code yJ1_canEncode_fc78d cJ1_canEncode_fc78d 1 (some .boolean) ∈ WA) ∧ (Cond.initialized yJ1_canEncode_fc78d.cls ∈ WA) ∧ (yJ1_canEncode_fc78d.cls ≠ "java/lang/invoke/MethodHandle" ∧ yJ1_canEncode_fc78d.cls ≠ "java/lang/invoke/VarHandle" ∧ (parseMethodDescriptor yJ1_canEncode_fc78d.desc).map (fun d => d.parameters.length) = some 1) := ⟨WA_of (i := 1546) (by decide +kernel) (by decide +kernel), kini_java_lang_StringLatin1, by decide +kernel, by decide +kernel, by decide +kernel⟩
theorem ksJ1_canEncode_fc78d : Cond.static yJ1_canEncode_fc78d ∈ WA := WA_of (i := 1545) (by decide +kernel) (by decide +kernel)
def mxJ1_fillNull_b72d1 : Nat := 3
theorem kvJ1_fillNull_b72d1 : (Cond.code yJ1_fillNull_b72d1 cJ1_fillNull_b72d1 3 none ∈ WA) ∧ (Cond.initialized yJ1_fillNull_b72d1.cls ∈ WA) ∧ (yJ1_fillNull_b72d1.cls ≠ "java/lang/invoke/MethodHandle" ∧ yJ1_fillNull_b72d1.cls ≠ "java/lang/invoke/VarHandle" ∧ (parseMethodDescriptor yJ1_fillNull_b72d1.desc).map (fun d => d.parameters.length) = some 3) := ⟨WA_of (i := 1508) (by decide +kernel) (by decide +kernel), kini_java_lang_StringLatin1, by decide +kernel, by decide +kernel, by decide +kernel⟩
theorem ksJ1_fillNull_b72d1 : Cond.static yJ1_fillNull_b72d1 ∈ WA := WA_of (i := 1507) (by decide +kernel) (by decide +kernel)
def mxJ1_inflate_0e8fd : Nat := 5
theorem kvJ1_inflate_0e8fd : (Cond.code yJ1_inflate_0e8fd cJ1_inflate_0e8fd 5 none ∈ WA) ∧ (Cond.initialized yJ1_inflate_0e8fd.cls ∈ WA) ∧ (yJ1_inflate_0e8fd.cls ≠ "java/lang/invoke/MethodHandle" ∧ yJ1_inflate_0e8fd.cls ≠ "java/lang/invoke/VarHandle" ∧ (parseMethodDescriptor yJ1_inflate_0e8fd.desc).map (fun d => d.parameters.length) = some 5) := ⟨WA_of (i := 1391) (by decide +kernel) (by decide +kernel), kini_java_lang_StringLatin1, by decide +kernel, by decide +kernel, by decide +kernel⟩
theorem ksJ1_inflate_0e8fd : Cond.static yJ1_inflate_0e8fd ∈ WA := WA_of (i := 1390) (by decide +kernel) (by decide +kernel)
def mxJ2_newBytesFor_77867 : Nat := 1
theorem kvJ2_newBytesFor_77867 : (Cond.code yJ2_newBytesFor_77867 cJ2_newBytesFor_77867 1 (some (.array .byte)) ∈ WA) ∧ (Cond.initialized yJ2_newBytesFor_77867.cls ∈ WA) ∧ (yJ2_newBytesFor_77867.cls ≠ "java/lang/invoke/MethodHandle" ∧ yJ2_newBytesFor_77867.cls ≠ "java/lang/invoke/VarHandle" ∧ (parseMethodDescriptor yJ2_newBytesFor_77867.desc).map (fun d => d.parameters.length) = some 1) := ⟨WA_of (i := 301) (by decide +kernel) (by decide +kernel), kini_java_lang_StringUTF16, by decide +kernel, by decide +kernel, by decide +kernel⟩
theorem ksJ2_newBytesFor_77867 : Cond.static yJ2_newBytesFor_77867 ∈ WA := WA_of (i := 300) (by decide +kernel) (by decide +kernel)
def mxJ2_newBytesLength_0f7a4 : Nat := 1
theorem kvJ2_newBytesLength_0f7a4 : (Cond.code yJ2_newBytesLength_0f7a4 cJ2_newBytesLength_0f7a4 1 (some .int) ∈ WA) ∧ (Cond.initialized yJ2_newBytesLength_0f7a4.cls ∈ WA) ∧ (yJ2_newBytesLength_0f7a4.cls ≠ "java/lang/invoke/MethodHandle" ∧ yJ2_newBytesLength_0f7a4.cls ≠ "java/lang/invoke/VarHandle" ∧ (parseMethodDescriptor yJ2_newBytesLength_0f7a4.desc).map (fun d => d.parameters.length) = some 1) := ⟨WA_of (i := 304) (by decide +kernel) (by decide +kernel), kini_java_lang_StringUTF16, by decide +kernel, by decide +kernel, by decide +kernel⟩
theorem ksJ2_newBytesLength_0f7a4 : Cond.static yJ2_newBytesLength_0f7a4 ∈ WA := WA_of (i := 303) (by decide +kernel) (by decide +kernel)
def mxJ2_putChar_b72d1 : Nat := 3
theorem kvJ2_putChar_b72d1 : (Cond.code yJ2_putChar_b72d1 cJ2_putChar_b72d1 3 none ∈ WA) ∧ (Cond.initialized yJ2_putChar_b72d1.cls ∈ WA) ∧ (yJ2_putChar_b72d1.cls ≠ "java/lang/invoke/MethodHandle" ∧ yJ2_putChar_b72d1.cls ≠ "java/lang/invoke/VarHandle" ∧ (parseMethodDescriptor yJ2_putChar_b72d1.desc).map (fun d => d.parameters.length) = some 3) := ⟨WA_of (i := 1360) (by decide +kernel) (by decide +kernel), kini_java_lang_StringUTF16, by decide +kernel, by decide +kernel, by decide +kernel⟩
theorem ksJ2_putChar_b72d1 : Cond.static yJ2_putChar_b72d1 ∈ WA := WA_of (i := 1359) (by decide +kernel) (by decide +kernel)
def mxJ2_getChar_3b067 : Nat := 2
theorem kvJ2_getChar_3b067 : (Cond.code yJ2_getChar_3b067 cJ2_getChar_3b067 2 (some .char) ∈ WA) ∧ (Cond.initialized yJ2_getChar_3b067.cls ∈ WA) ∧ (yJ2_getChar_3b067.cls ≠ "java/lang/invoke/MethodHandle" ∧ yJ2_getChar_3b067.cls ≠ "java/lang/invoke/VarHandle" ∧ (parseMethodDescriptor yJ2_getChar_3b067.desc).map (fun d => d.parameters.length) = some 2) := ⟨WA_of (i := 1486) (by decide +kernel) (by decide +kernel), kini_java_lang_StringUTF16, by decide +kernel, by decide +kernel, by decide +kernel⟩
theorem ksJ2_getChar_3b067 : Cond.static yJ2_getChar_3b067 ∈ WA := WA_of (i := 1485) (by decide +kernel) (by decide +kernel)
def mxJ2_length_9d52b : Nat := 1
theorem kvJ2_length_9d52b : (Cond.code yJ2_length_9d52b cJ2_length_9d52b 1 (some .int) ∈ WA) ∧ (Cond.initialized yJ2_length_9d52b.cls ∈ WA) ∧ (yJ2_length_9d52b.cls ≠ "java/lang/invoke/MethodHandle" ∧ yJ2_length_9d52b.cls ≠ "java/lang/invoke/VarHandle" ∧ (parseMethodDescriptor yJ2_length_9d52b.desc).map (fun d => d.parameters.length) = some 1) := ⟨WA_of (i := 1349) (by decide +kernel) (by decide +kernel), kini_java_lang_StringUTF16, by decide +kernel, by decide +kernel, by decide +kernel⟩
theorem ksJ2_length_9d52b : Cond.static yJ2_length_9d52b ∈ WA := WA_of (i := 1348) (by decide +kernel) (by decide +kernel)
def mxJ2_coderFromArrayLen_85cad : Nat := 2
theorem kvJ2_coderFromArrayLen_85cad : (Cond.code yJ2_coderFromArrayLen_85cad cJ2_coderFromArrayLen_85cad 2 (some .byte) ∈ WA) ∧ (Cond.initialized yJ2_coderFromArrayLen_85cad.cls ∈ WA) ∧ (yJ2_coderFromArrayLen_85cad.cls ≠ "java/lang/invoke/MethodHandle" ∧ yJ2_coderFromArrayLen_85cad.cls ≠ "java/lang/invoke/VarHandle" ∧ (parseMethodDescriptor yJ2_coderFromArrayLen_85cad.desc).map (fun d => d.parameters.length) = some 2) := ⟨WA_of (i := 1490) (by decide +kernel) (by decide +kernel), kini_java_lang_StringUTF16, by decide +kernel, by decide +kernel, by decide +kernel⟩
theorem ksJ2_coderFromArrayLen_85cad : Cond.static yJ2_coderFromArrayLen_85cad ∈ WA := WA_of (i := 1489) (by decide +kernel) (by decide +kernel)
def mxJ2_compress_39247 : Nat := 6
theorem kvJ2_compress_39247 : (Cond.code yJ2_compress_39247 cJ2_compress_39247 6 (some (.array .byte)) ∈ WA) ∧ (Cond.initialized yJ2_compress_39247.cls ∈ WA) ∧ (yJ2_compress_39247.cls ≠ "java/lang/invoke/MethodHandle" ∧ yJ2_compress_39247.cls ≠ "java/lang/invoke/VarHandle" ∧ (parseMethodDescriptor yJ2_compress_39247.desc).map (fun d => d.parameters.length) = some 3) := ⟨WA_of (i := 1480) (by decide +kernel) (by decide +kernel), kini_java_lang_StringUTF16, by decide +kernel, by decide +kernel, by decide +kernel⟩
theorem ksJ2_compress_39247 : Cond.static yJ2_compress_39247 ∈ WA := WA_of (i := 1479) (by decide +kernel) (by decide +kernel)
def mxJ2_compress_5af95 : Nat := 7
theorem kvJ2_compress_5af95 : (Cond.code yJ2_compress_5af95 cJ2_compress_5af95 7 (some .int) ∈ WA) ∧ (Cond.initialized yJ2_compress_5af95.cls ∈ WA) ∧ (yJ2_compress_5af95.cls ≠ "java/lang/invoke/MethodHandle" ∧ yJ2_compress_5af95.cls ≠ "java/lang/invoke/VarHandle" ∧ (parseMethodDescriptor yJ2_compress_5af95.desc).map (fun d => d.parameters.length) = some 5) := ⟨WA_of (i := 1483) (by decide +kernel) (by decide +kernel), kini_java_lang_StringUTF16, by decide +kernel, by decide +kernel, by decide +kernel⟩
theorem ksJ2_compress_5af95 : Cond.static yJ2_compress_5af95 ∈ WA := WA_of (i := 1482) (by decide +kernel) (by decide +kernel)
def mxJ2_fillNull_b72d1 : Nat := 3
theorem kvJ2_fillNull_b72d1 : (Cond.code yJ2_fillNull_b72d1 cJ2_fillNull_b72d1 3 none ∈ WA) ∧ (Cond.initialized yJ2_fillNull_b72d1.cls ∈ WA) ∧ (yJ2_fillNull_b72d1.cls ≠ "java/lang/invoke/MethodHandle" ∧ yJ2_fillNull_b72d1.cls ≠ "java/lang/invoke/VarHandle" ∧ (parseMethodDescriptor yJ2_fillNull_b72d1.desc).map (fun d => d.parameters.length) = some 3) := ⟨WA_of (i := 1530) (by decide +kernel) (by decide +kernel), kini_java_lang_StringUTF16, by decide +kernel, by decide +kernel, by decide +kernel⟩
theorem ksJ2_fillNull_b72d1 : Cond.static yJ2_fillNull_b72d1 ∈ WA := WA_of (i := 1529) (by decide +kernel) (by decide +kernel)
def mxJ2_putCharSB_b72d1 : Nat := 3
theorem kvJ2_putCharSB_b72d1 : (Cond.code yJ2_putCharSB_b72d1 cJ2_putCharSB_b72d1 3 none ∈ WA) ∧ (Cond.initialized yJ2_putCharSB_b72d1.cls ∈ WA) ∧ (yJ2_putCharSB_b72d1.cls ≠ "java/lang/invoke/MethodHandle" ∧ yJ2_putCharSB_b72d1.cls ≠ "java/lang/invoke/VarHandle" ∧ (parseMethodDescriptor yJ2_putCharSB_b72d1.desc).map (fun d => d.parameters.length) = some 3) := ⟨WA_of (i := 1549) (by decide +kernel) (by decide +kernel), kini_java_lang_StringUTF16, by decide +kernel, by decide +kernel, by decide +kernel⟩
theorem ksJ2_putCharSB_b72d1 : Cond.static yJ2_putCharSB_b72d1 ∈ WA := WA_of (i := 1548) (by decide +kernel) (by decide +kernel)
def mxJ2_getChars_46870 : Nat := 5
theorem kvJ2_getChars_46870 : (Cond.code yJ2_getChars_46870 cJ2_getChars_46870 5 (some .int) ∈ WA) ∧ (Cond.initialized yJ2_getChars_46870.cls ∈ WA) ∧ (yJ2_getChars_46870.cls ≠ "java/lang/invoke/MethodHandle" ∧ yJ2_getChars_46870.cls ≠ "java/lang/invoke/VarHandle" ∧ (parseMethodDescriptor yJ2_getChars_46870.desc).map (fun d => d.parameters.length) = some 4) := ⟨WA_of (i := 1429) (by decide +kernel) (by decide +kernel), kini_java_lang_StringUTF16, by decide +kernel, by decide +kernel, by decide +kernel⟩
theorem ksJ2_getChars_46870 : Cond.static yJ2_getChars_46870 ∈ WA := WA_of (i := 1428) (by decide +kernel) (by decide +kernel)
def mxJ2_putCharsAt_cd4e5 : Nat := 7
theorem kvJ2_putCharsAt_cd4e5 : (Cond.code yJ2_putCharsAt_cd4e5 cJ2_putCharsAt_cd4e5 7 (some .int) ∈ WA) ∧ (Cond.initialized yJ2_putCharsAt_cd4e5.cls ∈ WA) ∧ (yJ2_putCharsAt_cd4e5.cls ≠ "java/lang/invoke/MethodHandle" ∧ yJ2_putCharsAt_cd4e5.cls ≠ "java/lang/invoke/VarHandle" ∧ (parseMethodDescriptor yJ2_putCharsAt_cd4e5.desc).map (fun d => d.parameters.length) = some 6) := ⟨WA_of (i := 1343) (by decide +kernel) (by decide +kernel), kini_java_lang_StringUTF16, by decide +kernel, by decide +kernel, by decide +kernel⟩
theorem ksJ2_putCharsAt_cd4e5 : Cond.static yJ2_putCharsAt_cd4e5 ∈ WA := WA_of (i := 1342) (by decide +kernel) (by decide +kernel)
def mxJ2_charAt_3b067 : Nat := 2
theorem kvJ2_charAt_3b067 : (Cond.code yJ2_charAt_3b067 cJ2_charAt_3b067 2 (some .char) ∈ WA) ∧ (Cond.initialized yJ2_charAt_3b067.cls ∈ WA) ∧ (yJ2_charAt_3b067.cls ≠ "java/lang/invoke/MethodHandle" ∧ yJ2_charAt_3b067.cls ≠ "java/lang/invoke/VarHandle" ∧ (parseMethodDescriptor yJ2_charAt_3b067.desc).map (fun d => d.parameters.length) = some 2) := ⟨WA_of (i := 1649) (by decide +kernel) (by decide +kernel), kini_java_lang_StringUTF16, by decide +kernel, by decide +kernel, by decide +kernel⟩
theorem ksJ2_charAt_3b067 : Cond.static yJ2_charAt_3b067 ∈ WA := WA_of (i := 1648) (by decide +kernel) (by decide +kernel)
def mxJ2_inflate_0e8fd : Nat := 6
theorem kvJ2_inflate_0e8fd : (Cond.code yJ2_inflate_0e8fd cJ2_inflate_0e8fd 6 none ∈ WA) ∧ (Cond.initialized yJ2_inflate_0e8fd.cls ∈ WA) ∧ (yJ2_inflate_0e8fd.cls ≠ "java/lang/invoke/MethodHandle" ∧ yJ2_inflate_0e8fd.cls ≠ "java/lang/invoke/VarHandle" ∧ (parseMethodDescriptor yJ2_inflate_0e8fd.desc).map (fun d => d.parameters.length) = some 5) := ⟨WA_of (i := 1394) (by decide +kernel) (by decide +kernel), kini_java_lang_StringUTF16, by decide +kernel, by decide +kernel, by decide +kernel⟩
theorem ksJ2_inflate_0e8fd : Cond.static yJ2_inflate_0e8fd ∈ WA := WA_of (i := 1393) (by decide +kernel) (by decide +kernel)
def mxJ2_getChars_ba4f3 : Nat := 7
theorem kvJ2_getChars_ba4f3 : (Cond.code yJ2_getChars_ba4f3 cJ2_getChars_ba4f3 7 (some .int) ∈ WA) ∧ (Cond.initialized yJ2_getChars_ba4f3.cls ∈ WA) ∧ (yJ2_getChars_ba4f3.cls ≠ "java/lang/invoke/MethodHandle" ∧ yJ2_getChars_ba4f3.cls ≠ "java/lang/invoke/VarHandle" ∧ (parseMethodDescriptor yJ2_getChars_ba4f3.desc).map (fun d => d.parameters.length) = some 3) := ⟨WA_of (i := 1432) (by decide +kernel) (by decide +kernel), kini_java_lang_StringUTF16, by decide +kernel, by decide +kernel, by decide +kernel⟩
theorem ksJ2_getChars_ba4f3 : Cond.static yJ2_getChars_ba4f3 ∈ WA := WA_of (i := 1431) (by decide +kernel) (by decide +kernel)
def mxJ2_checkIndex_2214a : Nat := 2
theorem kvJ2_checkIndex_2214a : (Cond.code yJ2_checkIndex_2214a cJ2_checkIndex_2214a 2 none ∈ WA) ∧ (Cond.initialized yJ2_checkIndex_2214a.cls ∈ WA) ∧ (yJ2_checkIndex_2214a.cls ≠ "java/lang/invoke/MethodHandle" ∧ yJ2_checkIndex_2214a.cls ≠ "java/lang/invoke/VarHandle" ∧ (parseMethodDescriptor yJ2_checkIndex_2214a.desc).map (fun d => d.parameters.length) = some 2) := ⟨WA_of (i := 1552) (by decide +kernel) (by decide +kernel), kini_java_lang_StringUTF16, by decide +kernel, by decide +kernel, by decide +kernel⟩
theorem ksJ2_checkIndex_2214a : Cond.static yJ2_checkIndex_2214a ∈ WA := WA_of (i := 1551) (by decide +kernel) (by decide +kernel)
def mxJ2_checkBoundsBeginEnd_d044e : Nat := 3
theorem kvJ2_checkBoundsBeginEnd_d044e : (Cond.code yJ2_checkBoundsBeginEnd_d044e cJ2_checkBoundsBeginEnd_d044e 3 none ∈ WA) ∧ (Cond.initialized yJ2_checkBoundsBeginEnd_d044e.cls ∈ WA) ∧ (yJ2_checkBoundsBeginEnd_d044e.cls ≠ "java/lang/invoke/MethodHandle" ∧ yJ2_checkBoundsBeginEnd_d044e.cls ≠ "java/lang/invoke/VarHandle" ∧ (parseMethodDescriptor yJ2_checkBoundsBeginEnd_d044e.desc).map (fun d => d.parameters.length) = some 3) := ⟨WA_of (i := 1346) (by decide +kernel) (by decide +kernel), kini_java_lang_StringUTF16, by decide +kernel, by decide +kernel, by decide +kernel⟩
theorem ksJ2_checkBoundsBeginEnd_d044e : Cond.static yJ2_checkBoundsBeginEnd_d044e ∈ WA := WA_of (i := 1345) (by decide +kernel) (by decide +kernel)
def mxJ2_checkBoundsOffCount_d044e : Nat := 3
theorem kvJ2_checkBoundsOffCount_d044e : (Cond.code yJ2_checkBoundsOffCount_d044e cJ2_checkBoundsOffCount_d044e 3 none ∈ WA) ∧ (Cond.initialized yJ2_checkBoundsOffCount_d044e.cls ∈ WA) ∧ (yJ2_checkBoundsOffCount_d044e.cls ≠ "java/lang/invoke/MethodHandle" ∧ yJ2_checkBoundsOffCount_d044e.cls ≠ "java/lang/invoke/VarHandle" ∧ (parseMethodDescriptor yJ2_checkBoundsOffCount_d044e.desc).map (fun d => d.parameters.length) = some 3) := ⟨WA_of (i := 1397) (by decide +kernel) (by decide +kernel), kini_java_lang_StringUTF16, by decide +kernel, by decide +kernel, by decide +kernel⟩
theorem ksJ2_checkBoundsOffCount_d044e : Cond.static yJ2_checkBoundsOffCount_d044e ∈ WA := WA_of (i := 1396) (by decide +kernel) (by decide +kernel)
def mxJ7_rangeCheck_23922 : Nat := 3
theorem kvJ7_rangeCheck_23922 : (Cond.code yJ7_rangeCheck_23922 cJ7_rangeCheck_23922 3 none ∈ WA) ∧ (Cond.initialized yJ7_rangeCheck_23922.cls ∈ WA) ∧ (yJ7_rangeCheck_23922.cls ≠ "java/lang/invoke/MethodHandle" ∧ yJ7_rangeCheck_23922.cls ≠ "java/lang/invoke/VarHandle" ∧ (parseMethodDescriptor yJ7_rangeCheck_23922.desc).map (fun d => d.parameters.length) = some 3) := ⟨WA_of (i := 1514) (by decide +kernel) (by decide +kernel), kini_java_util_Arrays, by decide +kernel, by decide +kernel, by decide +kernel⟩
theorem ksJ7_rangeCheck_23922 : Cond.static yJ7_rangeCheck_23922 ∈ WA := WA_of (i := 1513) (by decide +kernel) (by decide +kernel)
def mxJ7_fill_eb02e : Nat := 5
theorem kvJ7_fill_eb02e : (Cond.code yJ7_fill_eb02e cJ7_fill_eb02e 5 none ∈ WA) ∧ (Cond.initialized yJ7_fill_eb02e.cls ∈ WA) ∧ (yJ7_fill_eb02e.cls ≠ "java/lang/invoke/MethodHandle" ∧ yJ7_fill_eb02e.cls ≠ "java/lang/invoke/VarHandle" ∧ (parseMethodDescriptor yJ7_fill_eb02e.desc).map (fun d => d.parameters.length) = some 4) := ⟨WA_of (i := 1511) (by decide +kernel) (by decide +kernel), kini_java_util_Arrays, by decide +kernel, by decide +kernel, by decide +kernel⟩
theorem ksJ7_fill_eb02e : Cond.static yJ7_fill_eb02e ∈ WA := WA_of (i := 1510) (by decide +kernel) (by decide +kernel)
def mxJ7_copyOf_9075b : Nat := 3
theorem kvJ7_copyOf_9075b : (Cond.code yJ7_copyOf_9075b cJ7_copyOf_9075b 3 (some (.array .byte)) ∈ WA) ∧ (Cond.initialized yJ7_copyOf_9075b.cls ∈ WA) ∧ (yJ7_copyOf_9075b.cls ≠ "java/lang/invoke/MethodHandle" ∧ yJ7_copyOf_9075b.cls ≠ "java/lang/invoke/VarHandle" ∧ (parseMethodDescriptor yJ7_copyOf_9075b.desc).map (fun d => d.parameters.length) = some 2) := ⟨WA_of (i := 1326) (by decide +kernel) (by decide +kernel), kini_java_util_Arrays, by decide +kernel, by decide +kernel, by decide +kernel⟩
theorem ksJ7_copyOf_9075b : Cond.static yJ7_copyOf_9075b ∈ WA := WA_of (i := 1325) (by decide +kernel) (by decide +kernel)
def mxJ7_checkLength_df160 : Nat := 2
theorem kvJ7_checkLength_df160 : (Cond.code yJ7_checkLength_df160 cJ7_checkLength_df160 2 none ∈ WA) ∧ (Cond.initialized yJ7_checkLength_df160.cls ∈ WA) ∧ (yJ7_checkLength_df160.cls ≠ "java/lang/invoke/MethodHandle" ∧ yJ7_checkLength_df160.cls ≠ "java/lang/invoke/VarHandle" ∧ (parseMethodDescriptor yJ7_checkLength_df160.desc).map (fun d => d.parameters.length) = some 2) := ⟨WA_of (i := 1469) (by decide +kernel) (by decide +kernel), kini_java_util_Arrays, by decide +kernel, by decide +kernel, by decide +kernel⟩
theorem ksJ7_checkLength_df160 : Cond.static yJ7_checkLength_df160 ∈ WA := WA_of (i := 1468) (by decide +kernel) (by decide +kernel)
def mxJ7_copyOfRange_39247 : Nat := 3
theorem kvJ7_copyOfRange_39247 : (Cond.code yJ7_copyOfRange_39247 cJ7_copyOfRange_39247 3 (some (.array .byte)) ∈ WA) ∧ (Cond.initialized yJ7_copyOfRange_39247.cls ∈ WA) ∧ (yJ7_copyOfRange_39247.cls ≠ "java/lang/invoke/MethodHandle" ∧ yJ7_copyOfRange_39247.cls ≠ "java/lang/invoke/VarHandle" ∧ (parseMethodDescriptor yJ7_copyOfRange_39247.desc).map (fun d => d.parameters.length) = some 3) := ⟨WA_of (i := 1463) (by decide +kernel) (by decide +kernel), kini_java_util_Arrays, by decide +kernel, by decide +kernel, by decide +kernel⟩
theorem ksJ7_copyOfRange_39247 : Cond.static yJ7_copyOfRange_39247 ∈ WA := WA_of (i := 1462) (by decide +kernel) (by decide +kernel)
def mxJ7_copyOfRangeByte_39247 : Nat := 5
theorem kvJ7_copyOfRangeByte_39247 : (Cond.code yJ7_copyOfRangeByte_39247 cJ7_copyOfRangeByte_39247 5 (some (.array .byte)) ∈ WA) ∧ (Cond.initialized yJ7_copyOfRangeByte_39247.cls ∈ WA) ∧ (yJ7_copyOfRangeByte_39247.cls ≠ "java/lang/invoke/MethodHandle" ∧ yJ7_copyOfRangeByte_39247.cls ≠ "java/lang/invoke/VarHandle" ∧ (parseMethodDescriptor yJ7_copyOfRangeByte_39247.desc).map (fun d => d.parameters.length) = some 3) := ⟨WA_of (i := 1466) (by decide +kernel) (by decide +kernel), kini_java_util_Arrays, by decide +kernel, by decide +kernel, by decide +kernel⟩
theorem ksJ7_copyOfRangeByte_39247 : Cond.static yJ7_copyOfRangeByte_39247 ∈ WA := WA_of (i := 1465) (by decide +kernel) (by decide +kernel)
def mxJ8_newLength_cabcc : Nat := 4
theorem kvJ8_newLength_cabcc : (Cond.code yJ8_newLength_cabcc cJ8_newLength_cabcc 4 (some .int) ∈ WA) ∧ (Cond.initialized yJ8_newLength_cabcc.cls ∈ WA) ∧ (yJ8_newLength_cabcc.cls ≠ "java/lang/invoke/MethodHandle" ∧ yJ8_newLength_cabcc.cls ≠ "java/lang/invoke/VarHandle" ∧ (parseMethodDescriptor yJ8_newLength_cabcc.desc).map (fun d => d.parameters.length) = some 3) := ⟨WA_of (i := 1317) (by decide +kernel) (by decide +kernel), kini_jdk_internal_util_ArraysSupport, by decide +kernel, by decide +kernel, by decide +kernel⟩
theorem ksJ8_newLength_cabcc : Cond.static yJ8_newLength_cabcc ∈ WA := WA_of (i := 1316) (by decide +kernel) (by decide +kernel)
def mxJ8_hugeLength_7cf53 : Nat := 3
theorem kvJ8_hugeLength_7cf53 : (Cond.code yJ8_hugeLength_7cf53 cJ8_hugeLength_7cf53 3 (some .int) ∈ WA) ∧ (Cond.initialized yJ8_hugeLength_7cf53.cls ∈ WA) ∧ (yJ8_hugeLength_7cf53.cls ≠ "java/lang/invoke/MethodHandle" ∧ yJ8_hugeLength_7cf53.cls ≠ "java/lang/invoke/VarHandle" ∧ (parseMethodDescriptor yJ8_hugeLength_7cf53.desc).map (fun d => d.parameters.length) = some 2) := ⟨WA_of (i := 1322) (by decide +kernel) (by decide +kernel), kini_jdk_internal_util_ArraysSupport, by decide +kernel, by decide +kernel, by decide +kernel⟩
theorem ksJ8_hugeLength_7cf53 : Cond.static yJ8_hugeLength_7cf53 ∈ WA := WA_of (i := 1321) (by decide +kernel) (by decide +kernel)
def mxJ3_checkIndex_8e157 : Nat := 3
theorem kvJ3_checkIndex_8e157 : (Cond.code yJ3_checkIndex_8e157 cJ3_checkIndex_8e157 3 (some .int) ∈ WA) ∧ (Cond.initialized yJ3_checkIndex_8e157.cls ∈ WA) ∧ (yJ3_checkIndex_8e157.cls ≠ "java/lang/invoke/MethodHandle" ∧ yJ3_checkIndex_8e157.cls ≠ "java/lang/invoke/VarHandle" ∧ (parseMethodDescriptor yJ3_checkIndex_8e157.desc).map (fun d => d.parameters.length) = some 3) := ⟨WA_of (i := 1558) (by decide +kernel) (by decide +kernel), kini_jdk_internal_util_Preconditions, by decide +kernel, by decide +kernel, by decide +kernel⟩
theorem ksJ3_checkIndex_8e157 : Cond.static yJ3_checkIndex_8e157 ∈ WA := WA_of (i := 1557) (by decide +kernel) (by decide +kernel)
def mxJ3_checkFromToIndex_8c36e : Nat := 4
theorem kvJ3_checkFromToIndex_8c36e : (Cond.code yJ3_checkFromToIndex_8c36e cJ3_checkFromToIndex_8c36e 4 (some .int) ∈ WA) ∧ (Cond.initialized yJ3_checkFromToIndex_8c36e.cls ∈ WA) ∧ (yJ3_checkFromToIndex_8c36e.cls ≠ "java/lang/invoke/MethodHandle" ∧ yJ3_checkFromToIndex_8c36e.cls ≠ "java/lang/invoke/VarHandle" ∧ (parseMethodDescriptor yJ3_checkFromToIndex_8c36e.desc).map (fun d => d.parameters.length) = some 4) := ⟨WA_of (i := 1357) (by decide +kernel) (by decide +kernel), kini_jdk_internal_util_Preconditions, by decide +kernel, by decide +kernel, by decide +kernel⟩
theorem ksJ3_checkFromToIndex_8c36e : Cond.static yJ3_checkFromToIndex_8c36e ∈ WA := WA_of (i := 1356) (by decide +kernel) (by decide +kernel)
def mxJ3_checkFromIndexSize_8c36e : Nat := 4
theorem kvJ3_checkFromIndexSize_8c36e : (Cond.code yJ3_checkFromIndexSize_8c36e cJ3_checkFromIndexSize_8c36e 4 (some .int) ∈ WA) ∧ (Cond.initialized yJ3_checkFromIndexSize_8c36e.cls ∈ WA) ∧ (yJ3_checkFromIndexSize_8c36e.cls ≠ "java/lang/invoke/MethodHandle" ∧ yJ3_checkFromIndexSize_8c36e.cls ≠ "java/lang/invoke/VarHandle" ∧ (parseMethodDescriptor yJ3_checkFromIndexSize_8c36e.desc).map (fun d => d.parameters.length) = some 4) := ⟨WA_of (i := 1403) (by decide +kernel) (by decide +kernel), kini_jdk_internal_util_Preconditions, by decide +kernel, by decide +kernel, by decide +kernel⟩
theorem ksJ3_checkFromIndexSize_8c36e : Cond.static yJ3_checkFromIndexSize_8c36e ∈ WA := WA_of (i := 1402) (by decide +kernel) (by decide +kernel)
theorem ksL_charge : Cond.static yL_charge ∈ WA := WA_of (i := 605) (by decide +kernel) (by decide +kernel)
theorem ksL_addWitness : Cond.static yL_addWitness ∈ WA := WA_of (i := 871) (by decide +kernel) (by decide +kernel)
theorem ksL_testify : Cond.static yL_testify ∈ WA := WA_of (i := 878) (by decide +kernel) (by decide +kernel)
theorem ksL_question : Cond.static yL_question ∈ WA := WA_of (i := 906) (by decide +kernel) (by decide +kernel)
theorem ksL_decide : Cond.static yL_decide ∈ WA := WA_of (i := 914) (by decide +kernel) (by decide +kernel)
theorem ksL_appeal : Cond.static yL_appeal ∈ WA := WA_of (i := 921) (by decide +kernel) (by decide +kernel)
theorem ksL_close : Cond.static yL_close ∈ WA := WA_of (i := 928) (by decide +kernel) (by decide +kernel)
theorem ksL_caseOf : Cond.static yL_caseOf ∈ WA := WA_of (i := 935) (by decide +kernel) (by decide +kernel)
theorem ksL_defendantOf : Cond.static yL_defendantOf ∈ WA := WA_of (i := 947) (by decide +kernel) (by decide +kernel)
theorem ksL_offenceOf : Cond.static yL_offenceOf ∈ WA := WA_of (i := 960) (by decide +kernel) (by decide +kernel)
theorem ksL_isOpen : Cond.static yL_isOpen ∈ WA := WA_of (i := 967) (by decide +kernel) (by decide +kernel)
theorem ksL_isDecided : Cond.static yL_isDecided ∈ WA := WA_of (i := 974) (by decide +kernel) (by decide +kernel)
theorem ksL_isClosed : Cond.static yL_isClosed ∈ WA := WA_of (i := 981) (by decide +kernel) (by decide +kernel)
theorem ksL_isGuilty : Cond.static yL_isGuilty ∈ WA := WA_of (i := 988) (by decide +kernel) (by decide +kernel)
theorem ksL_appealCount : Cond.static yL_appealCount ∈ WA := WA_of (i := 997) (by decide +kernel) (by decide +kernel)
theorem ksL_testimonyCount : Cond.static yL_testimonyCount ∈ WA := WA_of (i := 1004) (by decide +kernel) (by decide +kernel)
theorem ksL_witnessAt : Cond.static yL_witnessAt ∈ WA := WA_of (i := 1011) (by decide +kernel) (by decide +kernel)
theorem ksL_hasTestified : Cond.static yL_hasTestified ∈ WA := WA_of (i := 1020) (by decide +kernel) (by decide +kernel)
theorem ksL_isForProsecution : Cond.static yL_isForProsecution ∈ WA := WA_of (i := 1034) (by decide +kernel) (by decide +kernel)
theorem ksL_strength : Cond.static yL_strength ∈ WA := WA_of (i := 1046) (by decide +kernel) (by decide +kernel)
theorem ksL_questionCount : Cond.static yL_questionCount ∈ WA := WA_of (i := 1054) (by decide +kernel) (by decide +kernel)
theorem ksL_credibility : Cond.static yL_credibility ∈ WA := WA_of (i := 1062) (by decide +kernel) (by decide +kernel)
theorem ksL_casesOfWitness : Cond.static yL_casesOfWitness ∈ WA := WA_of (i := 1069) (by decide +kernel) (by decide +kernel)
theorem ksL_mostCredible : Cond.static yL_mostCredible ∈ WA := WA_of (i := 1080) (by decide +kernel) (by decide +kernel)
theorem ksL_agreement : Cond.static yL_agreement ∈ WA := WA_of (i := 1101) (by decide +kernel) (by decide +kernel)
theorem ksL_areConnected : Cond.static yL_areConnected ∈ WA := WA_of (i := 1113) (by decide +kernel) (by decide +kernel)
theorem ksL_areConnectedBySearch : Cond.static yL_areConnectedBySearch ∈ WA := WA_of (i := 1120) (by decide +kernel) (by decide +kernel)
theorem ksL_groupSize : Cond.static yL_groupSize ∈ WA := WA_of (i := 1127) (by decide +kernel) (by decide +kernel)
theorem ksL_heaviestWitness : Cond.static yL_heaviestWitness ∈ WA := WA_of (i := 1139) (by decide +kernel) (by decide +kernel)
theorem ksL_nextToDecide : Cond.static yL_nextToDecide ∈ WA := WA_of (i := 1150) (by decide +kernel) (by decide +kernel)
theorem ksL_prosecutionWeight : Cond.static yL_prosecutionWeight ∈ WA := WA_of (i := 1162) (by decide +kernel) (by decide +kernel)
theorem ksL_defenceWeight : Cond.static yL_defenceWeight ∈ WA := WA_of (i := 1172) (by decide +kernel) (by decide +kernel)
theorem ksL_margin : Cond.static yL_margin ∈ WA := WA_of (i := 1179) (by decide +kernel) (by decide +kernel)
theorem ksL_marginByCredibility : Cond.static yL_marginByCredibility ∈ WA := WA_of (i := 1186) (by decide +kernel) (by decide +kernel)
theorem ksL_firmAnswersToGuilty : Cond.static yL_firmAnswersToGuilty ∈ WA := WA_of (i := 1193) (by decide +kernel) (by decide +kernel)
theorem ksL_sentence : Cond.static yL_sentence ∈ WA := WA_of (i := 1205) (by decide +kernel) (by decide +kernel)
theorem ksL_sentenceByCases : Cond.static yL_sentenceByCases ∈ WA := WA_of (i := 1216) (by decide +kernel) (by decide +kernel)
theorem ksL_docketAt : Cond.static yL_docketAt ∈ WA := WA_of (i := 1223) (by decide +kernel) (by decide +kernel)
theorem ksL_docketPosition : Cond.static yL_docketPosition ∈ WA := WA_of (i := 1231) (by decide +kernel) (by decide +kernel)
theorem ksL_meanCredibility : Cond.static yL_meanCredibility ∈ WA := WA_of (i := 1239) (by decide +kernel) (by decide +kernel)
theorem ksL_guiltyShare : Cond.static yL_guiltyShare ∈ WA := WA_of (i := 1267) (by decide +kernel) (by decide +kernel)
theorem ksL_formatCase : Cond.static yL_formatCase ∈ WA := WA_of (i := 1275) (by decide +kernel) (by decide +kernel)
theorem ksL_formatWitness : Cond.static yL_formatWitness ∈ WA := WA_of (i := 1565) (by decide +kernel) (by decide +kernel)
theorem ksL_lineChar : Cond.static yL_lineChar ∈ WA := WA_of (i := 1572) (by decide +kernel) (by decide +kernel)
theorem ksL_append : Cond.static yL_append ∈ WA := WA_of (i := 1590) (by decide +kernel) (by decide +kernel)
theorem ksL_run : Cond.static yL_run ∈ WA := WA_of (i := 1599) (by decide +kernel) (by decide +kernel)
theorem ksL_errorPosition : Cond.static yL_errorPosition ∈ WA := WA_of (i := 1700) (by decide +kernel) (by decide +kernel)
theorem ksL_failedCommand : Cond.static yL_failedCommand ∈ WA := WA_of (i := 1708) (by decide +kernel) (by decide +kernel)
theorem ksL_isFailureOfState : Cond.static yL_isFailureOfState ∈ WA := WA_of (i := 1720) (by decide +kernel) (by decide +kernel)
theorem ksL_undo : Cond.static yL_undo ∈ WA := WA_of (i := 1727) (by decide +kernel) (by decide +kernel)
theorem ksL_restore : Cond.static yL_restore ∈ WA := WA_of (i := 1739) (by decide +kernel) (by decide +kernel)
theorem klay_X0_0 : u_lay RX0 TX0 0 ∈ WA := WA_of (i := 192) (by decide +kernel) (by decide +kernel)
theorem klay_X0_1 : u_lay RX0 TX0 1 ∈ WA := WA_of (i := 194) (by decide +kernel) (by decide +kernel)
theorem klay_X0_2 : u_lay RX0 TX0 2 ∈ WA := WA_of (i := 196) (by decide +kernel) (by decide +kernel)
theorem klay_X0_3 : u_lay RX0 TX0 3 ∈ WA := WA_of (i := 198) (by decide +kernel) (by decide +kernel)
theorem klay_X0_4 : u_lay RX0 TX0 4 ∈ WA := WA_of (i := 200) (by decide +kernel) (by decide +kernel)
theorem klay_X0_5 : u_lay RX0 TX0 5 ∈ WA := WA_of (i := 202) (by decide +kernel) (by decide +kernel)
theorem klay_X0_6 : u_lay RX0 TX0 6 ∈ WA := WA_of (i := 204) (by decide +kernel) (by decide +kernel)
theorem klay_X0_7 : u_lay RX0 TX0 7 ∈ WA := WA_of (i := 206) (by decide +kernel) (by decide +kernel)
theorem klay_X0_8 : u_lay RX0 TX0 8 ∈ WA := WA_of (i := 208) (by decide +kernel) (by decide +kernel)
theorem klay_X0_9 : u_lay RX0 TX0 9 ∈ WA := WA_of (i := 210) (by decide +kernel) (by decide +kernel)
theorem klay_X0_10 : u_lay RX0 TX0 10 ∈ WA := WA_of (i := 212) (by decide +kernel) (by decide +kernel)
theorem klay_X0_11 : u_lay RX0 TX0 11 ∈ WA := WA_of (i := 214) (by decide +kernel) (by decide +kernel)
theorem klay_X0_12 : u_lay RX0 TX0 12 ∈ WA := WA_of (i := 216) (by decide +kernel) (by decide +kernel)
theorem klay_X0_13 : u_lay RX0 TX0 13 ∈ WA := WA_of (i := 218) (by decide +kernel) (by decide +kernel)
theorem klay_X0_14 : u_lay RX0 TX0 14 ∈ WA := WA_of (i := 220) (by decide +kernel) (by decide +kernel)
theorem klay_X0_15 : u_lay RX0 TX0 15 ∈ WA := WA_of (i := 222) (by decide +kernel) (by decide +kernel)
theorem klay_X0_16 : u_lay RX0 TX0 16 ∈ WA := WA_of (i := 224) (by decide +kernel) (by decide +kernel)
theorem inX0 : ∀ w ∈ u_ws RX0 TX0 17, w ∈ WA := by
  intro w h
  obtain ⟨k, hk, rfl⟩ := List.mem_map.mp h
  have hk := List.mem_range.mp hk
  rcases (show k = 0 ∨ k = 1 ∨ k = 2 ∨ k = 3 ∨ k = 4 ∨ k = 5 ∨ k = 6 ∨ k = 7 ∨ k = 8 ∨ k = 9 ∨ k = 10 ∨ k = 11 ∨ k = 12 ∨ k = 13 ∨ k = 14 ∨ k = 15 ∨ k = 16 by omega) with rfl | rfl | rfl | rfl | rfl | rfl | rfl | rfl | rfl | rfl | rfl | rfl | rfl | rfl | rfl | rfl | rfl
  · exact klay_X0_0
  · exact klay_X0_1
  · exact klay_X0_2
  · exact klay_X0_3
  · exact klay_X0_4
  · exact klay_X0_5
  · exact klay_X0_6
  · exact klay_X0_7
  · exact klay_X0_8
  · exact klay_X0_9
  · exact klay_X0_10
  · exact klay_X0_11
  · exact klay_X0_12
  · exact klay_X0_13
  · exact klay_X0_14
  · exact klay_X0_15
  · exact klay_X0_16
theorem klay_X1_0 : u_lay RX1 TX1 0 ∈ WA := WA_of (i := 259) (by decide +kernel) (by decide +kernel)
theorem klay_X1_1 : u_lay RX1 TX1 1 ∈ WA := WA_of (i := 261) (by decide +kernel) (by decide +kernel)
theorem inX1 : ∀ w ∈ u_ws RX1 TX1 2, w ∈ WA := by
  intro w h
  obtain ⟨k, hk, rfl⟩ := List.mem_map.mp h
  have hk := List.mem_range.mp hk
  rcases (show k = 0 ∨ k = 1 by omega) with rfl | rfl
  · exact klay_X1_0
  · exact klay_X1_1
theorem klay_X3_0 : u_lay RX3 TX3 0 ∈ WA := WA_of (i := 155) (by decide +kernel) (by decide +kernel)
theorem inX3 : ∀ w ∈ u_ws RX3 TX3 1, w ∈ WA := by
  intro w h
  obtain ⟨k, hk, rfl⟩ := List.mem_map.mp h
  have hk := List.mem_range.mp hk
  rcases (show k = 0 by omega) with rfl
  · exact klay_X3_0
theorem klay_X4_0 : u_lay RX4 TX4 0 ∈ WA := WA_of (i := 240) (by decide +kernel) (by decide +kernel)
theorem klay_X4_1 : u_lay RX4 TX4 1 ∈ WA := WA_of (i := 242) (by decide +kernel) (by decide +kernel)
theorem klay_X4_2 : u_lay RX4 TX4 2 ∈ WA := WA_of (i := 244) (by decide +kernel) (by decide +kernel)
theorem inX4 : ∀ w ∈ u_ws RX4 TX4 3, w ∈ WA := by
  intro w h
  obtain ⟨k, hk, rfl⟩ := List.mem_map.mp h
  have hk := List.mem_range.mp hk
  rcases (show k = 0 ∨ k = 1 ∨ k = 2 by omega) with rfl | rfl | rfl
  · exact klay_X4_0
  · exact klay_X4_1
  · exact klay_X4_2
theorem klay_X5_0 : u_lay RX5 TX5 0 ∈ WA := WA_of (i := 339) (by decide +kernel) (by decide +kernel)
theorem klay_X5_1 : u_lay RX5 TX5 1 ∈ WA := WA_of (i := 341) (by decide +kernel) (by decide +kernel)
theorem klay_X5_2 : u_lay RX5 TX5 2 ∈ WA := WA_of (i := 343) (by decide +kernel) (by decide +kernel)
theorem klay_X5_3 : u_lay RX5 TX5 3 ∈ WA := WA_of (i := 345) (by decide +kernel) (by decide +kernel)
theorem klay_X5_4 : u_lay RX5 TX5 4 ∈ WA := WA_of (i := 347) (by decide +kernel) (by decide +kernel)
theorem klay_X5_5 : u_lay RX5 TX5 5 ∈ WA := WA_of (i := 349) (by decide +kernel) (by decide +kernel)
theorem klay_X5_6 : u_lay RX5 TX5 6 ∈ WA := WA_of (i := 351) (by decide +kernel) (by decide +kernel)
theorem klay_X5_7 : u_lay RX5 TX5 7 ∈ WA := WA_of (i := 353) (by decide +kernel) (by decide +kernel)
theorem inX5 : ∀ w ∈ u_ws RX5 TX5 8, w ∈ WA := by
  intro w h
  obtain ⟨k, hk, rfl⟩ := List.mem_map.mp h
  have hk := List.mem_range.mp hk
  rcases (show k = 0 ∨ k = 1 ∨ k = 2 ∨ k = 3 ∨ k = 4 ∨ k = 5 ∨ k = 6 ∨ k = 7 by omega) with rfl | rfl | rfl | rfl | rfl | rfl | rfl | rfl
  · exact klay_X5_0
  · exact klay_X5_1
  · exact klay_X5_2
  · exact klay_X5_3
  · exact klay_X5_4
  · exact klay_X5_5
  · exact klay_X5_6
  · exact klay_X5_7
theorem klay_X6_0 : u_lay RX6 TX6 0 ∈ WA := WA_of (i := 141) (by decide +kernel) (by decide +kernel)
theorem inX6 : ∀ w ∈ u_ws RX6 TX6 1, w ∈ WA := by
  intro w h
  obtain ⟨k, hk, rfl⟩ := List.mem_map.mp h
  have hk := List.mem_range.mp hk
  rcases (show k = 0 by omega) with rfl
  · exact klay_X6_0
theorem klay_X7_0 : u_lay RX7 TX7 0 ∈ WA := WA_of (i := 275) (by decide +kernel) (by decide +kernel)
theorem klay_X7_1 : u_lay RX7 TX7 1 ∈ WA := WA_of (i := 277) (by decide +kernel) (by decide +kernel)
theorem klay_X7_2 : u_lay RX7 TX7 2 ∈ WA := WA_of (i := 279) (by decide +kernel) (by decide +kernel)
theorem inX7 : ∀ w ∈ u_ws RX7 TX7 3, w ∈ WA := by
  intro w h
  obtain ⟨k, hk, rfl⟩ := List.mem_map.mp h
  have hk := List.mem_range.mp hk
  rcases (show k = 0 ∨ k = 1 ∨ k = 2 by omega) with rfl | rfl | rfl
  · exact klay_X7_0
  · exact klay_X7_1
  · exact klay_X7_2
theorem klay_X9_0 : u_lay RX9 TX9 0 ∈ WA := WA_of (i := 370) (by decide +kernel) (by decide +kernel)
theorem klay_X9_1 : u_lay RX9 TX9 1 ∈ WA := WA_of (i := 372) (by decide +kernel) (by decide +kernel)
theorem klay_X9_2 : u_lay RX9 TX9 2 ∈ WA := WA_of (i := 374) (by decide +kernel) (by decide +kernel)
theorem klay_X9_3 : u_lay RX9 TX9 3 ∈ WA := WA_of (i := 376) (by decide +kernel) (by decide +kernel)
theorem klay_X9_4 : u_lay RX9 TX9 4 ∈ WA := WA_of (i := 378) (by decide +kernel) (by decide +kernel)
theorem klay_X9_5 : u_lay RX9 TX9 5 ∈ WA := WA_of (i := 380) (by decide +kernel) (by decide +kernel)
theorem klay_X9_6 : u_lay RX9 TX9 6 ∈ WA := WA_of (i := 382) (by decide +kernel) (by decide +kernel)
theorem klay_X9_7 : u_lay RX9 TX9 7 ∈ WA := WA_of (i := 384) (by decide +kernel) (by decide +kernel)
theorem klay_X9_8 : u_lay RX9 TX9 8 ∈ WA := WA_of (i := 386) (by decide +kernel) (by decide +kernel)
theorem klay_X9_9 : u_lay RX9 TX9 9 ∈ WA := WA_of (i := 388) (by decide +kernel) (by decide +kernel)
theorem klay_X9_10 : u_lay RX9 TX9 10 ∈ WA := WA_of (i := 390) (by decide +kernel) (by decide +kernel)
theorem klay_X9_11 : u_lay RX9 TX9 11 ∈ WA := WA_of (i := 392) (by decide +kernel) (by decide +kernel)
theorem inX9 : ∀ w ∈ u_ws RX9 TX9 12, w ∈ WA := by
  intro w h
  obtain ⟨k, hk, rfl⟩ := List.mem_map.mp h
  have hk := List.mem_range.mp hk
  rcases (show k = 0 ∨ k = 1 ∨ k = 2 ∨ k = 3 ∨ k = 4 ∨ k = 5 ∨ k = 6 ∨ k = 7 ∨ k = 8 ∨ k = 9 ∨ k = 10 ∨ k = 11 by omega) with rfl | rfl | rfl | rfl | rfl | rfl | rfl | rfl | rfl | rfl | rfl | rfl
  · exact klay_X9_0
  · exact klay_X9_1
  · exact klay_X9_2
  · exact klay_X9_3
  · exact klay_X9_4
  · exact klay_X9_5
  · exact klay_X9_6
  · exact klay_X9_7
  · exact klay_X9_8
  · exact klay_X9_9
  · exact klay_X9_10
  · exact klay_X9_11
theorem klay_X10_0 : u_lay RX10 TX10 0 ∈ WA := WA_of (i := 1772) (by decide +kernel) (by decide +kernel)
theorem klay_X10_1 : u_lay RX10 TX10 1 ∈ WA := WA_of (i := 1774) (by decide +kernel) (by decide +kernel)
theorem klay_X10_2 : u_lay RX10 TX10 2 ∈ WA := WA_of (i := 1776) (by decide +kernel) (by decide +kernel)
theorem klay_X10_3 : u_lay RX10 TX10 3 ∈ WA := WA_of (i := 1778) (by decide +kernel) (by decide +kernel)
theorem klay_X10_4 : u_lay RX10 TX10 4 ∈ WA := WA_of (i := 1780) (by decide +kernel) (by decide +kernel)
theorem klay_X10_5 : u_lay RX10 TX10 5 ∈ WA := WA_of (i := 1782) (by decide +kernel) (by decide +kernel)
theorem klay_X10_6 : u_lay RX10 TX10 6 ∈ WA := WA_of (i := 1784) (by decide +kernel) (by decide +kernel)
theorem klay_X10_7 : u_lay RX10 TX10 7 ∈ WA := WA_of (i := 1786) (by decide +kernel) (by decide +kernel)
theorem klay_X10_8 : u_lay RX10 TX10 8 ∈ WA := WA_of (i := 1788) (by decide +kernel) (by decide +kernel)
theorem klay_X10_9 : u_lay RX10 TX10 9 ∈ WA := WA_of (i := 1790) (by decide +kernel) (by decide +kernel)
theorem klay_X10_10 : u_lay RX10 TX10 10 ∈ WA := WA_of (i := 1792) (by decide +kernel) (by decide +kernel)
theorem klay_X10_11 : u_lay RX10 TX10 11 ∈ WA := WA_of (i := 1794) (by decide +kernel) (by decide +kernel)
theorem klay_X10_12 : u_lay RX10 TX10 12 ∈ WA := WA_of (i := 1796) (by decide +kernel) (by decide +kernel)
theorem klay_X10_13 : u_lay RX10 TX10 13 ∈ WA := WA_of (i := 1798) (by decide +kernel) (by decide +kernel)
theorem klay_X10_14 : u_lay RX10 TX10 14 ∈ WA := WA_of (i := 1800) (by decide +kernel) (by decide +kernel)
theorem klay_X10_15 : u_lay RX10 TX10 15 ∈ WA := WA_of (i := 1802) (by decide +kernel) (by decide +kernel)
theorem inX10 : ∀ w ∈ u_ws RX10 TX10 16, w ∈ WA := by
  intro w h
  obtain ⟨k, hk, rfl⟩ := List.mem_map.mp h
  have hk := List.mem_range.mp hk
  rcases (show k = 0 ∨ k = 1 ∨ k = 2 ∨ k = 3 ∨ k = 4 ∨ k = 5 ∨ k = 6 ∨ k = 7 ∨ k = 8 ∨ k = 9 ∨ k = 10 ∨ k = 11 ∨ k = 12 ∨ k = 13 ∨ k = 14 ∨ k = 15 by omega) with rfl | rfl | rfl | rfl | rfl | rfl | rfl | rfl | rfl | rfl | rfl | rfl | rfl | rfl | rfl | rfl
  · exact klay_X10_0
  · exact klay_X10_1
  · exact klay_X10_2
  · exact klay_X10_3
  · exact klay_X10_4
  · exact klay_X10_5
  · exact klay_X10_6
  · exact klay_X10_7
  · exact klay_X10_8
  · exact klay_X10_9
  · exact klay_X10_10
  · exact klay_X10_11
  · exact klay_X10_12
  · exact klay_X10_13
  · exact klay_X10_14
  · exact klay_X10_15
theorem klay_J4_0 : u_lay RJ4 TJ4 0 ∈ WA := WA_of (i := 311) (by decide +kernel) (by decide +kernel)
theorem klay_J4_1 : u_lay RJ4 TJ4 1 ∈ WA := WA_of (i := 313) (by decide +kernel) (by decide +kernel)
theorem klay_J4_2 : u_lay RJ4 TJ4 2 ∈ WA := WA_of (i := 315) (by decide +kernel) (by decide +kernel)
theorem klay_J4_3 : u_lay RJ4 TJ4 3 ∈ WA := WA_of (i := 317) (by decide +kernel) (by decide +kernel)
theorem inJ4 : ∀ w ∈ u_ws RJ4 TJ4 4, w ∈ WA := by
  intro w h
  obtain ⟨k, hk, rfl⟩ := List.mem_map.mp h
  have hk := List.mem_range.mp hk
  rcases (show k = 0 ∨ k = 1 ∨ k = 2 ∨ k = 3 by omega) with rfl | rfl | rfl | rfl
  · exact klay_J4_0
  · exact klay_J4_1
  · exact klay_J4_2
  · exact klay_J4_3
theorem klay_J0_0 : u_lay RJ0 TJ0 0 ∈ WA := WA_of (i := 897) (by decide +kernel) (by decide +kernel)
theorem klay_J0_1 : u_lay RJ0 TJ0 1 ∈ WA := WA_of (i := 899) (by decide +kernel) (by decide +kernel)
theorem klay_J0_2 : u_lay RJ0 TJ0 2 ∈ WA := WA_of (i := 1493) (by decide +kernel) (by decide +kernel)
theorem klay_J0_3 : u_lay RJ0 TJ0 3 ∈ WA := WA_of (i := 1495) (by decide +kernel) (by decide +kernel)
theorem inJ0 : ∀ w ∈ u_ws RJ0 TJ0 4, w ∈ WA := by
  intro w h
  obtain ⟨k, hk, rfl⟩ := List.mem_map.mp h
  have hk := List.mem_range.mp hk
  rcases (show k = 0 ∨ k = 1 ∨ k = 2 ∨ k = 3 by omega) with rfl | rfl | rfl | rfl
  · exact klay_J0_0
  · exact klay_J0_1
  · exact klay_J0_2
  · exact klay_J0_3
