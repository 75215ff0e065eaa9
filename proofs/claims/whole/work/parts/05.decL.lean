theorem dL_charge_0 : decode cL_charge 0 = .ok (.aload_n 3, 1) := by decide +kernel
theorem dL_charge_1 : decode cL_charge 1 = .ok (.iconst 0, 1) := by decide +kernel
theorem dL_charge_2 : decode cL_charge 2 = .ok (.aload_n 0, 1) := by decide +kernel
theorem dL_charge_3 : decode cL_charge 3 = .ok (.iload_n 1, 1) := by decide +kernel
theorem dL_charge_4 : decode cL_charge 4 = .ok (.iload_n 2, 1) := by decide +kernel
theorem dL_charge_5 : decode cL_charge 5 = .ok (.invokevirtual 7, 3) := by decide +kernel
theorem dL_charge_8 : decode cL_charge 8 = .ok (.i2l, 1) := by decide +kernel
theorem dL_charge_9 : decode cL_charge 9 = .ok (.lastore, 1) := by decide +kernel
theorem dL_charge_10 : decode cL_charge 10 = .ok (.goto 11, 3) := by decide +kernel
theorem dL_charge_13 : decode cL_charge 13 = .ok (.astore 4, 2) := by decide +kernel
theorem dL_charge_15 : decode cL_charge 15 = .ok (.iconst 1, 1) := by decide +kernel
theorem dL_charge_16 : decode cL_charge 16 = .ok (.ireturn, 1) := by decide +kernel
theorem dL_charge_17 : decode cL_charge 17 = .ok (.astore 4, 2) := by decide +kernel
theorem dL_charge_19 : decode cL_charge 19 = .ok (.iconst 2, 1) := by decide +kernel
theorem dL_charge_20 : decode cL_charge 20 = .ok (.ireturn, 1) := by decide +kernel
theorem dL_charge_21 : decode cL_charge 21 = .ok (.iconst 0, 1) := by decide +kernel
theorem dL_charge_22 : decode cL_charge 22 = .ok (.ireturn, 1) := by decide +kernel
theorem dL_addWitness_0 : decode cL_addWitness 0 = .ok (.aload_n 2, 1) := by decide +kernel
theorem dL_addWitness_1 : decode cL_addWitness 1 = .ok (.iconst 0, 1) := by decide +kernel
theorem dL_addWitness_2 : decode cL_addWitness 2 = .ok (.aload_n 0, 1) := by decide +kernel
theorem dL_addWitness_3 : decode cL_addWitness 3 = .ok (.iload_n 1, 1) := by decide +kernel
theorem dL_addWitness_4 : decode cL_addWitness 4 = .ok (.invokevirtual 17, 3) := by decide +kernel
theorem dL_addWitness_7 : decode cL_addWitness 7 = .ok (.i2l, 1) := by decide +kernel
theorem dL_addWitness_8 : decode cL_addWitness 8 = .ok (.lastore, 1) := by decide +kernel
theorem dL_addWitness_9 : decode cL_addWitness 9 = .ok (.goto 9, 3) := by decide +kernel
theorem dL_addWitness_12 : decode cL_addWitness 12 = .ok (.astore_n 3, 1) := by decide +kernel
theorem dL_addWitness_13 : decode cL_addWitness 13 = .ok (.iconst 1, 1) := by decide +kernel
theorem dL_addWitness_14 : decode cL_addWitness 14 = .ok (.ireturn, 1) := by decide +kernel
theorem dL_addWitness_15 : decode cL_addWitness 15 = .ok (.astore_n 3, 1) := by decide +kernel
theorem dL_addWitness_16 : decode cL_addWitness 16 = .ok (.iconst 2, 1) := by decide +kernel
theorem dL_addWitness_17 : decode cL_addWitness 17 = .ok (.ireturn, 1) := by decide +kernel
theorem dL_addWitness_18 : decode cL_addWitness 18 = .ok (.iconst 0, 1) := by decide +kernel
theorem dL_addWitness_19 : decode cL_addWitness 19 = .ok (.ireturn, 1) := by decide +kernel
theorem dL_testify_0 : decode cL_testify 0 = .ok (.aload 5, 2) := by decide +kernel
theorem dL_testify_2 : decode cL_testify 2 = .ok (.iconst 0, 1) := by decide +kernel
theorem dL_testify_3 : decode cL_testify 3 = .ok (.aload_n 0, 1) := by decide +kernel
theorem dL_testify_4 : decode cL_testify 4 = .ok (.iload_n 1, 1) := by decide +kernel
theorem dL_testify_5 : decode cL_testify 5 = .ok (.iload_n 2, 1) := by decide +kernel
theorem dL_testify_6 : decode cL_testify 6 = .ok (.iload_n 3, 1) := by decide +kernel
theorem dL_testify_7 : decode cL_testify 7 = .ok (.iload 4, 2) := by decide +kernel
theorem dL_testify_9 : decode cL_testify 9 = .ok (.invokevirtual 21, 3) := by decide +kernel
theorem dL_testify_12 : decode cL_testify 12 = .ok (.i2l, 1) := by decide +kernel
theorem dL_testify_13 : decode cL_testify 13 = .ok (.lastore, 1) := by decide +kernel
theorem dL_testify_14 : decode cL_testify 14 = .ok (.goto 15, 3) := by decide +kernel
theorem dL_testify_17 : decode cL_testify 17 = .ok (.astore 6, 2) := by decide +kernel
theorem dL_testify_19 : decode cL_testify 19 = .ok (.iconst 1, 1) := by decide +kernel
theorem dL_testify_20 : decode cL_testify 20 = .ok (.ireturn, 1) := by decide +kernel
theorem dL_testify_21 : decode cL_testify 21 = .ok (.astore 6, 2) := by decide +kernel
theorem dL_testify_23 : decode cL_testify 23 = .ok (.iconst 2, 1) := by decide +kernel
theorem dL_testify_24 : decode cL_testify 24 = .ok (.ireturn, 1) := by decide +kernel
theorem dL_testify_25 : decode cL_testify 25 = .ok (.astore 6, 2) := by decide +kernel
theorem dL_testify_27 : decode cL_testify 27 = .ok (.iconst 3, 1) := by decide +kernel
theorem dL_testify_28 : decode cL_testify 28 = .ok (.ireturn, 1) := by decide +kernel
theorem dL_testify_29 : decode cL_testify 29 = .ok (.iconst 0, 1) := by decide +kernel
theorem dL_testify_30 : decode cL_testify 30 = .ok (.ireturn, 1) := by decide +kernel
theorem dL_question_0 : decode cL_question 0 = .ok (.aload 4, 2) := by decide +kernel
theorem dL_question_2 : decode cL_question 2 = .ok (.iconst 0, 1) := by decide +kernel
theorem dL_question_3 : decode cL_question 3 = .ok (.aload_n 0, 1) := by decide +kernel
theorem dL_question_4 : decode cL_question 4 = .ok (.iload_n 1, 1) := by decide +kernel
theorem dL_question_5 : decode cL_question 5 = .ok (.iload_n 2, 1) := by decide +kernel
theorem dL_question_6 : decode cL_question 6 = .ok (.iload_n 3, 1) := by decide +kernel
theorem dL_question_7 : decode cL_question 7 = .ok (.invokevirtual 27, 3) := by decide +kernel
theorem dL_question_10 : decode cL_question 10 = .ok (.i2l, 1) := by decide +kernel
theorem dL_question_11 : decode cL_question 11 = .ok (.lastore, 1) := by decide +kernel
theorem dL_question_12 : decode cL_question 12 = .ok (.goto 15, 3) := by decide +kernel
theorem dL_question_15 : decode cL_question 15 = .ok (.astore 5, 2) := by decide +kernel
theorem dL_question_17 : decode cL_question 17 = .ok (.iconst 1, 1) := by decide +kernel
theorem dL_question_18 : decode cL_question 18 = .ok (.ireturn, 1) := by decide +kernel
theorem dL_question_19 : decode cL_question 19 = .ok (.astore 5, 2) := by decide +kernel
theorem dL_question_21 : decode cL_question 21 = .ok (.iconst 2, 1) := by decide +kernel
theorem dL_question_22 : decode cL_question 22 = .ok (.ireturn, 1) := by decide +kernel
theorem dL_question_23 : decode cL_question 23 = .ok (.astore 5, 2) := by decide +kernel
theorem dL_question_25 : decode cL_question 25 = .ok (.iconst 3, 1) := by decide +kernel
theorem dL_question_26 : decode cL_question 26 = .ok (.ireturn, 1) := by decide +kernel
theorem dL_question_27 : decode cL_question 27 = .ok (.iconst 0, 1) := by decide +kernel
theorem dL_question_28 : decode cL_question 28 = .ok (.ireturn, 1) := by decide +kernel
theorem dL_decide_0 : decode cL_decide 0 = .ok (.aload_n 2, 1) := by decide +kernel
theorem dL_decide_1 : decode cL_decide 1 = .ok (.iconst 0, 1) := by decide +kernel
theorem dL_decide_2 : decode cL_decide 2 = .ok (.aload_n 0, 1) := by decide +kernel
theorem dL_decide_3 : decode cL_decide 3 = .ok (.iload_n 1, 1) := by decide +kernel
theorem dL_decide_4 : decode cL_decide 4 = .ok (.invokevirtual 33, 3) := by decide +kernel
theorem dL_decide_7 : decode cL_decide 7 = .ok (.ifCond .eq 7, 3) := by decide +kernel
theorem dL_decide_10 : decode cL_decide 10 = .ok (.lconst 1, 1) := by decide +kernel
theorem dL_decide_11 : decode cL_decide 11 = .ok (.goto 4, 3) := by decide +kernel
theorem dL_decide_14 : decode cL_decide 14 = .ok (.lconst 0, 1) := by decide +kernel
theorem dL_decide_15 : decode cL_decide 15 = .ok (.lastore, 1) := by decide +kernel
theorem dL_decide_16 : decode cL_decide 16 = .ok (.goto 9, 3) := by decide +kernel
theorem dL_decide_19 : decode cL_decide 19 = .ok (.astore_n 3, 1) := by decide +kernel
theorem dL_decide_20 : decode cL_decide 20 = .ok (.iconst 1, 1) := by decide +kernel
theorem dL_decide_21 : decode cL_decide 21 = .ok (.ireturn, 1) := by decide +kernel
theorem dL_decide_22 : decode cL_decide 22 = .ok (.astore_n 3, 1) := by decide +kernel
theorem dL_decide_23 : decode cL_decide 23 = .ok (.iconst 2, 1) := by decide +kernel
theorem dL_decide_24 : decode cL_decide 24 = .ok (.ireturn, 1) := by decide +kernel
theorem dL_decide_25 : decode cL_decide 25 = .ok (.iconst 0, 1) := by decide +kernel
theorem dL_decide_26 : decode cL_decide 26 = .ok (.ireturn, 1) := by decide +kernel
theorem dL_appeal_0 : decode cL_appeal 0 = .ok (.aload_n 2, 1) := by decide +kernel
theorem dL_appeal_1 : decode cL_appeal 1 = .ok (.iconst 0, 1) := by decide +kernel
theorem dL_appeal_2 : decode cL_appeal 2 = .ok (.aload_n 0, 1) := by decide +kernel
theorem dL_appeal_3 : decode cL_appeal 3 = .ok (.iload_n 1, 1) := by decide +kernel
theorem dL_appeal_4 : decode cL_appeal 4 = .ok (.invokevirtual 37, 3) := by decide +kernel
theorem dL_appeal_7 : decode cL_appeal 7 = .ok (.i2l, 1) := by decide +kernel
theorem dL_appeal_8 : decode cL_appeal 8 = .ok (.lastore, 1) := by decide +kernel
theorem dL_appeal_9 : decode cL_appeal 9 = .ok (.goto 9, 3) := by decide +kernel
theorem dL_appeal_12 : decode cL_appeal 12 = .ok (.astore_n 3, 1) := by decide +kernel
theorem dL_appeal_13 : decode cL_appeal 13 = .ok (.iconst 1, 1) := by decide +kernel
theorem dL_appeal_14 : decode cL_appeal 14 = .ok (.ireturn, 1) := by decide +kernel
theorem dL_appeal_15 : decode cL_appeal 15 = .ok (.astore_n 3, 1) := by decide +kernel
theorem dL_appeal_16 : decode cL_appeal 16 = .ok (.iconst 2, 1) := by decide +kernel
theorem dL_appeal_17 : decode cL_appeal 17 = .ok (.ireturn, 1) := by decide +kernel
theorem dL_appeal_18 : decode cL_appeal 18 = .ok (.iconst 0, 1) := by decide +kernel
theorem dL_appeal_19 : decode cL_appeal 19 = .ok (.ireturn, 1) := by decide +kernel
theorem dL_close_0 : decode cL_close 0 = .ok (.aload_n 2, 1) := by decide +kernel
theorem dL_close_1 : decode cL_close 1 = .ok (.iconst 0, 1) := by decide +kernel
theorem dL_close_2 : decode cL_close 2 = .ok (.aload_n 0, 1) := by decide +kernel
theorem dL_close_3 : decode cL_close 3 = .ok (.iload_n 1, 1) := by decide +kernel
theorem dL_close_4 : decode cL_close 4 = .ok (.invokevirtual 40, 3) := by decide +kernel
theorem dL_close_7 : decode cL_close 7 = .ok (.i2l, 1) := by decide +kernel
theorem dL_close_8 : decode cL_close 8 = .ok (.lastore, 1) := by decide +kernel
theorem dL_close_9 : decode cL_close 9 = .ok (.goto 9, 3) := by decide +kernel
theorem dL_close_12 : decode cL_close 12 = .ok (.astore_n 3, 1) := by decide +kernel
theorem dL_close_13 : decode cL_close 13 = .ok (.iconst 1, 1) := by decide +kernel
theorem dL_close_14 : decode cL_close 14 = .ok (.ireturn, 1) := by decide +kernel
theorem dL_close_15 : decode cL_close 15 = .ok (.astore_n 3, 1) := by decide +kernel
theorem dL_close_16 : decode cL_close 16 = .ok (.iconst 2, 1) := by decide +kernel
theorem dL_close_17 : decode cL_close 17 = .ok (.ireturn, 1) := by decide +kernel
theorem dL_close_18 : decode cL_close 18 = .ok (.iconst 0, 1) := by decide +kernel
theorem dL_close_19 : decode cL_close 19 = .ok (.ireturn, 1) := by decide +kernel
theorem dL_caseOf_0 : decode cL_caseOf 0 = .ok (.aload_n 3, 1) := by decide +kernel
theorem dL_caseOf_1 : decode cL_caseOf 1 = .ok (.iconst 0, 1) := by decide +kernel
theorem dL_caseOf_2 : decode cL_caseOf 2 = .ok (.aload_n 0, 1) := by decide +kernel
theorem dL_caseOf_3 : decode cL_caseOf 3 = .ok (.iload_n 1, 1) := by decide +kernel
theorem dL_caseOf_4 : decode cL_caseOf 4 = .ok (.iload_n 2, 1) := by decide +kernel
theorem dL_caseOf_5 : decode cL_caseOf 5 = .ok (.invokevirtual 43, 3) := by decide +kernel
theorem dL_caseOf_8 : decode cL_caseOf 8 = .ok (.i2l, 1) := by decide +kernel
theorem dL_caseOf_9 : decode cL_caseOf 9 = .ok (.lastore, 1) := by decide +kernel
theorem dL_caseOf_10 : decode cL_caseOf 10 = .ok (.goto 11, 3) := by decide +kernel
theorem dL_caseOf_13 : decode cL_caseOf 13 = .ok (.astore 4, 2) := by decide +kernel
theorem dL_caseOf_15 : decode cL_caseOf 15 = .ok (.iconst 1, 1) := by decide +kernel
theorem dL_caseOf_16 : decode cL_caseOf 16 = .ok (.ireturn, 1) := by decide +kernel
theorem dL_caseOf_17 : decode cL_caseOf 17 = .ok (.astore 4, 2) := by decide +kernel
theorem dL_caseOf_19 : decode cL_caseOf 19 = .ok (.iconst 2, 1) := by decide +kernel
theorem dL_caseOf_20 : decode cL_caseOf 20 = .ok (.ireturn, 1) := by decide +kernel
theorem dL_caseOf_21 : decode cL_caseOf 21 = .ok (.iconst 0, 1) := by decide +kernel
theorem dL_caseOf_22 : decode cL_caseOf 22 = .ok (.ireturn, 1) := by decide +kernel
theorem dL_defendantOf_0 : decode cL_defendantOf 0 = .ok (.aload_n 2, 1) := by decide +kernel
theorem dL_defendantOf_1 : decode cL_defendantOf 1 = .ok (.iconst 0, 1) := by decide +kernel
theorem dL_defendantOf_2 : decode cL_defendantOf 2 = .ok (.aload_n 0, 1) := by decide +kernel
theorem dL_defendantOf_3 : decode cL_defendantOf 3 = .ok (.iload_n 1, 1) := by decide +kernel
theorem dL_defendantOf_4 : decode cL_defendantOf 4 = .ok (.invokevirtual 46, 3) := by decide +kernel
theorem dL_defendantOf_7 : decode cL_defendantOf 7 = .ok (.i2l, 1) := by decide +kernel
theorem dL_defendantOf_8 : decode cL_defendantOf 8 = .ok (.lastore, 1) := by decide +kernel
theorem dL_defendantOf_9 : decode cL_defendantOf 9 = .ok (.goto 6, 3) := by decide +kernel
theorem dL_defendantOf_12 : decode cL_defendantOf 12 = .ok (.astore_n 3, 1) := by decide +kernel
theorem dL_defendantOf_13 : decode cL_defendantOf 13 = .ok (.iconst 1, 1) := by decide +kernel
theorem dL_defendantOf_14 : decode cL_defendantOf 14 = .ok (.ireturn, 1) := by decide +kernel
theorem dL_defendantOf_15 : decode cL_defendantOf 15 = .ok (.iconst 0, 1) := by decide +kernel
theorem dL_defendantOf_16 : decode cL_defendantOf 16 = .ok (.ireturn, 1) := by decide +kernel
theorem dL_offenceOf_0 : decode cL_offenceOf 0 = .ok (.aload_n 2, 1) := by decide +kernel
theorem dL_offenceOf_1 : decode cL_offenceOf 1 = .ok (.iconst 0, 1) := by decide +kernel
theorem dL_offenceOf_2 : decode cL_offenceOf 2 = .ok (.aload_n 0, 1) := by decide +kernel
theorem dL_offenceOf_3 : decode cL_offenceOf 3 = .ok (.iload_n 1, 1) := by decide +kernel
theorem dL_offenceOf_4 : decode cL_offenceOf 4 = .ok (.invokevirtual 49, 3) := by decide +kernel
theorem dL_offenceOf_7 : decode cL_offenceOf 7 = .ok (.i2l, 1) := by decide +kernel
theorem dL_offenceOf_8 : decode cL_offenceOf 8 = .ok (.lastore, 1) := by decide +kernel
theorem dL_offenceOf_9 : decode cL_offenceOf 9 = .ok (.goto 6, 3) := by decide +kernel
theorem dL_offenceOf_12 : decode cL_offenceOf 12 = .ok (.astore_n 3, 1) := by decide +kernel
theorem dL_offenceOf_13 : decode cL_offenceOf 13 = .ok (.iconst 1, 1) := by decide +kernel
theorem dL_offenceOf_14 : decode cL_offenceOf 14 = .ok (.ireturn, 1) := by decide +kernel
theorem dL_offenceOf_15 : decode cL_offenceOf 15 = .ok (.iconst 0, 1) := by decide +kernel
theorem dL_offenceOf_16 : decode cL_offenceOf 16 = .ok (.ireturn, 1) := by decide +kernel
theorem dL_isOpen_0 : decode cL_isOpen 0 = .ok (.aload_n 2, 1) := by decide +kernel
theorem dL_isOpen_1 : decode cL_isOpen 1 = .ok (.iconst 0, 1) := by decide +kernel
theorem dL_isOpen_2 : decode cL_isOpen 2 = .ok (.aload_n 0, 1) := by decide +kernel
theorem dL_isOpen_3 : decode cL_isOpen 3 = .ok (.iload_n 1, 1) := by decide +kernel
theorem dL_isOpen_4 : decode cL_isOpen 4 = .ok (.invokevirtual 52, 3) := by decide +kernel
theorem dL_isOpen_7 : decode cL_isOpen 7 = .ok (.ifCond .eq 7, 3) := by decide +kernel
theorem dL_isOpen_10 : decode cL_isOpen 10 = .ok (.lconst 1, 1) := by decide +kernel
theorem dL_isOpen_11 : decode cL_isOpen 11 = .ok (.goto 4, 3) := by decide +kernel
theorem dL_isOpen_14 : decode cL_isOpen 14 = .ok (.lconst 0, 1) := by decide +kernel
theorem dL_isOpen_15 : decode cL_isOpen 15 = .ok (.lastore, 1) := by decide +kernel
theorem dL_isOpen_16 : decode cL_isOpen 16 = .ok (.goto 6, 3) := by decide +kernel
theorem dL_isOpen_19 : decode cL_isOpen 19 = .ok (.astore_n 3, 1) := by decide +kernel
theorem dL_isOpen_20 : decode cL_isOpen 20 = .ok (.iconst 1, 1) := by decide +kernel
theorem dL_isOpen_21 : decode cL_isOpen 21 = .ok (.ireturn, 1) := by decide +kernel
theorem dL_isOpen_22 : decode cL_isOpen 22 = .ok (.iconst 0, 1) := by decide +kernel
theorem dL_isOpen_23 : decode cL_isOpen 23 = .ok (.ireturn, 1) := by decide +kernel
theorem dL_isDecided_0 : decode cL_isDecided 0 = .ok (.aload_n 2, 1) := by decide +kernel
theorem dL_isDecided_1 : decode cL_isDecided 1 = .ok (.iconst 0, 1) := by decide +kernel
theorem dL_isDecided_2 : decode cL_isDecided 2 = .ok (.aload_n 0, 1) := by decide +kernel
theorem dL_isDecided_3 : decode cL_isDecided 3 = .ok (.iload_n 1, 1) := by decide +kernel
theorem dL_isDecided_4 : decode cL_isDecided 4 = .ok (.invokevirtual 55, 3) := by decide +kernel
theorem dL_isDecided_7 : decode cL_isDecided 7 = .ok (.ifCond .eq 7, 3) := by decide +kernel
theorem dL_isDecided_10 : decode cL_isDecided 10 = .ok (.lconst 1, 1) := by decide +kernel
theorem dL_isDecided_11 : decode cL_isDecided 11 = .ok (.goto 4, 3) := by decide +kernel
theorem dL_isDecided_14 : decode cL_isDecided 14 = .ok (.lconst 0, 1) := by decide +kernel
theorem dL_isDecided_15 : decode cL_isDecided 15 = .ok (.lastore, 1) := by decide +kernel
theorem dL_isDecided_16 : decode cL_isDecided 16 = .ok (.goto 6, 3) := by decide +kernel
theorem dL_isDecided_19 : decode cL_isDecided 19 = .ok (.astore_n 3, 1) := by decide +kernel
theorem dL_isDecided_20 : decode cL_isDecided 20 = .ok (.iconst 1, 1) := by decide +kernel
theorem dL_isDecided_21 : decode cL_isDecided 21 = .ok (.ireturn, 1) := by decide +kernel
theorem dL_isDecided_22 : decode cL_isDecided 22 = .ok (.iconst 0, 1) := by decide +kernel
theorem dL_isDecided_23 : decode cL_isDecided 23 = .ok (.ireturn, 1) := by decide +kernel
theorem dL_isClosed_0 : decode cL_isClosed 0 = .ok (.aload_n 2, 1) := by decide +kernel
theorem dL_isClosed_1 : decode cL_isClosed 1 = .ok (.iconst 0, 1) := by decide +kernel
theorem dL_isClosed_2 : decode cL_isClosed 2 = .ok (.aload_n 0, 1) := by decide +kernel
theorem dL_isClosed_3 : decode cL_isClosed 3 = .ok (.iload_n 1, 1) := by decide +kernel
theorem dL_isClosed_4 : decode cL_isClosed 4 = .ok (.invokevirtual 58, 3) := by decide +kernel
theorem dL_isClosed_7 : decode cL_isClosed 7 = .ok (.ifCond .eq 7, 3) := by decide +kernel
theorem dL_isClosed_10 : decode cL_isClosed 10 = .ok (.lconst 1, 1) := by decide +kernel
theorem dL_isClosed_11 : decode cL_isClosed 11 = .ok (.goto 4, 3) := by decide +kernel
theorem dL_isClosed_14 : decode cL_isClosed 14 = .ok (.lconst 0, 1) := by decide +kernel
theorem dL_isClosed_15 : decode cL_isClosed 15 = .ok (.lastore, 1) := by decide +kernel
theorem dL_isClosed_16 : decode cL_isClosed 16 = .ok (.goto 6, 3) := by decide +kernel
theorem dL_isClosed_19 : decode cL_isClosed 19 = .ok (.astore_n 3, 1) := by decide +kernel
theorem dL_isClosed_20 : decode cL_isClosed 20 = .ok (.iconst 1, 1) := by decide +kernel
theorem dL_isClosed_21 : decode cL_isClosed 21 = .ok (.ireturn, 1) := by decide +kernel
theorem dL_isClosed_22 : decode cL_isClosed 22 = .ok (.iconst 0, 1) := by decide +kernel
theorem dL_isClosed_23 : decode cL_isClosed 23 = .ok (.ireturn, 1) := by decide +kernel
theorem dL_isGuilty_0 : decode cL_isGuilty 0 = .ok (.aload_n 2, 1) := by decide +kernel
theorem dL_isGuilty_1 : decode cL_isGuilty 1 = .ok (.iconst 0, 1) := by decide +kernel
theorem dL_isGuilty_2 : decode cL_isGuilty 2 = .ok (.aload_n 0, 1) := by decide +kernel
theorem dL_isGuilty_3 : decode cL_isGuilty 3 = .ok (.iload_n 1, 1) := by decide +kernel
theorem dL_isGuilty_4 : decode cL_isGuilty 4 = .ok (.invokevirtual 61, 3) := by decide +kernel
theorem dL_isGuilty_7 : decode cL_isGuilty 7 = .ok (.ifCond .eq 7, 3) := by decide +kernel
theorem dL_isGuilty_10 : decode cL_isGuilty 10 = .ok (.lconst 1, 1) := by decide +kernel
theorem dL_isGuilty_11 : decode cL_isGuilty 11 = .ok (.goto 4, 3) := by decide +kernel
theorem dL_isGuilty_14 : decode cL_isGuilty 14 = .ok (.lconst 0, 1) := by decide +kernel
theorem dL_isGuilty_15 : decode cL_isGuilty 15 = .ok (.lastore, 1) := by decide +kernel
theorem dL_isGuilty_16 : decode cL_isGuilty 16 = .ok (.goto 9, 3) := by decide +kernel
theorem dL_isGuilty_19 : decode cL_isGuilty 19 = .ok (.astore_n 3, 1) := by decide +kernel
theorem dL_isGuilty_20 : decode cL_isGuilty 20 = .ok (.iconst 1, 1) := by decide +kernel
theorem dL_isGuilty_21 : decode cL_isGuilty 21 = .ok (.ireturn, 1) := by decide +kernel
theorem dL_isGuilty_22 : decode cL_isGuilty 22 = .ok (.astore_n 3, 1) := by decide +kernel
theorem dL_isGuilty_23 : decode cL_isGuilty 23 = .ok (.iconst 2, 1) := by decide +kernel
theorem dL_isGuilty_24 : decode cL_isGuilty 24 = .ok (.ireturn, 1) := by decide +kernel
theorem dL_isGuilty_25 : decode cL_isGuilty 25 = .ok (.iconst 0, 1) := by decide +kernel
theorem dL_isGuilty_26 : decode cL_isGuilty 26 = .ok (.ireturn, 1) := by decide +kernel
theorem dL_appealCount_0 : decode cL_appealCount 0 = .ok (.aload_n 2, 1) := by decide +kernel
theorem dL_appealCount_1 : decode cL_appealCount 1 = .ok (.iconst 0, 1) := by decide +kernel
theorem dL_appealCount_2 : decode cL_appealCount 2 = .ok (.aload_n 0, 1) := by decide +kernel
theorem dL_appealCount_3 : decode cL_appealCount 3 = .ok (.iload_n 1, 1) := by decide +kernel
theorem dL_appealCount_4 : decode cL_appealCount 4 = .ok (.invokevirtual 64, 3) := by decide +kernel
theorem dL_appealCount_7 : decode cL_appealCount 7 = .ok (.i2l, 1) := by decide +kernel
theorem dL_appealCount_8 : decode cL_appealCount 8 = .ok (.lastore, 1) := by decide +kernel
theorem dL_appealCount_9 : decode cL_appealCount 9 = .ok (.goto 6, 3) := by decide +kernel
theorem dL_appealCount_12 : decode cL_appealCount 12 = .ok (.astore_n 3, 1) := by decide +kernel
theorem dL_appealCount_13 : decode cL_appealCount 13 = .ok (.iconst 1, 1) := by decide +kernel
theorem dL_appealCount_14 : decode cL_appealCount 14 = .ok (.ireturn, 1) := by decide +kernel
theorem dL_appealCount_15 : decode cL_appealCount 15 = .ok (.iconst 0, 1) := by decide +kernel
theorem dL_appealCount_16 : decode cL_appealCount 16 = .ok (.ireturn, 1) := by decide +kernel
theorem dL_testimonyCount_0 : decode cL_testimonyCount 0 = .ok (.aload_n 2, 1) := by decide +kernel
theorem dL_testimonyCount_1 : decode cL_testimonyCount 1 = .ok (.iconst 0, 1) := by decide +kernel
theorem dL_testimonyCount_2 : decode cL_testimonyCount 2 = .ok (.aload_n 0, 1) := by decide +kernel
theorem dL_testimonyCount_3 : decode cL_testimonyCount 3 = .ok (.iload_n 1, 1) := by decide +kernel
theorem dL_testimonyCount_4 : decode cL_testimonyCount 4 = .ok (.invokevirtual 67, 3) := by decide +kernel
theorem dL_testimonyCount_7 : decode cL_testimonyCount 7 = .ok (.i2l, 1) := by decide +kernel
theorem dL_testimonyCount_8 : decode cL_testimonyCount 8 = .ok (.lastore, 1) := by decide +kernel
theorem dL_testimonyCount_9 : decode cL_testimonyCount 9 = .ok (.goto 6, 3) := by decide +kernel
theorem dL_testimonyCount_12 : decode cL_testimonyCount 12 = .ok (.astore_n 3, 1) := by decide +kernel
theorem dL_testimonyCount_13 : decode cL_testimonyCount 13 = .ok (.iconst 1, 1) := by decide +kernel
theorem dL_testimonyCount_14 : decode cL_testimonyCount 14 = .ok (.ireturn, 1) := by decide +kernel
theorem dL_testimonyCount_15 : decode cL_testimonyCount 15 = .ok (.iconst 0, 1) := by decide +kernel
theorem dL_testimonyCount_16 : decode cL_testimonyCount 16 = .ok (.ireturn, 1) := by decide +kernel
theorem dL_witnessAt_0 : decode cL_witnessAt 0 = .ok (.aload_n 3, 1) := by decide +kernel
theorem dL_witnessAt_1 : decode cL_witnessAt 1 = .ok (.iconst 0, 1) := by decide +kernel
theorem dL_witnessAt_2 : decode cL_witnessAt 2 = .ok (.aload_n 0, 1) := by decide +kernel
theorem dL_witnessAt_3 : decode cL_witnessAt 3 = .ok (.iload_n 1, 1) := by decide +kernel
theorem dL_witnessAt_4 : decode cL_witnessAt 4 = .ok (.iload_n 2, 1) := by decide +kernel
theorem dL_witnessAt_5 : decode cL_witnessAt 5 = .ok (.invokevirtual 70, 3) := by decide +kernel
theorem dL_witnessAt_8 : decode cL_witnessAt 8 = .ok (.i2l, 1) := by decide +kernel
theorem dL_witnessAt_9 : decode cL_witnessAt 9 = .ok (.lastore, 1) := by decide +kernel
theorem dL_witnessAt_10 : decode cL_witnessAt 10 = .ok (.goto 11, 3) := by decide +kernel
theorem dL_witnessAt_13 : decode cL_witnessAt 13 = .ok (.astore 4, 2) := by decide +kernel
theorem dL_witnessAt_15 : decode cL_witnessAt 15 = .ok (.iconst 1, 1) := by decide +kernel
theorem dL_witnessAt_16 : decode cL_witnessAt 16 = .ok (.ireturn, 1) := by decide +kernel
theorem dL_witnessAt_17 : decode cL_witnessAt 17 = .ok (.astore 4, 2) := by decide +kernel
theorem dL_witnessAt_19 : decode cL_witnessAt 19 = .ok (.iconst 2, 1) := by decide +kernel
theorem dL_witnessAt_20 : decode cL_witnessAt 20 = .ok (.ireturn, 1) := by decide +kernel
theorem dL_witnessAt_21 : decode cL_witnessAt 21 = .ok (.iconst 0, 1) := by decide +kernel
theorem dL_witnessAt_22 : decode cL_witnessAt 22 = .ok (.ireturn, 1) := by decide +kernel
theorem dL_hasTestified_0 : decode cL_hasTestified 0 = .ok (.aload_n 3, 1) := by decide +kernel
theorem dL_hasTestified_1 : decode cL_hasTestified 1 = .ok (.iconst 0, 1) := by decide +kernel
theorem dL_hasTestified_2 : decode cL_hasTestified 2 = .ok (.aload_n 0, 1) := by decide +kernel
theorem dL_hasTestified_3 : decode cL_hasTestified 3 = .ok (.iload_n 1, 1) := by decide +kernel
theorem dL_hasTestified_4 : decode cL_hasTestified 4 = .ok (.iload_n 2, 1) := by decide +kernel
theorem dL_hasTestified_5 : decode cL_hasTestified 5 = .ok (.invokevirtual 73, 3) := by decide +kernel
theorem dL_hasTestified_8 : decode cL_hasTestified 8 = .ok (.ifCond .eq 7, 3) := by decide +kernel
theorem dL_hasTestified_11 : decode cL_hasTestified 11 = .ok (.lconst 1, 1) := by decide +kernel
theorem dL_hasTestified_12 : decode cL_hasTestified 12 = .ok (.goto 4, 3) := by decide +kernel
theorem dL_hasTestified_15 : decode cL_hasTestified 15 = .ok (.lconst 0, 1) := by decide +kernel
theorem dL_hasTestified_16 : decode cL_hasTestified 16 = .ok (.lastore, 1) := by decide +kernel
theorem dL_hasTestified_17 : decode cL_hasTestified 17 = .ok (.goto 7, 3) := by decide +kernel
theorem dL_hasTestified_20 : decode cL_hasTestified 20 = .ok (.astore 4, 2) := by decide +kernel
theorem dL_hasTestified_22 : decode cL_hasTestified 22 = .ok (.iconst 1, 1) := by decide +kernel
theorem dL_hasTestified_23 : decode cL_hasTestified 23 = .ok (.ireturn, 1) := by decide +kernel
theorem dL_hasTestified_24 : decode cL_hasTestified 24 = .ok (.iconst 0, 1) := by decide +kernel
theorem dL_hasTestified_25 : decode cL_hasTestified 25 = .ok (.ireturn, 1) := by decide +kernel
theorem dL_isForProsecution_0 : decode cL_isForProsecution 0 = .ok (.aload_n 3, 1) := by decide +kernel
theorem dL_isForProsecution_1 : decode cL_isForProsecution 1 = .ok (.iconst 0, 1) := by decide +kernel
theorem dL_isForProsecution_2 : decode cL_isForProsecution 2 = .ok (.aload_n 0, 1) := by decide +kernel
theorem dL_isForProsecution_3 : decode cL_isForProsecution 3 = .ok (.iload_n 1, 1) := by decide +kernel
theorem dL_isForProsecution_4 : decode cL_isForProsecution 4 = .ok (.iload_n 2, 1) := by decide +kernel
theorem dL_isForProsecution_5 : decode cL_isForProsecution 5 = .ok (.invokevirtual 77, 3) := by decide +kernel
theorem dL_isForProsecution_8 : decode cL_isForProsecution 8 = .ok (.ifCond .eq 7, 3) := by decide +kernel
theorem dL_isForProsecution_11 : decode cL_isForProsecution 11 = .ok (.lconst 1, 1) := by decide +kernel
theorem dL_isForProsecution_12 : decode cL_isForProsecution 12 = .ok (.goto 4, 3) := by decide +kernel
theorem dL_isForProsecution_15 : decode cL_isForProsecution 15 = .ok (.lconst 0, 1) := by decide +kernel
theorem dL_isForProsecution_16 : decode cL_isForProsecution 16 = .ok (.lastore, 1) := by decide +kernel
theorem dL_isForProsecution_17 : decode cL_isForProsecution 17 = .ok (.goto 11, 3) := by decide +kernel
theorem dL_isForProsecution_20 : decode cL_isForProsecution 20 = .ok (.astore 4, 2) := by decide +kernel
theorem dL_isForProsecution_22 : decode cL_isForProsecution 22 = .ok (.iconst 1, 1) := by decide +kernel
theorem dL_isForProsecution_23 : decode cL_isForProsecution 23 = .ok (.ireturn, 1) := by decide +kernel
theorem dL_isForProsecution_24 : decode cL_isForProsecution 24 = .ok (.astore 4, 2) := by decide +kernel
theorem dL_isForProsecution_26 : decode cL_isForProsecution 26 = .ok (.iconst 2, 1) := by decide +kernel
theorem dL_isForProsecution_27 : decode cL_isForProsecution 27 = .ok (.ireturn, 1) := by decide +kernel
theorem dL_isForProsecution_28 : decode cL_isForProsecution 28 = .ok (.iconst 0, 1) := by decide +kernel
theorem dL_isForProsecution_29 : decode cL_isForProsecution 29 = .ok (.ireturn, 1) := by decide +kernel
theorem dL_strength_0 : decode cL_strength 0 = .ok (.aload_n 3, 1) := by decide +kernel
theorem dL_strength_1 : decode cL_strength 1 = .ok (.iconst 0, 1) := by decide +kernel
theorem dL_strength_2 : decode cL_strength 2 = .ok (.aload_n 0, 1) := by decide +kernel
theorem dL_strength_3 : decode cL_strength 3 = .ok (.iload_n 1, 1) := by decide +kernel
theorem dL_strength_4 : decode cL_strength 4 = .ok (.iload_n 2, 1) := by decide +kernel
theorem dL_strength_5 : decode cL_strength 5 = .ok (.invokevirtual 80, 3) := by decide +kernel
theorem dL_strength_8 : decode cL_strength 8 = .ok (.i2l, 1) := by decide +kernel
theorem dL_strength_9 : decode cL_strength 9 = .ok (.lastore, 1) := by decide +kernel
theorem dL_strength_10 : decode cL_strength 10 = .ok (.goto 11, 3) := by decide +kernel
theorem dL_strength_13 : decode cL_strength 13 = .ok (.astore 4, 2) := by decide +kernel
theorem dL_strength_15 : decode cL_strength 15 = .ok (.iconst 1, 1) := by decide +kernel
theorem dL_strength_16 : decode cL_strength 16 = .ok (.ireturn, 1) := by decide +kernel
theorem dL_strength_17 : decode cL_strength 17 = .ok (.astore 4, 2) := by decide +kernel
theorem dL_strength_19 : decode cL_strength 19 = .ok (.iconst 2, 1) := by decide +kernel
theorem dL_strength_20 : decode cL_strength 20 = .ok (.ireturn, 1) := by decide +kernel
theorem dL_strength_21 : decode cL_strength 21 = .ok (.iconst 0, 1) := by decide +kernel
theorem dL_strength_22 : decode cL_strength 22 = .ok (.ireturn, 1) := by decide +kernel
theorem dL_questionCount_0 : decode cL_questionCount 0 = .ok (.aload_n 3, 1) := by decide +kernel
theorem dL_questionCount_1 : decode cL_questionCount 1 = .ok (.iconst 0, 1) := by decide +kernel
theorem dL_questionCount_2 : decode cL_questionCount 2 = .ok (.aload_n 0, 1) := by decide +kernel
theorem dL_questionCount_3 : decode cL_questionCount 3 = .ok (.iload_n 1, 1) := by decide +kernel
theorem dL_questionCount_4 : decode cL_questionCount 4 = .ok (.iload_n 2, 1) := by decide +kernel
theorem dL_questionCount_5 : decode cL_questionCount 5 = .ok (.invokevirtual 83, 3) := by decide +kernel
theorem dL_questionCount_8 : decode cL_questionCount 8 = .ok (.i2l, 1) := by decide +kernel
theorem dL_questionCount_9 : decode cL_questionCount 9 = .ok (.lastore, 1) := by decide +kernel
theorem dL_questionCount_10 : decode cL_questionCount 10 = .ok (.goto 11, 3) := by decide +kernel
theorem dL_questionCount_13 : decode cL_questionCount 13 = .ok (.astore 4, 2) := by decide +kernel
theorem dL_questionCount_15 : decode cL_questionCount 15 = .ok (.iconst 1, 1) := by decide +kernel
theorem dL_questionCount_16 : decode cL_questionCount 16 = .ok (.ireturn, 1) := by decide +kernel
theorem dL_questionCount_17 : decode cL_questionCount 17 = .ok (.astore 4, 2) := by decide +kernel
theorem dL_questionCount_19 : decode cL_questionCount 19 = .ok (.iconst 2, 1) := by decide +kernel
theorem dL_questionCount_20 : decode cL_questionCount 20 = .ok (.ireturn, 1) := by decide +kernel
theorem dL_questionCount_21 : decode cL_questionCount 21 = .ok (.iconst 0, 1) := by decide +kernel
theorem dL_questionCount_22 : decode cL_questionCount 22 = .ok (.ireturn, 1) := by decide +kernel
theorem dL_credibility_0 : decode cL_credibility 0 = .ok (.aload_n 2, 1) := by decide +kernel
theorem dL_credibility_1 : decode cL_credibility 1 = .ok (.iconst 0, 1) := by decide +kernel
theorem dL_credibility_2 : decode cL_credibility 2 = .ok (.aload_n 0, 1) := by decide +kernel
theorem dL_credibility_3 : decode cL_credibility 3 = .ok (.iload_n 1, 1) := by decide +kernel
theorem dL_credibility_4 : decode cL_credibility 4 = .ok (.invokevirtual 86, 3) := by decide +kernel
theorem dL_credibility_7 : decode cL_credibility 7 = .ok (.i2l, 1) := by decide +kernel
theorem dL_credibility_8 : decode cL_credibility 8 = .ok (.lastore, 1) := by decide +kernel
theorem dL_credibility_9 : decode cL_credibility 9 = .ok (.goto 6, 3) := by decide +kernel
theorem dL_credibility_12 : decode cL_credibility 12 = .ok (.astore_n 3, 1) := by decide +kernel
theorem dL_credibility_13 : decode cL_credibility 13 = .ok (.iconst 1, 1) := by decide +kernel
theorem dL_credibility_14 : decode cL_credibility 14 = .ok (.ireturn, 1) := by decide +kernel
theorem dL_credibility_15 : decode cL_credibility 15 = .ok (.iconst 0, 1) := by decide +kernel
theorem dL_credibility_16 : decode cL_credibility 16 = .ok (.ireturn, 1) := by decide +kernel
theorem dL_casesOfWitness_0 : decode cL_casesOfWitness 0 = .ok (.aload_n 2, 1) := by decide +kernel
theorem dL_casesOfWitness_1 : decode cL_casesOfWitness 1 = .ok (.iconst 0, 1) := by decide +kernel
theorem dL_casesOfWitness_2 : decode cL_casesOfWitness 2 = .ok (.aload_n 0, 1) := by decide +kernel
theorem dL_casesOfWitness_3 : decode cL_casesOfWitness 3 = .ok (.iload_n 1, 1) := by decide +kernel
theorem dL_casesOfWitness_4 : decode cL_casesOfWitness 4 = .ok (.invokevirtual 89, 3) := by decide +kernel
theorem dL_casesOfWitness_7 : decode cL_casesOfWitness 7 = .ok (.i2l, 1) := by decide +kernel
theorem dL_casesOfWitness_8 : decode cL_casesOfWitness 8 = .ok (.lastore, 1) := by decide +kernel
theorem dL_casesOfWitness_9 : decode cL_casesOfWitness 9 = .ok (.goto 6, 3) := by decide +kernel
theorem dL_casesOfWitness_12 : decode cL_casesOfWitness 12 = .ok (.astore_n 3, 1) := by decide +kernel
theorem dL_casesOfWitness_13 : decode cL_casesOfWitness 13 = .ok (.iconst 1, 1) := by decide +kernel
theorem dL_casesOfWitness_14 : decode cL_casesOfWitness 14 = .ok (.ireturn, 1) := by decide +kernel
theorem dL_casesOfWitness_15 : decode cL_casesOfWitness 15 = .ok (.iconst 0, 1) := by decide +kernel
theorem dL_casesOfWitness_16 : decode cL_casesOfWitness 16 = .ok (.ireturn, 1) := by decide +kernel
theorem dL_mostCredible_0 : decode cL_mostCredible 0 = .ok (.aload_n 2, 1) := by decide +kernel
theorem dL_mostCredible_1 : decode cL_mostCredible 1 = .ok (.iconst 0, 1) := by decide +kernel
theorem dL_mostCredible_2 : decode cL_mostCredible 2 = .ok (.aload_n 0, 1) := by decide +kernel
theorem dL_mostCredible_3 : decode cL_mostCredible 3 = .ok (.iload_n 1, 1) := by decide +kernel
theorem dL_mostCredible_4 : decode cL_mostCredible 4 = .ok (.invokevirtual 92, 3) := by decide +kernel
theorem dL_mostCredible_7 : decode cL_mostCredible 7 = .ok (.i2l, 1) := by decide +kernel
theorem dL_mostCredible_8 : decode cL_mostCredible 8 = .ok (.lastore, 1) := by decide +kernel
theorem dL_mostCredible_9 : decode cL_mostCredible 9 = .ok (.goto 6, 3) := by decide +kernel
theorem dL_mostCredible_12 : decode cL_mostCredible 12 = .ok (.astore_n 3, 1) := by decide +kernel
theorem dL_mostCredible_13 : decode cL_mostCredible 13 = .ok (.iconst 1, 1) := by decide +kernel
theorem dL_mostCredible_14 : decode cL_mostCredible 14 = .ok (.ireturn, 1) := by decide +kernel
theorem dL_mostCredible_15 : decode cL_mostCredible 15 = .ok (.iconst 0, 1) := by decide +kernel
theorem dL_mostCredible_16 : decode cL_mostCredible 16 = .ok (.ireturn, 1) := by decide +kernel
theorem dL_agreement_0 : decode cL_agreement 0 = .ok (.aload_n 3, 1) := by decide +kernel
theorem dL_agreement_1 : decode cL_agreement 1 = .ok (.iconst 0, 1) := by decide +kernel
theorem dL_agreement_2 : decode cL_agreement 2 = .ok (.aload_n 0, 1) := by decide +kernel
theorem dL_agreement_3 : decode cL_agreement 3 = .ok (.iload_n 1, 1) := by decide +kernel
theorem dL_agreement_4 : decode cL_agreement 4 = .ok (.iload_n 2, 1) := by decide +kernel
theorem dL_agreement_5 : decode cL_agreement 5 = .ok (.invokevirtual 95, 3) := by decide +kernel
theorem dL_agreement_8 : decode cL_agreement 8 = .ok (.i2l, 1) := by decide +kernel
theorem dL_agreement_9 : decode cL_agreement 9 = .ok (.lastore, 1) := by decide +kernel
theorem dL_agreement_10 : decode cL_agreement 10 = .ok (.goto 7, 3) := by decide +kernel
theorem dL_agreement_13 : decode cL_agreement 13 = .ok (.astore 4, 2) := by decide +kernel
theorem dL_agreement_15 : decode cL_agreement 15 = .ok (.iconst 1, 1) := by decide +kernel
theorem dL_agreement_16 : decode cL_agreement 16 = .ok (.ireturn, 1) := by decide +kernel
theorem dL_agreement_17 : decode cL_agreement 17 = .ok (.iconst 0, 1) := by decide +kernel
theorem dL_agreement_18 : decode cL_agreement 18 = .ok (.ireturn, 1) := by decide +kernel
theorem dL_areConnected_0 : decode cL_areConnected 0 = .ok (.aload_n 3, 1) := by decide +kernel
theorem dL_areConnected_1 : decode cL_areConnected 1 = .ok (.iconst 0, 1) := by decide +kernel
theorem dL_areConnected_2 : decode cL_areConnected 2 = .ok (.aload_n 0, 1) := by decide +kernel
theorem dL_areConnected_3 : decode cL_areConnected 3 = .ok (.iload_n 1, 1) := by decide +kernel
theorem dL_areConnected_4 : decode cL_areConnected 4 = .ok (.iload_n 2, 1) := by decide +kernel
theorem dL_areConnected_5 : decode cL_areConnected 5 = .ok (.invokevirtual 98, 3) := by decide +kernel
theorem dL_areConnected_8 : decode cL_areConnected 8 = .ok (.ifCond .eq 7, 3) := by decide +kernel
theorem dL_areConnected_11 : decode cL_areConnected 11 = .ok (.lconst 1, 1) := by decide +kernel
theorem dL_areConnected_12 : decode cL_areConnected 12 = .ok (.goto 4, 3) := by decide +kernel
theorem dL_areConnected_15 : decode cL_areConnected 15 = .ok (.lconst 0, 1) := by decide +kernel
theorem dL_areConnected_16 : decode cL_areConnected 16 = .ok (.lastore, 1) := by decide +kernel
theorem dL_areConnected_17 : decode cL_areConnected 17 = .ok (.goto 7, 3) := by decide +kernel
theorem dL_areConnected_20 : decode cL_areConnected 20 = .ok (.astore 4, 2) := by decide +kernel
theorem dL_areConnected_22 : decode cL_areConnected 22 = .ok (.iconst 1, 1) := by decide +kernel
theorem dL_areConnected_23 : decode cL_areConnected 23 = .ok (.ireturn, 1) := by decide +kernel
theorem dL_areConnected_24 : decode cL_areConnected 24 = .ok (.iconst 0, 1) := by decide +kernel
theorem dL_areConnected_25 : decode cL_areConnected 25 = .ok (.ireturn, 1) := by decide +kernel
theorem dL_areConnectedBySearch_0 : decode cL_areConnectedBySearch 0 = .ok (.aload_n 3, 1) := by decide +kernel
theorem dL_areConnectedBySearch_1 : decode cL_areConnectedBySearch 1 = .ok (.iconst 0, 1) := by decide +kernel
theorem dL_areConnectedBySearch_2 : decode cL_areConnectedBySearch 2 = .ok (.aload_n 0, 1) := by decide +kernel
theorem dL_areConnectedBySearch_3 : decode cL_areConnectedBySearch 3 = .ok (.iload_n 1, 1) := by decide +kernel
theorem dL_areConnectedBySearch_4 : decode cL_areConnectedBySearch 4 = .ok (.iload_n 2, 1) := by decide +kernel
theorem dL_areConnectedBySearch_5 : decode cL_areConnectedBySearch 5 = .ok (.invokevirtual 101, 3) := by decide +kernel
theorem dL_areConnectedBySearch_8 : decode cL_areConnectedBySearch 8 = .ok (.ifCond .eq 7, 3) := by decide +kernel
theorem dL_areConnectedBySearch_11 : decode cL_areConnectedBySearch 11 = .ok (.lconst 1, 1) := by decide +kernel
theorem dL_areConnectedBySearch_12 : decode cL_areConnectedBySearch 12 = .ok (.goto 4, 3) := by decide +kernel
theorem dL_areConnectedBySearch_15 : decode cL_areConnectedBySearch 15 = .ok (.lconst 0, 1) := by decide +kernel
theorem dL_areConnectedBySearch_16 : decode cL_areConnectedBySearch 16 = .ok (.lastore, 1) := by decide +kernel
theorem dL_areConnectedBySearch_17 : decode cL_areConnectedBySearch 17 = .ok (.goto 7, 3) := by decide +kernel
theorem dL_areConnectedBySearch_20 : decode cL_areConnectedBySearch 20 = .ok (.astore 4, 2) := by decide +kernel
theorem dL_areConnectedBySearch_22 : decode cL_areConnectedBySearch 22 = .ok (.iconst 1, 1) := by decide +kernel
theorem dL_areConnectedBySearch_23 : decode cL_areConnectedBySearch 23 = .ok (.ireturn, 1) := by decide +kernel
theorem dL_areConnectedBySearch_24 : decode cL_areConnectedBySearch 24 = .ok (.iconst 0, 1) := by decide +kernel
theorem dL_areConnectedBySearch_25 : decode cL_areConnectedBySearch 25 = .ok (.ireturn, 1) := by decide +kernel
theorem dL_groupSize_0 : decode cL_groupSize 0 = .ok (.aload_n 2, 1) := by decide +kernel
theorem dL_groupSize_1 : decode cL_groupSize 1 = .ok (.iconst 0, 1) := by decide +kernel
theorem dL_groupSize_2 : decode cL_groupSize 2 = .ok (.aload_n 0, 1) := by decide +kernel
theorem dL_groupSize_3 : decode cL_groupSize 3 = .ok (.iload_n 1, 1) := by decide +kernel
theorem dL_groupSize_4 : decode cL_groupSize 4 = .ok (.invokevirtual 104, 3) := by decide +kernel
theorem dL_groupSize_7 : decode cL_groupSize 7 = .ok (.i2l, 1) := by decide +kernel
theorem dL_groupSize_8 : decode cL_groupSize 8 = .ok (.lastore, 1) := by decide +kernel
theorem dL_groupSize_9 : decode cL_groupSize 9 = .ok (.goto 6, 3) := by decide +kernel
theorem dL_groupSize_12 : decode cL_groupSize 12 = .ok (.astore_n 3, 1) := by decide +kernel
theorem dL_groupSize_13 : decode cL_groupSize 13 = .ok (.iconst 1, 1) := by decide +kernel
theorem dL_groupSize_14 : decode cL_groupSize 14 = .ok (.ireturn, 1) := by decide +kernel
theorem dL_groupSize_15 : decode cL_groupSize 15 = .ok (.iconst 0, 1) := by decide +kernel
theorem dL_groupSize_16 : decode cL_groupSize 16 = .ok (.ireturn, 1) := by decide +kernel
theorem dL_heaviestWitness_0 : decode cL_heaviestWitness 0 = .ok (.aload_n 2, 1) := by decide +kernel
theorem dL_heaviestWitness_1 : decode cL_heaviestWitness 1 = .ok (.iconst 0, 1) := by decide +kernel
theorem dL_heaviestWitness_2 : decode cL_heaviestWitness 2 = .ok (.aload_n 0, 1) := by decide +kernel
theorem dL_heaviestWitness_3 : decode cL_heaviestWitness 3 = .ok (.iload_n 1, 1) := by decide +kernel
theorem dL_heaviestWitness_4 : decode cL_heaviestWitness 4 = .ok (.invokevirtual 107, 3) := by decide +kernel
theorem dL_heaviestWitness_7 : decode cL_heaviestWitness 7 = .ok (.i2l, 1) := by decide +kernel
theorem dL_heaviestWitness_8 : decode cL_heaviestWitness 8 = .ok (.lastore, 1) := by decide +kernel
theorem dL_heaviestWitness_9 : decode cL_heaviestWitness 9 = .ok (.goto 9, 3) := by decide +kernel
theorem dL_heaviestWitness_12 : decode cL_heaviestWitness 12 = .ok (.astore_n 3, 1) := by decide +kernel
theorem dL_heaviestWitness_13 : decode cL_heaviestWitness 13 = .ok (.iconst 1, 1) := by decide +kernel
theorem dL_heaviestWitness_14 : decode cL_heaviestWitness 14 = .ok (.ireturn, 1) := by decide +kernel
theorem dL_heaviestWitness_15 : decode cL_heaviestWitness 15 = .ok (.astore_n 3, 1) := by decide +kernel
theorem dL_heaviestWitness_16 : decode cL_heaviestWitness 16 = .ok (.iconst 2, 1) := by decide +kernel
theorem dL_heaviestWitness_17 : decode cL_heaviestWitness 17 = .ok (.ireturn, 1) := by decide +kernel
theorem dL_heaviestWitness_18 : decode cL_heaviestWitness 18 = .ok (.iconst 0, 1) := by decide +kernel
theorem dL_heaviestWitness_19 : decode cL_heaviestWitness 19 = .ok (.ireturn, 1) := by decide +kernel
theorem dL_nextToDecide_0 : decode cL_nextToDecide 0 = .ok (.aload_n 1, 1) := by decide +kernel
theorem dL_nextToDecide_1 : decode cL_nextToDecide 1 = .ok (.iconst 0, 1) := by decide +kernel
theorem dL_nextToDecide_2 : decode cL_nextToDecide 2 = .ok (.aload_n 0, 1) := by decide +kernel
theorem dL_nextToDecide_3 : decode cL_nextToDecide 3 = .ok (.invokevirtual 110, 3) := by decide +kernel
theorem dL_nextToDecide_6 : decode cL_nextToDecide 6 = .ok (.i2l, 1) := by decide +kernel
theorem dL_nextToDecide_7 : decode cL_nextToDecide 7 = .ok (.lastore, 1) := by decide +kernel
theorem dL_nextToDecide_8 : decode cL_nextToDecide 8 = .ok (.goto 6, 3) := by decide +kernel
theorem dL_nextToDecide_11 : decode cL_nextToDecide 11 = .ok (.astore_n 2, 1) := by decide +kernel
theorem dL_nextToDecide_12 : decode cL_nextToDecide 12 = .ok (.iconst 1, 1) := by decide +kernel
theorem dL_nextToDecide_13 : decode cL_nextToDecide 13 = .ok (.ireturn, 1) := by decide +kernel
theorem dL_nextToDecide_14 : decode cL_nextToDecide 14 = .ok (.iconst 0, 1) := by decide +kernel
theorem dL_nextToDecide_15 : decode cL_nextToDecide 15 = .ok (.ireturn, 1) := by decide +kernel
theorem dL_prosecutionWeight_0 : decode cL_prosecutionWeight 0 = .ok (.aload_n 2, 1) := by decide +kernel
theorem dL_prosecutionWeight_1 : decode cL_prosecutionWeight 1 = .ok (.iconst 0, 1) := by decide +kernel
theorem dL_prosecutionWeight_2 : decode cL_prosecutionWeight 2 = .ok (.aload_n 0, 1) := by decide +kernel
theorem dL_prosecutionWeight_3 : decode cL_prosecutionWeight 3 = .ok (.iload_n 1, 1) := by decide +kernel
theorem dL_prosecutionWeight_4 : decode cL_prosecutionWeight 4 = .ok (.invokevirtual 114, 3) := by decide +kernel
theorem dL_prosecutionWeight_7 : decode cL_prosecutionWeight 7 = .ok (.i2l, 1) := by decide +kernel
theorem dL_prosecutionWeight_8 : decode cL_prosecutionWeight 8 = .ok (.lastore, 1) := by decide +kernel
theorem dL_prosecutionWeight_9 : decode cL_prosecutionWeight 9 = .ok (.goto 6, 3) := by decide +kernel
theorem dL_prosecutionWeight_12 : decode cL_prosecutionWeight 12 = .ok (.astore_n 3, 1) := by decide +kernel
theorem dL_prosecutionWeight_13 : decode cL_prosecutionWeight 13 = .ok (.iconst 1, 1) := by decide +kernel
theorem dL_prosecutionWeight_14 : decode cL_prosecutionWeight 14 = .ok (.ireturn, 1) := by decide +kernel
theorem dL_prosecutionWeight_15 : decode cL_prosecutionWeight 15 = .ok (.iconst 0, 1) := by decide +kernel
theorem dL_prosecutionWeight_16 : decode cL_prosecutionWeight 16 = .ok (.ireturn, 1) := by decide +kernel
theorem dL_defenceWeight_0 : decode cL_defenceWeight 0 = .ok (.aload_n 2, 1) := by decide +kernel
theorem dL_defenceWeight_1 : decode cL_defenceWeight 1 = .ok (.iconst 0, 1) := by decide +kernel
theorem dL_defenceWeight_2 : decode cL_defenceWeight 2 = .ok (.aload_n 0, 1) := by decide +kernel
theorem dL_defenceWeight_3 : decode cL_defenceWeight 3 = .ok (.iload_n 1, 1) := by decide +kernel
theorem dL_defenceWeight_4 : decode cL_defenceWeight 4 = .ok (.invokevirtual 117, 3) := by decide +kernel
theorem dL_defenceWeight_7 : decode cL_defenceWeight 7 = .ok (.i2l, 1) := by decide +kernel
theorem dL_defenceWeight_8 : decode cL_defenceWeight 8 = .ok (.lastore, 1) := by decide +kernel
theorem dL_defenceWeight_9 : decode cL_defenceWeight 9 = .ok (.goto 6, 3) := by decide +kernel
theorem dL_defenceWeight_12 : decode cL_defenceWeight 12 = .ok (.astore_n 3, 1) := by decide +kernel
theorem dL_defenceWeight_13 : decode cL_defenceWeight 13 = .ok (.iconst 1, 1) := by decide +kernel
theorem dL_defenceWeight_14 : decode cL_defenceWeight 14 = .ok (.ireturn, 1) := by decide +kernel
theorem dL_defenceWeight_15 : decode cL_defenceWeight 15 = .ok (.iconst 0, 1) := by decide +kernel
theorem dL_defenceWeight_16 : decode cL_defenceWeight 16 = .ok (.ireturn, 1) := by decide +kernel
theorem dL_margin_0 : decode cL_margin 0 = .ok (.aload_n 2, 1) := by decide +kernel
theorem dL_margin_1 : decode cL_margin 1 = .ok (.iconst 0, 1) := by decide +kernel
theorem dL_margin_2 : decode cL_margin 2 = .ok (.aload_n 0, 1) := by decide +kernel
theorem dL_margin_3 : decode cL_margin 3 = .ok (.iload_n 1, 1) := by decide +kernel
theorem dL_margin_4 : decode cL_margin 4 = .ok (.invokevirtual 120, 3) := by decide +kernel
theorem dL_margin_7 : decode cL_margin 7 = .ok (.i2l, 1) := by decide +kernel
theorem dL_margin_8 : decode cL_margin 8 = .ok (.lastore, 1) := by decide +kernel
theorem dL_margin_9 : decode cL_margin 9 = .ok (.goto 6, 3) := by decide +kernel
theorem dL_margin_12 : decode cL_margin 12 = .ok (.astore_n 3, 1) := by decide +kernel
theorem dL_margin_13 : decode cL_margin 13 = .ok (.iconst 1, 1) := by decide +kernel
theorem dL_margin_14 : decode cL_margin 14 = .ok (.ireturn, 1) := by decide +kernel
theorem dL_margin_15 : decode cL_margin 15 = .ok (.iconst 0, 1) := by decide +kernel
theorem dL_margin_16 : decode cL_margin 16 = .ok (.ireturn, 1) := by decide +kernel
theorem dL_marginByCredibility_0 : decode cL_marginByCredibility 0 = .ok (.aload_n 2, 1) := by decide +kernel
theorem dL_marginByCredibility_1 : decode cL_marginByCredibility 1 = .ok (.iconst 0, 1) := by decide +kernel
theorem dL_marginByCredibility_2 : decode cL_marginByCredibility 2 = .ok (.aload_n 0, 1) := by decide +kernel
theorem dL_marginByCredibility_3 : decode cL_marginByCredibility 3 = .ok (.iload_n 1, 1) := by decide +kernel
theorem dL_marginByCredibility_4 : decode cL_marginByCredibility 4 = .ok (.invokevirtual 123, 3) := by decide +kernel
theorem dL_marginByCredibility_7 : decode cL_marginByCredibility 7 = .ok (.i2l, 1) := by decide +kernel
theorem dL_marginByCredibility_8 : decode cL_marginByCredibility 8 = .ok (.lastore, 1) := by decide +kernel
theorem dL_marginByCredibility_9 : decode cL_marginByCredibility 9 = .ok (.goto 6, 3) := by decide +kernel
theorem dL_marginByCredibility_12 : decode cL_marginByCredibility 12 = .ok (.astore_n 3, 1) := by decide +kernel
theorem dL_marginByCredibility_13 : decode cL_marginByCredibility 13 = .ok (.iconst 1, 1) := by decide +kernel
theorem dL_marginByCredibility_14 : decode cL_marginByCredibility 14 = .ok (.ireturn, 1) := by decide +kernel
theorem dL_marginByCredibility_15 : decode cL_marginByCredibility 15 = .ok (.iconst 0, 1) := by decide +kernel
theorem dL_marginByCredibility_16 : decode cL_marginByCredibility 16 = .ok (.ireturn, 1) := by decide +kernel
theorem dL_firmAnswersToGuilty_0 : decode cL_firmAnswersToGuilty 0 = .ok (.aload_n 3, 1) := by decide +kernel
theorem dL_firmAnswersToGuilty_1 : decode cL_firmAnswersToGuilty 1 = .ok (.iconst 0, 1) := by decide +kernel
theorem dL_firmAnswersToGuilty_2 : decode cL_firmAnswersToGuilty 2 = .ok (.aload_n 0, 1) := by decide +kernel
theorem dL_firmAnswersToGuilty_3 : decode cL_firmAnswersToGuilty 3 = .ok (.iload_n 1, 1) := by decide +kernel
theorem dL_firmAnswersToGuilty_4 : decode cL_firmAnswersToGuilty 4 = .ok (.iload_n 2, 1) := by decide +kernel
theorem dL_firmAnswersToGuilty_5 : decode cL_firmAnswersToGuilty 5 = .ok (.invokevirtual 126, 3) := by decide +kernel
theorem dL_firmAnswersToGuilty_8 : decode cL_firmAnswersToGuilty 8 = .ok (.i2l, 1) := by decide +kernel
theorem dL_firmAnswersToGuilty_9 : decode cL_firmAnswersToGuilty 9 = .ok (.lastore, 1) := by decide +kernel
theorem dL_firmAnswersToGuilty_10 : decode cL_firmAnswersToGuilty 10 = .ok (.goto 11, 3) := by decide +kernel
theorem dL_firmAnswersToGuilty_13 : decode cL_firmAnswersToGuilty 13 = .ok (.astore 4, 2) := by decide +kernel
theorem dL_firmAnswersToGuilty_15 : decode cL_firmAnswersToGuilty 15 = .ok (.iconst 1, 1) := by decide +kernel
theorem dL_firmAnswersToGuilty_16 : decode cL_firmAnswersToGuilty 16 = .ok (.ireturn, 1) := by decide +kernel
theorem dL_firmAnswersToGuilty_17 : decode cL_firmAnswersToGuilty 17 = .ok (.astore 4, 2) := by decide +kernel
theorem dL_firmAnswersToGuilty_19 : decode cL_firmAnswersToGuilty 19 = .ok (.iconst 2, 1) := by decide +kernel
theorem dL_firmAnswersToGuilty_20 : decode cL_firmAnswersToGuilty 20 = .ok (.ireturn, 1) := by decide +kernel
theorem dL_firmAnswersToGuilty_21 : decode cL_firmAnswersToGuilty 21 = .ok (.iconst 0, 1) := by decide +kernel
theorem dL_firmAnswersToGuilty_22 : decode cL_firmAnswersToGuilty 22 = .ok (.ireturn, 1) := by decide +kernel
theorem dL_sentence_0 : decode cL_sentence 0 = .ok (.aload_n 2, 1) := by decide +kernel
theorem dL_sentence_1 : decode cL_sentence 1 = .ok (.iconst 0, 1) := by decide +kernel
theorem dL_sentence_2 : decode cL_sentence 2 = .ok (.aload_n 0, 1) := by decide +kernel
theorem dL_sentence_3 : decode cL_sentence 3 = .ok (.iload_n 1, 1) := by decide +kernel
theorem dL_sentence_4 : decode cL_sentence 4 = .ok (.invokevirtual 129, 3) := by decide +kernel
theorem dL_sentence_7 : decode cL_sentence 7 = .ok (.i2l, 1) := by decide +kernel
theorem dL_sentence_8 : decode cL_sentence 8 = .ok (.lastore, 1) := by decide +kernel
theorem dL_sentence_9 : decode cL_sentence 9 = .ok (.goto 6, 3) := by decide +kernel
theorem dL_sentence_12 : decode cL_sentence 12 = .ok (.astore_n 3, 1) := by decide +kernel
theorem dL_sentence_13 : decode cL_sentence 13 = .ok (.iconst 1, 1) := by decide +kernel
theorem dL_sentence_14 : decode cL_sentence 14 = .ok (.ireturn, 1) := by decide +kernel
theorem dL_sentence_15 : decode cL_sentence 15 = .ok (.iconst 0, 1) := by decide +kernel
theorem dL_sentence_16 : decode cL_sentence 16 = .ok (.ireturn, 1) := by decide +kernel
theorem dL_sentenceByCases_0 : decode cL_sentenceByCases 0 = .ok (.aload_n 2, 1) := by decide +kernel
theorem dL_sentenceByCases_1 : decode cL_sentenceByCases 1 = .ok (.iconst 0, 1) := by decide +kernel
theorem dL_sentenceByCases_2 : decode cL_sentenceByCases 2 = .ok (.aload_n 0, 1) := by decide +kernel
theorem dL_sentenceByCases_3 : decode cL_sentenceByCases 3 = .ok (.iload_n 1, 1) := by decide +kernel
theorem dL_sentenceByCases_4 : decode cL_sentenceByCases 4 = .ok (.invokevirtual 132, 3) := by decide +kernel
theorem dL_sentenceByCases_7 : decode cL_sentenceByCases 7 = .ok (.i2l, 1) := by decide +kernel
theorem dL_sentenceByCases_8 : decode cL_sentenceByCases 8 = .ok (.lastore, 1) := by decide +kernel
theorem dL_sentenceByCases_9 : decode cL_sentenceByCases 9 = .ok (.goto 6, 3) := by decide +kernel
theorem dL_sentenceByCases_12 : decode cL_sentenceByCases 12 = .ok (.astore_n 3, 1) := by decide +kernel
theorem dL_sentenceByCases_13 : decode cL_sentenceByCases 13 = .ok (.iconst 1, 1) := by decide +kernel
theorem dL_sentenceByCases_14 : decode cL_sentenceByCases 14 = .ok (.ireturn, 1) := by decide +kernel
theorem dL_sentenceByCases_15 : decode cL_sentenceByCases 15 = .ok (.iconst 0, 1) := by decide +kernel
theorem dL_sentenceByCases_16 : decode cL_sentenceByCases 16 = .ok (.ireturn, 1) := by decide +kernel
theorem dL_docketAt_0 : decode cL_docketAt 0 = .ok (.aload_n 2, 1) := by decide +kernel
theorem dL_docketAt_1 : decode cL_docketAt 1 = .ok (.iconst 0, 1) := by decide +kernel
theorem dL_docketAt_2 : decode cL_docketAt 2 = .ok (.aload_n 0, 1) := by decide +kernel
theorem dL_docketAt_3 : decode cL_docketAt 3 = .ok (.iload_n 1, 1) := by decide +kernel
theorem dL_docketAt_4 : decode cL_docketAt 4 = .ok (.invokevirtual 135, 3) := by decide +kernel
theorem dL_docketAt_7 : decode cL_docketAt 7 = .ok (.i2l, 1) := by decide +kernel
theorem dL_docketAt_8 : decode cL_docketAt 8 = .ok (.lastore, 1) := by decide +kernel
theorem dL_docketAt_9 : decode cL_docketAt 9 = .ok (.goto 6, 3) := by decide +kernel
theorem dL_docketAt_12 : decode cL_docketAt 12 = .ok (.astore_n 3, 1) := by decide +kernel
theorem dL_docketAt_13 : decode cL_docketAt 13 = .ok (.iconst 1, 1) := by decide +kernel
theorem dL_docketAt_14 : decode cL_docketAt 14 = .ok (.ireturn, 1) := by decide +kernel
theorem dL_docketAt_15 : decode cL_docketAt 15 = .ok (.iconst 0, 1) := by decide +kernel
theorem dL_docketAt_16 : decode cL_docketAt 16 = .ok (.ireturn, 1) := by decide +kernel
theorem dL_docketPosition_0 : decode cL_docketPosition 0 = .ok (.aload_n 2, 1) := by decide +kernel
theorem dL_docketPosition_1 : decode cL_docketPosition 1 = .ok (.iconst 0, 1) := by decide +kernel
theorem dL_docketPosition_2 : decode cL_docketPosition 2 = .ok (.aload_n 0, 1) := by decide +kernel
theorem dL_docketPosition_3 : decode cL_docketPosition 3 = .ok (.iload_n 1, 1) := by decide +kernel
theorem dL_docketPosition_4 : decode cL_docketPosition 4 = .ok (.invokevirtual 138, 3) := by decide +kernel
theorem dL_docketPosition_7 : decode cL_docketPosition 7 = .ok (.i2l, 1) := by decide +kernel
theorem dL_docketPosition_8 : decode cL_docketPosition 8 = .ok (.lastore, 1) := by decide +kernel
theorem dL_docketPosition_9 : decode cL_docketPosition 9 = .ok (.goto 9, 3) := by decide +kernel
theorem dL_docketPosition_12 : decode cL_docketPosition 12 = .ok (.astore_n 3, 1) := by decide +kernel
theorem dL_docketPosition_13 : decode cL_docketPosition 13 = .ok (.iconst 1, 1) := by decide +kernel
theorem dL_docketPosition_14 : decode cL_docketPosition 14 = .ok (.ireturn, 1) := by decide +kernel
theorem dL_docketPosition_15 : decode cL_docketPosition 15 = .ok (.astore_n 3, 1) := by decide +kernel
theorem dL_docketPosition_16 : decode cL_docketPosition 16 = .ok (.iconst 2, 1) := by decide +kernel
theorem dL_docketPosition_17 : decode cL_docketPosition 17 = .ok (.ireturn, 1) := by decide +kernel
theorem dL_docketPosition_18 : decode cL_docketPosition 18 = .ok (.iconst 0, 1) := by decide +kernel
theorem dL_docketPosition_19 : decode cL_docketPosition 19 = .ok (.ireturn, 1) := by decide +kernel
theorem dL_meanCredibility_0 : decode cL_meanCredibility 0 = .ok (.aload_n 1, 1) := by decide +kernel
theorem dL_meanCredibility_1 : decode cL_meanCredibility 1 = .ok (.iconst 0, 1) := by decide +kernel
theorem dL_meanCredibility_2 : decode cL_meanCredibility 2 = .ok (.aload_n 0, 1) := by decide +kernel
theorem dL_meanCredibility_3 : decode cL_meanCredibility 3 = .ok (.invokevirtual 141, 3) := by decide +kernel
theorem dL_meanCredibility_6 : decode cL_meanCredibility 6 = .ok (.dastore, 1) := by decide +kernel
theorem dL_meanCredibility_7 : decode cL_meanCredibility 7 = .ok (.goto 6, 3) := by decide +kernel
theorem dL_meanCredibility_10 : decode cL_meanCredibility 10 = .ok (.astore_n 2, 1) := by decide +kernel
theorem dL_meanCredibility_11 : decode cL_meanCredibility 11 = .ok (.iconst 1, 1) := by decide +kernel
theorem dL_meanCredibility_12 : decode cL_meanCredibility 12 = .ok (.ireturn, 1) := by decide +kernel
theorem dL_meanCredibility_13 : decode cL_meanCredibility 13 = .ok (.iconst 0, 1) := by decide +kernel
theorem dL_meanCredibility_14 : decode cL_meanCredibility 14 = .ok (.ireturn, 1) := by decide +kernel
theorem dL_guiltyShare_0 : decode cL_guiltyShare 0 = .ok (.aload_n 1, 1) := by decide +kernel
theorem dL_guiltyShare_1 : decode cL_guiltyShare 1 = .ok (.iconst 0, 1) := by decide +kernel
theorem dL_guiltyShare_2 : decode cL_guiltyShare 2 = .ok (.aload_n 0, 1) := by decide +kernel
theorem dL_guiltyShare_3 : decode cL_guiltyShare 3 = .ok (.invokevirtual 147, 3) := by decide +kernel
theorem dL_guiltyShare_6 : decode cL_guiltyShare 6 = .ok (.f2d, 1) := by decide +kernel
theorem dL_guiltyShare_7 : decode cL_guiltyShare 7 = .ok (.dastore, 1) := by decide +kernel
theorem dL_guiltyShare_8 : decode cL_guiltyShare 8 = .ok (.goto 6, 3) := by decide +kernel
theorem dL_guiltyShare_11 : decode cL_guiltyShare 11 = .ok (.astore_n 2, 1) := by decide +kernel
theorem dL_guiltyShare_12 : decode cL_guiltyShare 12 = .ok (.iconst 1, 1) := by decide +kernel
theorem dL_guiltyShare_13 : decode cL_guiltyShare 13 = .ok (.ireturn, 1) := by decide +kernel
theorem dL_guiltyShare_14 : decode cL_guiltyShare 14 = .ok (.iconst 0, 1) := by decide +kernel
theorem dL_guiltyShare_15 : decode cL_guiltyShare 15 = .ok (.ireturn, 1) := by decide +kernel
theorem dL_formatCase_0 : decode cL_formatCase 0 = .ok (.aload_n 2, 1) := by decide +kernel
theorem dL_formatCase_1 : decode cL_formatCase 1 = .ok (.iconst 0, 1) := by decide +kernel
theorem dL_formatCase_2 : decode cL_formatCase 2 = .ok (.aload_n 0, 1) := by decide +kernel
theorem dL_formatCase_3 : decode cL_formatCase 3 = .ok (.iload_n 1, 1) := by decide +kernel
theorem dL_formatCase_4 : decode cL_formatCase 4 = .ok (.invokevirtual 151, 3) := by decide +kernel
theorem dL_formatCase_7 : decode cL_formatCase 7 = .ok (.i2l, 1) := by decide +kernel
theorem dL_formatCase_8 : decode cL_formatCase 8 = .ok (.lastore, 1) := by decide +kernel
theorem dL_formatCase_9 : decode cL_formatCase 9 = .ok (.goto 6, 3) := by decide +kernel
theorem dL_formatCase_12 : decode cL_formatCase 12 = .ok (.astore_n 3, 1) := by decide +kernel
theorem dL_formatCase_13 : decode cL_formatCase 13 = .ok (.iconst 1, 1) := by decide +kernel
theorem dL_formatCase_14 : decode cL_formatCase 14 = .ok (.ireturn, 1) := by decide +kernel
theorem dL_formatCase_15 : decode cL_formatCase 15 = .ok (.iconst 0, 1) := by decide +kernel
theorem dL_formatCase_16 : decode cL_formatCase 16 = .ok (.ireturn, 1) := by decide +kernel
theorem dL_formatWitness_0 : decode cL_formatWitness 0 = .ok (.aload_n 2, 1) := by decide +kernel
theorem dL_formatWitness_1 : decode cL_formatWitness 1 = .ok (.iconst 0, 1) := by decide +kernel
theorem dL_formatWitness_2 : decode cL_formatWitness 2 = .ok (.aload_n 0, 1) := by decide +kernel
theorem dL_formatWitness_3 : decode cL_formatWitness 3 = .ok (.iload_n 1, 1) := by decide +kernel
theorem dL_formatWitness_4 : decode cL_formatWitness 4 = .ok (.invokevirtual 154, 3) := by decide +kernel
theorem dL_formatWitness_7 : decode cL_formatWitness 7 = .ok (.i2l, 1) := by decide +kernel
theorem dL_formatWitness_8 : decode cL_formatWitness 8 = .ok (.lastore, 1) := by decide +kernel
theorem dL_formatWitness_9 : decode cL_formatWitness 9 = .ok (.goto 6, 3) := by decide +kernel
theorem dL_formatWitness_12 : decode cL_formatWitness 12 = .ok (.astore_n 3, 1) := by decide +kernel
theorem dL_formatWitness_13 : decode cL_formatWitness 13 = .ok (.iconst 1, 1) := by decide +kernel
theorem dL_formatWitness_14 : decode cL_formatWitness 14 = .ok (.ireturn, 1) := by decide +kernel
theorem dL_formatWitness_15 : decode cL_formatWitness 15 = .ok (.iconst 0, 1) := by decide +kernel
theorem dL_formatWitness_16 : decode cL_formatWitness 16 = .ok (.ireturn, 1) := by decide +kernel
theorem dL_lineChar_0 : decode cL_lineChar 0 = .ok (.aload_n 2, 1) := by decide +kernel
theorem dL_lineChar_1 : decode cL_lineChar 1 = .ok (.iconst 0, 1) := by decide +kernel
theorem dL_lineChar_2 : decode cL_lineChar 2 = .ok (.aload_n 0, 1) := by decide +kernel
theorem dL_lineChar_3 : decode cL_lineChar 3 = .ok (.iload_n 1, 1) := by decide +kernel
theorem dL_lineChar_4 : decode cL_lineChar 4 = .ok (.invokevirtual 157, 3) := by decide +kernel
theorem dL_lineChar_7 : decode cL_lineChar 7 = .ok (.i2l, 1) := by decide +kernel
theorem dL_lineChar_8 : decode cL_lineChar 8 = .ok (.lastore, 1) := by decide +kernel
theorem dL_lineChar_9 : decode cL_lineChar 9 = .ok (.goto 6, 3) := by decide +kernel
theorem dL_lineChar_12 : decode cL_lineChar 12 = .ok (.astore_n 3, 1) := by decide +kernel
theorem dL_lineChar_13 : decode cL_lineChar 13 = .ok (.iconst 1, 1) := by decide +kernel
theorem dL_lineChar_14 : decode cL_lineChar 14 = .ok (.ireturn, 1) := by decide +kernel
theorem dL_lineChar_15 : decode cL_lineChar 15 = .ok (.iconst 0, 1) := by decide +kernel
theorem dL_lineChar_16 : decode cL_lineChar 16 = .ok (.ireturn, 1) := by decide +kernel
theorem dL_append_0 : decode cL_append 0 = .ok (.aload_n 2, 1) := by decide +kernel
theorem dL_append_1 : decode cL_append 1 = .ok (.iconst 0, 1) := by decide +kernel
theorem dL_append_2 : decode cL_append 2 = .ok (.aload_n 0, 1) := by decide +kernel
theorem dL_append_3 : decode cL_append 3 = .ok (.iload_n 1, 1) := by decide +kernel
theorem dL_append_4 : decode cL_append 4 = .ok (.invokevirtual 161, 3) := by decide +kernel
theorem dL_append_7 : decode cL_append 7 = .ok (.i2l, 1) := by decide +kernel
theorem dL_append_8 : decode cL_append 8 = .ok (.lastore, 1) := by decide +kernel
theorem dL_append_9 : decode cL_append 9 = .ok (.goto 9, 3) := by decide +kernel
theorem dL_append_12 : decode cL_append 12 = .ok (.astore_n 3, 1) := by decide +kernel
theorem dL_append_13 : decode cL_append 13 = .ok (.iconst 1, 1) := by decide +kernel
theorem dL_append_14 : decode cL_append 14 = .ok (.ireturn, 1) := by decide +kernel
theorem dL_append_15 : decode cL_append 15 = .ok (.astore_n 3, 1) := by decide +kernel
theorem dL_append_16 : decode cL_append 16 = .ok (.iconst 2, 1) := by decide +kernel
theorem dL_append_17 : decode cL_append 17 = .ok (.ireturn, 1) := by decide +kernel
theorem dL_append_18 : decode cL_append 18 = .ok (.iconst 0, 1) := by decide +kernel
theorem dL_append_19 : decode cL_append 19 = .ok (.ireturn, 1) := by decide +kernel
theorem dL_run_0 : decode cL_run 0 = .ok (.aload_n 1, 1) := by decide +kernel
theorem dL_run_1 : decode cL_run 1 = .ok (.iconst 0, 1) := by decide +kernel
theorem dL_run_2 : decode cL_run 2 = .ok (.aload_n 0, 1) := by decide +kernel
theorem dL_run_3 : decode cL_run 3 = .ok (.invokevirtual 165, 3) := by decide +kernel
theorem dL_run_6 : decode cL_run 6 = .ok (.i2l, 1) := by decide +kernel
theorem dL_run_7 : decode cL_run 7 = .ok (.lastore, 1) := by decide +kernel
theorem dL_run_8 : decode cL_run 8 = .ok (.goto 9, 3) := by decide +kernel
theorem dL_run_11 : decode cL_run 11 = .ok (.astore_n 2, 1) := by decide +kernel
theorem dL_run_12 : decode cL_run 12 = .ok (.iconst 1, 1) := by decide +kernel
theorem dL_run_13 : decode cL_run 13 = .ok (.ireturn, 1) := by decide +kernel
theorem dL_run_14 : decode cL_run 14 = .ok (.astore_n 2, 1) := by decide +kernel
theorem dL_run_15 : decode cL_run 15 = .ok (.iconst 2, 1) := by decide +kernel
theorem dL_run_16 : decode cL_run 16 = .ok (.ireturn, 1) := by decide +kernel
theorem dL_run_17 : decode cL_run 17 = .ok (.iconst 0, 1) := by decide +kernel
theorem dL_run_18 : decode cL_run 18 = .ok (.ireturn, 1) := by decide +kernel
theorem dL_errorPosition_0 : decode cL_errorPosition 0 = .ok (.aload_n 1, 1) := by decide +kernel
theorem dL_errorPosition_1 : decode cL_errorPosition 1 = .ok (.iconst 0, 1) := by decide +kernel
theorem dL_errorPosition_2 : decode cL_errorPosition 2 = .ok (.aload_n 0, 1) := by decide +kernel
theorem dL_errorPosition_3 : decode cL_errorPosition 3 = .ok (.invokevirtual 170, 3) := by decide +kernel
theorem dL_errorPosition_6 : decode cL_errorPosition 6 = .ok (.i2l, 1) := by decide +kernel
theorem dL_errorPosition_7 : decode cL_errorPosition 7 = .ok (.lastore, 1) := by decide +kernel
theorem dL_errorPosition_8 : decode cL_errorPosition 8 = .ok (.goto 6, 3) := by decide +kernel
theorem dL_errorPosition_11 : decode cL_errorPosition 11 = .ok (.astore_n 2, 1) := by decide +kernel
theorem dL_errorPosition_12 : decode cL_errorPosition 12 = .ok (.iconst 1, 1) := by decide +kernel
theorem dL_errorPosition_13 : decode cL_errorPosition 13 = .ok (.ireturn, 1) := by decide +kernel
theorem dL_errorPosition_14 : decode cL_errorPosition 14 = .ok (.iconst 0, 1) := by decide +kernel
theorem dL_errorPosition_15 : decode cL_errorPosition 15 = .ok (.ireturn, 1) := by decide +kernel
theorem dL_failedCommand_0 : decode cL_failedCommand 0 = .ok (.aload_n 1, 1) := by decide +kernel
theorem dL_failedCommand_1 : decode cL_failedCommand 1 = .ok (.iconst 0, 1) := by decide +kernel
theorem dL_failedCommand_2 : decode cL_failedCommand 2 = .ok (.aload_n 0, 1) := by decide +kernel
theorem dL_failedCommand_3 : decode cL_failedCommand 3 = .ok (.invokevirtual 173, 3) := by decide +kernel
theorem dL_failedCommand_6 : decode cL_failedCommand 6 = .ok (.i2l, 1) := by decide +kernel
theorem dL_failedCommand_7 : decode cL_failedCommand 7 = .ok (.lastore, 1) := by decide +kernel
theorem dL_failedCommand_8 : decode cL_failedCommand 8 = .ok (.goto 6, 3) := by decide +kernel
theorem dL_failedCommand_11 : decode cL_failedCommand 11 = .ok (.astore_n 2, 1) := by decide +kernel
theorem dL_failedCommand_12 : decode cL_failedCommand 12 = .ok (.iconst 1, 1) := by decide +kernel
theorem dL_failedCommand_13 : decode cL_failedCommand 13 = .ok (.ireturn, 1) := by decide +kernel
theorem dL_failedCommand_14 : decode cL_failedCommand 14 = .ok (.iconst 0, 1) := by decide +kernel
theorem dL_failedCommand_15 : decode cL_failedCommand 15 = .ok (.ireturn, 1) := by decide +kernel
theorem dL_isFailureOfState_0 : decode cL_isFailureOfState 0 = .ok (.aload_n 1, 1) := by decide +kernel
theorem dL_isFailureOfState_1 : decode cL_isFailureOfState 1 = .ok (.iconst 0, 1) := by decide +kernel
theorem dL_isFailureOfState_2 : decode cL_isFailureOfState 2 = .ok (.aload_n 0, 1) := by decide +kernel
theorem dL_isFailureOfState_3 : decode cL_isFailureOfState 3 = .ok (.invokevirtual 176, 3) := by decide +kernel
theorem dL_isFailureOfState_6 : decode cL_isFailureOfState 6 = .ok (.ifCond .eq 7, 3) := by decide +kernel
theorem dL_isFailureOfState_9 : decode cL_isFailureOfState 9 = .ok (.lconst 1, 1) := by decide +kernel
theorem dL_isFailureOfState_10 : decode cL_isFailureOfState 10 = .ok (.goto 4, 3) := by decide +kernel
theorem dL_isFailureOfState_13 : decode cL_isFailureOfState 13 = .ok (.lconst 0, 1) := by decide +kernel
theorem dL_isFailureOfState_14 : decode cL_isFailureOfState 14 = .ok (.lastore, 1) := by decide +kernel
theorem dL_isFailureOfState_15 : decode cL_isFailureOfState 15 = .ok (.goto 6, 3) := by decide +kernel
theorem dL_isFailureOfState_18 : decode cL_isFailureOfState 18 = .ok (.astore_n 2, 1) := by decide +kernel
theorem dL_isFailureOfState_19 : decode cL_isFailureOfState 19 = .ok (.iconst 1, 1) := by decide +kernel
theorem dL_isFailureOfState_20 : decode cL_isFailureOfState 20 = .ok (.ireturn, 1) := by decide +kernel
theorem dL_isFailureOfState_21 : decode cL_isFailureOfState 21 = .ok (.iconst 0, 1) := by decide +kernel
theorem dL_isFailureOfState_22 : decode cL_isFailureOfState 22 = .ok (.ireturn, 1) := by decide +kernel
theorem dL_undo_0 : decode cL_undo 0 = .ok (.aload_n 1, 1) := by decide +kernel
theorem dL_undo_1 : decode cL_undo 1 = .ok (.iconst 0, 1) := by decide +kernel
theorem dL_undo_2 : decode cL_undo 2 = .ok (.aload_n 0, 1) := by decide +kernel
theorem dL_undo_3 : decode cL_undo 3 = .ok (.invokevirtual 180, 3) := by decide +kernel
theorem dL_undo_6 : decode cL_undo 6 = .ok (.i2l, 1) := by decide +kernel
theorem dL_undo_7 : decode cL_undo 7 = .ok (.lastore, 1) := by decide +kernel
theorem dL_undo_8 : decode cL_undo 8 = .ok (.goto 6, 3) := by decide +kernel
theorem dL_undo_11 : decode cL_undo 11 = .ok (.astore_n 2, 1) := by decide +kernel
theorem dL_undo_12 : decode cL_undo 12 = .ok (.iconst 1, 1) := by decide +kernel
theorem dL_undo_13 : decode cL_undo 13 = .ok (.ireturn, 1) := by decide +kernel
theorem dL_undo_14 : decode cL_undo 14 = .ok (.iconst 0, 1) := by decide +kernel
theorem dL_undo_15 : decode cL_undo 15 = .ok (.ireturn, 1) := by decide +kernel
theorem dL_restore_0 : decode cL_restore 0 = .ok (.aload_n 1, 1) := by decide +kernel
theorem dL_restore_1 : decode cL_restore 1 = .ok (.iconst 0, 1) := by decide +kernel
theorem dL_restore_2 : decode cL_restore 2 = .ok (.aload_n 0, 1) := by decide +kernel
theorem dL_restore_3 : decode cL_restore 3 = .ok (.invokevirtual 183, 3) := by decide +kernel
theorem dL_restore_6 : decode cL_restore 6 = .ok (.i2l, 1) := by decide +kernel
theorem dL_restore_7 : decode cL_restore 7 = .ok (.lastore, 1) := by decide +kernel
theorem dL_restore_8 : decode cL_restore 8 = .ok (.goto 6, 3) := by decide +kernel
theorem dL_restore_11 : decode cL_restore 11 = .ok (.astore_n 2, 1) := by decide +kernel
theorem dL_restore_12 : decode cL_restore 12 = .ok (.iconst 1, 1) := by decide +kernel
theorem dL_restore_13 : decode cL_restore 13 = .ok (.ireturn, 1) := by decide +kernel
theorem dL_restore_14 : decode cL_restore 14 = .ok (.iconst 0, 1) := by decide +kernel
theorem dL_restore_15 : decode cL_restore 15 = .ok (.ireturn, 1) := by decide +kernel
theorem dL_law_0 : decode cL_law 0 = .ok (.new 8, 3) := by decide +kernel
theorem dL_law_3 : decode cL_law 3 = .ok (.dup, 1) := by decide +kernel
theorem dL_law_4 : decode cL_law 4 = .ok (.invokespecial 186, 3) := by decide +kernel
theorem dL_law_7 : decode cL_law 7 = .ok (.astore_n 1, 1) := by decide +kernel
theorem dL_law_8 : decode cL_law 8 = .ok (.new 187, 3) := by decide +kernel
theorem dL_law_11 : decode cL_law 11 = .ok (.dup, 1) := by decide +kernel
theorem dL_law_12 : decode cL_law 12 = .ok (.invokespecial 189, 3) := by decide +kernel
theorem dL_law_15 : decode cL_law 15 = .ok (.astore_n 2, 1) := by decide +kernel
theorem dL_law_16 : decode cL_law 16 = .ok (.iconst 1, 1) := by decide +kernel
theorem dL_law_17 : decode cL_law 17 = .ok (.newarray .long, 2) := by decide +kernel
theorem dL_law_19 : decode cL_law 19 = .ok (.astore_n 3, 1) := by decide +kernel
theorem dL_law_20 : decode cL_law 20 = .ok (.iconst 1, 1) := by decide +kernel
theorem dL_law_21 : decode cL_law 21 = .ok (.newarray .double, 2) := by decide +kernel
theorem dL_law_23 : decode cL_law 23 = .ok (.astore 4, 2) := by decide +kernel
theorem dL_law_25 : decode cL_law 25 = .ok (.iconst 0, 1) := by decide +kernel
theorem dL_law_26 : decode cL_law 26 = .ok (.istore 5, 2) := by decide +kernel
theorem dL_law_28 : decode cL_law 28 = .ok (.iload 5, 2) := by decide +kernel
theorem dL_law_30 : decode cL_law 30 = .ok (.aload_n 0, 1) := by decide +kernel
theorem dL_law_31 : decode cL_law 31 = .ok (.arraylength, 1) := by decide +kernel
theorem dL_law_32 : decode cL_law 32 = .ok (.iconst 5, 1) := by decide +kernel
theorem dL_law_33 : decode cL_law 33 = .ok (.isub, 1) := by decide +kernel
theorem dL_law_34 : decode cL_law 34 = .ok (.if_icmp .gt 3527, 3) := by decide +kernel
theorem dL_law_37 : decode cL_law 37 = .ok (.aload_n 0, 1) := by decide +kernel
theorem dL_law_38 : decode cL_law 38 = .ok (.iload 5, 2) := by decide +kernel
theorem dL_law_40 : decode cL_law 40 = .ok (.iaload, 1) := by decide +kernel
theorem dL_law_41 : decode cL_law 41 = .ok (.bipush 63, 2) := by decide +kernel
theorem dL_law_43 : decode cL_law 43 = .ok (.iand, 1) := by decide +kernel
theorem dL_law_44 : decode cL_law 44 = .ok (.tableswitch 3511 0 62 #[268, 336, 392, 500, 596, 659, 715, 771, 784, 852, 908, 964, 1027, 1090, 1153, 1216, 1272, 1328, 1396, 1471, 1546, 1614, 1682, 1695, 1751, 1807, 1863, 1931, 2006, 2081, 2137, 2150, 2206, 2250, 2306, 2362, 2418, 2474, 2542, 2598, 2654, 2667, 2680, 2736, 2792, 2805, 2818, 2831, 2844, 2909, 2975, 2988, 3044, 3100, 3156, 3214, 3258, 3302, 3346, 3397, 3410, 3454, 3467], 268) := by decide +kernel
theorem dL_law_312 : decode cL_law 312 = .ok (.aload_n 1, 1) := by decide +kernel
theorem dL_law_313 : decode cL_law 313 = .ok (.aload_n 0, 1) := by decide +kernel
theorem dL_law_314 : decode cL_law 314 = .ok (.iload 5, 2) := by decide +kernel
theorem dL_law_316 : decode cL_law 316 = .ok (.iconst 1, 1) := by decide +kernel
theorem dL_law_317 : decode cL_law 317 = .ok (.iadd, 1) := by decide +kernel
theorem dL_law_318 : decode cL_law 318 = .ok (.iaload, 1) := by decide +kernel
theorem dL_law_319 : decode cL_law 319 = .ok (.aload_n 0, 1) := by decide +kernel
theorem dL_law_320 : decode cL_law 320 = .ok (.iload 5, 2) := by decide +kernel
theorem dL_law_322 : decode cL_law 322 = .ok (.iconst 2, 1) := by decide +kernel
theorem dL_law_323 : decode cL_law 323 = .ok (.iadd, 1) := by decide +kernel
theorem dL_law_324 : decode cL_law 324 = .ok (.iaload, 1) := by decide +kernel
theorem dL_law_325 : decode cL_law 325 = .ok (.aload_n 3, 1) := by decide +kernel
theorem dL_law_326 : decode cL_law 326 = .ok (.invokestatic 190, 3) := by decide +kernel
theorem dL_law_329 : decode cL_law 329 = .ok (.istore 6, 2) := by decide +kernel
theorem dL_law_331 : decode cL_law 331 = .ok (.aload_n 2, 1) := by decide +kernel
theorem dL_law_332 : decode cL_law 332 = .ok (.aload_n 0, 1) := by decide +kernel
theorem dL_law_333 : decode cL_law 333 = .ok (.iload 5, 2) := by decide +kernel
theorem dL_law_335 : decode cL_law 335 = .ok (.iconst 1, 1) := by decide +kernel
theorem dL_law_336 : decode cL_law 336 = .ok (.iadd, 1) := by decide +kernel
theorem dL_law_337 : decode cL_law 337 = .ok (.iaload, 1) := by decide +kernel
theorem dL_law_338 : decode cL_law 338 = .ok (.aload_n 0, 1) := by decide +kernel
theorem dL_law_339 : decode cL_law 339 = .ok (.iload 5, 2) := by decide +kernel
theorem dL_law_341 : decode cL_law 341 = .ok (.iconst 2, 1) := by decide +kernel
theorem dL_law_342 : decode cL_law 342 = .ok (.iadd, 1) := by decide +kernel
theorem dL_law_343 : decode cL_law 343 = .ok (.iaload, 1) := by decide +kernel
theorem dL_law_344 : decode cL_law 344 = .ok (.invokevirtual 195, 3) := by decide +kernel
theorem dL_law_347 : decode cL_law 347 = .ok (.istore 7, 2) := by decide +kernel
theorem dL_law_349 : decode cL_law 349 = .ok (.aload_n 2, 1) := by decide +kernel
theorem dL_law_350 : decode cL_law 350 = .ok (.invokevirtual 196, 3) := by decide +kernel
theorem dL_law_353 : decode cL_law 353 = .ok (.iload 6, 2) := by decide +kernel
theorem dL_law_355 : decode cL_law 355 = .ok (.if_icmp .eq 5, 3) := by decide +kernel
theorem dL_law_358 : decode cL_law 358 = .ok (.iconst 0, 1) := by decide +kernel
theorem dL_law_359 : decode cL_law 359 = .ok (.ireturn, 1) := by decide +kernel
theorem dL_law_360 : decode cL_law 360 = .ok (.iload 6, 2) := by decide +kernel
theorem dL_law_362 : decode cL_law 362 = .ok (.ifCond .ne 15, 3) := by decide +kernel
theorem dL_law_365 : decode cL_law 365 = .ok (.aload_n 3, 1) := by decide +kernel
theorem dL_law_366 : decode cL_law 366 = .ok (.iconst 0, 1) := by decide +kernel
theorem dL_law_367 : decode cL_law 367 = .ok (.laload, 1) := by decide +kernel
theorem dL_law_368 : decode cL_law 368 = .ok (.iload 7, 2) := by decide +kernel
theorem dL_law_370 : decode cL_law 370 = .ok (.i2l, 1) := by decide +kernel
theorem dL_law_371 : decode cL_law 371 = .ok (.lcmp, 1) := by decide +kernel
theorem dL_law_372 : decode cL_law 372 = .ok (.ifCond .eq 5, 3) := by decide +kernel
theorem dL_law_375 : decode cL_law 375 = .ok (.iconst 0, 1) := by decide +kernel
theorem dL_law_376 : decode cL_law 376 = .ok (.ireturn, 1) := by decide +kernel
theorem dL_law_377 : decode cL_law 377 = .ok (.goto 3178, 3) := by decide +kernel
theorem dL_law_380 : decode cL_law 380 = .ok (.aload_n 1, 1) := by decide +kernel
theorem dL_law_381 : decode cL_law 381 = .ok (.aload_n 0, 1) := by decide +kernel
theorem dL_law_382 : decode cL_law 382 = .ok (.iload 5, 2) := by decide +kernel
theorem dL_law_384 : decode cL_law 384 = .ok (.iconst 1, 1) := by decide +kernel
theorem dL_law_385 : decode cL_law 385 = .ok (.iadd, 1) := by decide +kernel
theorem dL_law_386 : decode cL_law 386 = .ok (.iaload, 1) := by decide +kernel
theorem dL_law_387 : decode cL_law 387 = .ok (.aload_n 3, 1) := by decide +kernel
theorem dL_law_388 : decode cL_law 388 = .ok (.invokestatic 199, 3) := by decide +kernel
theorem dL_law_391 : decode cL_law 391 = .ok (.istore 6, 2) := by decide +kernel
theorem dL_law_393 : decode cL_law 393 = .ok (.aload_n 2, 1) := by decide +kernel
theorem dL_law_394 : decode cL_law 394 = .ok (.aload_n 0, 1) := by decide +kernel
theorem dL_law_395 : decode cL_law 395 = .ok (.iload 5, 2) := by decide +kernel
theorem dL_law_397 : decode cL_law 397 = .ok (.iconst 1, 1) := by decide +kernel
theorem dL_law_398 : decode cL_law 398 = .ok (.iadd, 1) := by decide +kernel
theorem dL_law_399 : decode cL_law 399 = .ok (.iaload, 1) := by decide +kernel
theorem dL_law_400 : decode cL_law 400 = .ok (.invokevirtual 202, 3) := by decide +kernel
theorem dL_law_403 : decode cL_law 403 = .ok (.istore 7, 2) := by decide +kernel
theorem dL_law_405 : decode cL_law 405 = .ok (.aload_n 2, 1) := by decide +kernel
theorem dL_law_406 : decode cL_law 406 = .ok (.invokevirtual 196, 3) := by decide +kernel
theorem dL_law_409 : decode cL_law 409 = .ok (.iload 6, 2) := by decide +kernel
theorem dL_law_411 : decode cL_law 411 = .ok (.if_icmp .eq 5, 3) := by decide +kernel
theorem dL_law_414 : decode cL_law 414 = .ok (.iconst 0, 1) := by decide +kernel
theorem dL_law_415 : decode cL_law 415 = .ok (.ireturn, 1) := by decide +kernel
theorem dL_law_416 : decode cL_law 416 = .ok (.iload 6, 2) := by decide +kernel
theorem dL_law_418 : decode cL_law 418 = .ok (.ifCond .ne 15, 3) := by decide +kernel
theorem dL_law_421 : decode cL_law 421 = .ok (.aload_n 3, 1) := by decide +kernel
theorem dL_law_422 : decode cL_law 422 = .ok (.iconst 0, 1) := by decide +kernel
theorem dL_law_423 : decode cL_law 423 = .ok (.laload, 1) := by decide +kernel
theorem dL_law_424 : decode cL_law 424 = .ok (.iload 7, 2) := by decide +kernel
theorem dL_law_426 : decode cL_law 426 = .ok (.i2l, 1) := by decide +kernel
theorem dL_law_427 : decode cL_law 427 = .ok (.lcmp, 1) := by decide +kernel
theorem dL_law_428 : decode cL_law 428 = .ok (.ifCond .eq 5, 3) := by decide +kernel
theorem dL_law_431 : decode cL_law 431 = .ok (.iconst 0, 1) := by decide +kernel
theorem dL_law_432 : decode cL_law 432 = .ok (.ireturn, 1) := by decide +kernel
theorem dL_law_433 : decode cL_law 433 = .ok (.goto 3122, 3) := by decide +kernel
theorem dL_law_436 : decode cL_law 436 = .ok (.aload_n 1, 1) := by decide +kernel
theorem dL_law_437 : decode cL_law 437 = .ok (.aload_n 0, 1) := by decide +kernel
theorem dL_law_438 : decode cL_law 438 = .ok (.iload 5, 2) := by decide +kernel
theorem dL_law_440 : decode cL_law 440 = .ok (.iconst 1, 1) := by decide +kernel
theorem dL_law_441 : decode cL_law 441 = .ok (.iadd, 1) := by decide +kernel
theorem dL_law_442 : decode cL_law 442 = .ok (.iaload, 1) := by decide +kernel
theorem dL_law_443 : decode cL_law 443 = .ok (.aload_n 0, 1) := by decide +kernel
theorem dL_law_444 : decode cL_law 444 = .ok (.iload 5, 2) := by decide +kernel
theorem dL_law_446 : decode cL_law 446 = .ok (.iconst 2, 1) := by decide +kernel
theorem dL_law_447 : decode cL_law 447 = .ok (.iadd, 1) := by decide +kernel
theorem dL_law_448 : decode cL_law 448 = .ok (.iaload, 1) := by decide +kernel
theorem dL_law_449 : decode cL_law 449 = .ok (.aload_n 0, 1) := by decide +kernel
theorem dL_law_450 : decode cL_law 450 = .ok (.iload 5, 2) := by decide +kernel
theorem dL_law_452 : decode cL_law 452 = .ok (.iconst 3, 1) := by decide +kernel
theorem dL_law_453 : decode cL_law 453 = .ok (.iadd, 1) := by decide +kernel
theorem dL_law_454 : decode cL_law 454 = .ok (.iaload, 1) := by decide +kernel
theorem dL_law_455 : decode cL_law 455 = .ok (.ifCond .eq 7, 3) := by decide +kernel
theorem dL_law_458 : decode cL_law 458 = .ok (.iconst 1, 1) := by decide +kernel
theorem dL_law_459 : decode cL_law 459 = .ok (.goto 4, 3) := by decide +kernel
theorem dL_law_462 : decode cL_law 462 = .ok (.iconst 0, 1) := by decide +kernel
theorem dL_law_463 : decode cL_law 463 = .ok (.aload_n 0, 1) := by decide +kernel
theorem dL_law_464 : decode cL_law 464 = .ok (.iload 5, 2) := by decide +kernel
theorem dL_law_466 : decode cL_law 466 = .ok (.iconst 4, 1) := by decide +kernel
theorem dL_law_467 : decode cL_law 467 = .ok (.iadd, 1) := by decide +kernel
theorem dL_law_468 : decode cL_law 468 = .ok (.iaload, 1) := by decide +kernel
theorem dL_law_469 : decode cL_law 469 = .ok (.aload_n 3, 1) := by decide +kernel
theorem dL_law_470 : decode cL_law 470 = .ok (.invokestatic 203, 3) := by decide +kernel
theorem dL_law_473 : decode cL_law 473 = .ok (.istore 6, 2) := by decide +kernel
theorem dL_law_475 : decode cL_law 475 = .ok (.aload_n 2, 1) := by decide +kernel
theorem dL_law_476 : decode cL_law 476 = .ok (.aload_n 0, 1) := by decide +kernel
theorem dL_law_477 : decode cL_law 477 = .ok (.iload 5, 2) := by decide +kernel
theorem dL_law_479 : decode cL_law 479 = .ok (.iconst 1, 1) := by decide +kernel
theorem dL_law_480 : decode cL_law 480 = .ok (.iadd, 1) := by decide +kernel
theorem dL_law_481 : decode cL_law 481 = .ok (.iaload, 1) := by decide +kernel
theorem dL_law_482 : decode cL_law 482 = .ok (.aload_n 0, 1) := by decide +kernel
theorem dL_law_483 : decode cL_law 483 = .ok (.iload 5, 2) := by decide +kernel
theorem dL_law_485 : decode cL_law 485 = .ok (.iconst 2, 1) := by decide +kernel
theorem dL_law_486 : decode cL_law 486 = .ok (.iadd, 1) := by decide +kernel
theorem dL_law_487 : decode cL_law 487 = .ok (.iaload, 1) := by decide +kernel
theorem dL_law_488 : decode cL_law 488 = .ok (.aload_n 0, 1) := by decide +kernel
theorem dL_law_489 : decode cL_law 489 = .ok (.iload 5, 2) := by decide +kernel
theorem dL_law_491 : decode cL_law 491 = .ok (.iconst 3, 1) := by decide +kernel
theorem dL_law_492 : decode cL_law 492 = .ok (.iadd, 1) := by decide +kernel
theorem dL_law_493 : decode cL_law 493 = .ok (.iaload, 1) := by decide +kernel
theorem dL_law_494 : decode cL_law 494 = .ok (.ifCond .eq 7, 3) := by decide +kernel
theorem dL_law_497 : decode cL_law 497 = .ok (.iconst 1, 1) := by decide +kernel
theorem dL_law_498 : decode cL_law 498 = .ok (.goto 4, 3) := by decide +kernel
theorem dL_law_501 : decode cL_law 501 = .ok (.iconst 0, 1) := by decide +kernel
theorem dL_law_502 : decode cL_law 502 = .ok (.aload_n 0, 1) := by decide +kernel
theorem dL_law_503 : decode cL_law 503 = .ok (.iload 5, 2) := by decide +kernel
theorem dL_law_505 : decode cL_law 505 = .ok (.iconst 4, 1) := by decide +kernel
theorem dL_law_506 : decode cL_law 506 = .ok (.iadd, 1) := by decide +kernel
theorem dL_law_507 : decode cL_law 507 = .ok (.iaload, 1) := by decide +kernel
theorem dL_law_508 : decode cL_law 508 = .ok (.invokevirtual 206, 3) := by decide +kernel
theorem dL_law_511 : decode cL_law 511 = .ok (.istore 7, 2) := by decide +kernel
theorem dL_law_513 : decode cL_law 513 = .ok (.aload_n 2, 1) := by decide +kernel
theorem dL_law_514 : decode cL_law 514 = .ok (.invokevirtual 196, 3) := by decide +kernel
theorem dL_law_517 : decode cL_law 517 = .ok (.iload 6, 2) := by decide +kernel
theorem dL_law_519 : decode cL_law 519 = .ok (.if_icmp .eq 5, 3) := by decide +kernel
theorem dL_law_522 : decode cL_law 522 = .ok (.iconst 0, 1) := by decide +kernel
theorem dL_law_523 : decode cL_law 523 = .ok (.ireturn, 1) := by decide +kernel
theorem dL_law_524 : decode cL_law 524 = .ok (.iload 6, 2) := by decide +kernel
theorem dL_law_526 : decode cL_law 526 = .ok (.ifCond .ne 15, 3) := by decide +kernel
theorem dL_law_529 : decode cL_law 529 = .ok (.aload_n 3, 1) := by decide +kernel
theorem dL_law_530 : decode cL_law 530 = .ok (.iconst 0, 1) := by decide +kernel
theorem dL_law_531 : decode cL_law 531 = .ok (.laload, 1) := by decide +kernel
theorem dL_law_532 : decode cL_law 532 = .ok (.iload 7, 2) := by decide +kernel
theorem dL_law_534 : decode cL_law 534 = .ok (.i2l, 1) := by decide +kernel
theorem dL_law_535 : decode cL_law 535 = .ok (.lcmp, 1) := by decide +kernel
theorem dL_law_536 : decode cL_law 536 = .ok (.ifCond .eq 5, 3) := by decide +kernel
theorem dL_law_539 : decode cL_law 539 = .ok (.iconst 0, 1) := by decide +kernel
theorem dL_law_540 : decode cL_law 540 = .ok (.ireturn, 1) := by decide +kernel
theorem dL_law_541 : decode cL_law 541 = .ok (.goto 3014, 3) := by decide +kernel
theorem dL_law_544 : decode cL_law 544 = .ok (.aload_n 1, 1) := by decide +kernel
theorem dL_law_545 : decode cL_law 545 = .ok (.aload_n 0, 1) := by decide +kernel
theorem dL_law_546 : decode cL_law 546 = .ok (.iload 5, 2) := by decide +kernel
theorem dL_law_548 : decode cL_law 548 = .ok (.iconst 1, 1) := by decide +kernel
theorem dL_law_549 : decode cL_law 549 = .ok (.iadd, 1) := by decide +kernel
theorem dL_law_550 : decode cL_law 550 = .ok (.iaload, 1) := by decide +kernel
theorem dL_law_551 : decode cL_law 551 = .ok (.aload_n 0, 1) := by decide +kernel
theorem dL_law_552 : decode cL_law 552 = .ok (.iload 5, 2) := by decide +kernel
theorem dL_law_554 : decode cL_law 554 = .ok (.iconst 2, 1) := by decide +kernel
theorem dL_law_555 : decode cL_law 555 = .ok (.iadd, 1) := by decide +kernel
theorem dL_law_556 : decode cL_law 556 = .ok (.iaload, 1) := by decide +kernel
theorem dL_law_557 : decode cL_law 557 = .ok (.aload_n 0, 1) := by decide +kernel
theorem dL_law_558 : decode cL_law 558 = .ok (.iload 5, 2) := by decide +kernel
theorem dL_law_560 : decode cL_law 560 = .ok (.iconst 3, 1) := by decide +kernel
theorem dL_law_561 : decode cL_law 561 = .ok (.iadd, 1) := by decide +kernel
theorem dL_law_562 : decode cL_law 562 = .ok (.iaload, 1) := by decide +kernel
theorem dL_law_563 : decode cL_law 563 = .ok (.ifCond .eq 7, 3) := by decide +kernel
theorem dL_law_566 : decode cL_law 566 = .ok (.iconst 1, 1) := by decide +kernel
theorem dL_law_567 : decode cL_law 567 = .ok (.goto 4, 3) := by decide +kernel
theorem dL_law_570 : decode cL_law 570 = .ok (.iconst 0, 1) := by decide +kernel
theorem dL_law_571 : decode cL_law 571 = .ok (.aload_n 3, 1) := by decide +kernel
theorem dL_law_572 : decode cL_law 572 = .ok (.invokestatic 207, 3) := by decide +kernel
theorem dL_law_575 : decode cL_law 575 = .ok (.istore 6, 2) := by decide +kernel
theorem dL_law_577 : decode cL_law 577 = .ok (.aload_n 2, 1) := by decide +kernel
theorem dL_law_578 : decode cL_law 578 = .ok (.aload_n 0, 1) := by decide +kernel
theorem dL_law_579 : decode cL_law 579 = .ok (.iload 5, 2) := by decide +kernel
theorem dL_law_581 : decode cL_law 581 = .ok (.iconst 1, 1) := by decide +kernel
theorem dL_law_582 : decode cL_law 582 = .ok (.iadd, 1) := by decide +kernel
theorem dL_law_583 : decode cL_law 583 = .ok (.iaload, 1) := by decide +kernel
theorem dL_law_584 : decode cL_law 584 = .ok (.aload_n 0, 1) := by decide +kernel
theorem dL_law_585 : decode cL_law 585 = .ok (.iload 5, 2) := by decide +kernel
theorem dL_law_587 : decode cL_law 587 = .ok (.iconst 2, 1) := by decide +kernel
theorem dL_law_588 : decode cL_law 588 = .ok (.iadd, 1) := by decide +kernel
theorem dL_law_589 : decode cL_law 589 = .ok (.iaload, 1) := by decide +kernel
theorem dL_law_590 : decode cL_law 590 = .ok (.aload_n 0, 1) := by decide +kernel
theorem dL_law_591 : decode cL_law 591 = .ok (.iload 5, 2) := by decide +kernel
theorem dL_law_593 : decode cL_law 593 = .ok (.iconst 3, 1) := by decide +kernel
theorem dL_law_594 : decode cL_law 594 = .ok (.iadd, 1) := by decide +kernel
theorem dL_law_595 : decode cL_law 595 = .ok (.iaload, 1) := by decide +kernel
theorem dL_law_596 : decode cL_law 596 = .ok (.ifCond .eq 7, 3) := by decide +kernel
theorem dL_law_599 : decode cL_law 599 = .ok (.iconst 1, 1) := by decide +kernel
theorem dL_law_600 : decode cL_law 600 = .ok (.goto 4, 3) := by decide +kernel
theorem dL_law_603 : decode cL_law 603 = .ok (.iconst 0, 1) := by decide +kernel
theorem dL_law_604 : decode cL_law 604 = .ok (.invokevirtual 210, 3) := by decide +kernel
theorem dL_law_607 : decode cL_law 607 = .ok (.istore 7, 2) := by decide +kernel
theorem dL_law_609 : decode cL_law 609 = .ok (.aload_n 2, 1) := by decide +kernel
theorem dL_law_610 : decode cL_law 610 = .ok (.invokevirtual 196, 3) := by decide +kernel
theorem dL_law_613 : decode cL_law 613 = .ok (.iload 6, 2) := by decide +kernel
theorem dL_law_615 : decode cL_law 615 = .ok (.if_icmp .eq 5, 3) := by decide +kernel
theorem dL_law_618 : decode cL_law 618 = .ok (.iconst 0, 1) := by decide +kernel
theorem dL_law_619 : decode cL_law 619 = .ok (.ireturn, 1) := by decide +kernel
theorem dL_law_620 : decode cL_law 620 = .ok (.iload 6, 2) := by decide +kernel
theorem dL_law_622 : decode cL_law 622 = .ok (.ifCond .ne 15, 3) := by decide +kernel
theorem dL_law_625 : decode cL_law 625 = .ok (.aload_n 3, 1) := by decide +kernel
theorem dL_law_626 : decode cL_law 626 = .ok (.iconst 0, 1) := by decide +kernel
theorem dL_law_627 : decode cL_law 627 = .ok (.laload, 1) := by decide +kernel
theorem dL_law_628 : decode cL_law 628 = .ok (.iload 7, 2) := by decide +kernel
theorem dL_law_630 : decode cL_law 630 = .ok (.i2l, 1) := by decide +kernel
theorem dL_law_631 : decode cL_law 631 = .ok (.lcmp, 1) := by decide +kernel
theorem dL_law_632 : decode cL_law 632 = .ok (.ifCond .eq 5, 3) := by decide +kernel
theorem dL_law_635 : decode cL_law 635 = .ok (.iconst 0, 1) := by decide +kernel
theorem dL_law_636 : decode cL_law 636 = .ok (.ireturn, 1) := by decide +kernel
theorem dL_law_637 : decode cL_law 637 = .ok (.goto 2918, 3) := by decide +kernel
theorem dL_law_640 : decode cL_law 640 = .ok (.aload_n 1, 1) := by decide +kernel
theorem dL_law_641 : decode cL_law 641 = .ok (.aload_n 0, 1) := by decide +kernel
theorem dL_law_642 : decode cL_law 642 = .ok (.iload 5, 2) := by decide +kernel
theorem dL_law_644 : decode cL_law 644 = .ok (.iconst 1, 1) := by decide +kernel
theorem dL_law_645 : decode cL_law 645 = .ok (.iadd, 1) := by decide +kernel
theorem dL_law_646 : decode cL_law 646 = .ok (.iaload, 1) := by decide +kernel
theorem dL_law_647 : decode cL_law 647 = .ok (.aload_n 3, 1) := by decide +kernel
theorem dL_law_648 : decode cL_law 648 = .ok (.invokestatic 211, 3) := by decide +kernel
theorem dL_law_651 : decode cL_law 651 = .ok (.istore 6, 2) := by decide +kernel
theorem dL_law_653 : decode cL_law 653 = .ok (.aload_n 2, 1) := by decide +kernel
theorem dL_law_654 : decode cL_law 654 = .ok (.aload_n 0, 1) := by decide +kernel
theorem dL_law_655 : decode cL_law 655 = .ok (.iload 5, 2) := by decide +kernel
theorem dL_law_657 : decode cL_law 657 = .ok (.iconst 1, 1) := by decide +kernel
theorem dL_law_658 : decode cL_law 658 = .ok (.iadd, 1) := by decide +kernel
theorem dL_law_659 : decode cL_law 659 = .ok (.iaload, 1) := by decide +kernel
theorem dL_law_660 : decode cL_law 660 = .ok (.invokevirtual 213, 3) := by decide +kernel
theorem dL_law_663 : decode cL_law 663 = .ok (.istore 7, 2) := by decide +kernel
theorem dL_law_665 : decode cL_law 665 = .ok (.aload_n 2, 1) := by decide +kernel
theorem dL_law_666 : decode cL_law 666 = .ok (.invokevirtual 196, 3) := by decide +kernel
theorem dL_law_669 : decode cL_law 669 = .ok (.iload 6, 2) := by decide +kernel
theorem dL_law_671 : decode cL_law 671 = .ok (.if_icmp .eq 5, 3) := by decide +kernel
theorem dL_law_674 : decode cL_law 674 = .ok (.iconst 0, 1) := by decide +kernel
theorem dL_law_675 : decode cL_law 675 = .ok (.ireturn, 1) := by decide +kernel
theorem dL_law_676 : decode cL_law 676 = .ok (.iload 6, 2) := by decide +kernel
theorem dL_law_678 : decode cL_law 678 = .ok (.ifCond .ne 22, 3) := by decide +kernel
theorem dL_law_681 : decode cL_law 681 = .ok (.aload_n 3, 1) := by decide +kernel
theorem dL_law_682 : decode cL_law 682 = .ok (.iconst 0, 1) := by decide +kernel
theorem dL_law_683 : decode cL_law 683 = .ok (.laload, 1) := by decide +kernel
theorem dL_law_684 : decode cL_law 684 = .ok (.iload 7, 2) := by decide +kernel
theorem dL_law_686 : decode cL_law 686 = .ok (.ifCond .eq 7, 3) := by decide +kernel
theorem dL_law_689 : decode cL_law 689 = .ok (.lconst 1, 1) := by decide +kernel
theorem dL_law_690 : decode cL_law 690 = .ok (.goto 4, 3) := by decide +kernel
theorem dL_law_693 : decode cL_law 693 = .ok (.lconst 0, 1) := by decide +kernel
theorem dL_law_694 : decode cL_law 694 = .ok (.lcmp, 1) := by decide +kernel
theorem dL_law_695 : decode cL_law 695 = .ok (.ifCond .eq 5, 3) := by decide +kernel
theorem dL_law_698 : decode cL_law 698 = .ok (.iconst 0, 1) := by decide +kernel
theorem dL_law_699 : decode cL_law 699 = .ok (.ireturn, 1) := by decide +kernel
theorem dL_law_700 : decode cL_law 700 = .ok (.goto 2855, 3) := by decide +kernel
theorem dL_law_703 : decode cL_law 703 = .ok (.aload_n 1, 1) := by decide +kernel
theorem dL_law_704 : decode cL_law 704 = .ok (.aload_n 0, 1) := by decide +kernel
theorem dL_law_705 : decode cL_law 705 = .ok (.iload 5, 2) := by decide +kernel
theorem dL_law_707 : decode cL_law 707 = .ok (.iconst 1, 1) := by decide +kernel
theorem dL_law_708 : decode cL_law 708 = .ok (.iadd, 1) := by decide +kernel
theorem dL_law_709 : decode cL_law 709 = .ok (.iaload, 1) := by decide +kernel
theorem dL_law_710 : decode cL_law 710 = .ok (.aload_n 3, 1) := by decide +kernel
theorem dL_law_711 : decode cL_law 711 = .ok (.invokestatic 214, 3) := by decide +kernel
theorem dL_law_714 : decode cL_law 714 = .ok (.istore 6, 2) := by decide +kernel
theorem dL_law_716 : decode cL_law 716 = .ok (.aload_n 2, 1) := by decide +kernel
theorem dL_law_717 : decode cL_law 717 = .ok (.aload_n 0, 1) := by decide +kernel
theorem dL_law_718 : decode cL_law 718 = .ok (.iload 5, 2) := by decide +kernel
theorem dL_law_720 : decode cL_law 720 = .ok (.iconst 1, 1) := by decide +kernel
theorem dL_law_721 : decode cL_law 721 = .ok (.iadd, 1) := by decide +kernel
theorem dL_law_722 : decode cL_law 722 = .ok (.iaload, 1) := by decide +kernel
theorem dL_law_723 : decode cL_law 723 = .ok (.invokevirtual 216, 3) := by decide +kernel
theorem dL_law_726 : decode cL_law 726 = .ok (.istore 7, 2) := by decide +kernel
theorem dL_law_728 : decode cL_law 728 = .ok (.aload_n 2, 1) := by decide +kernel
theorem dL_law_729 : decode cL_law 729 = .ok (.invokevirtual 196, 3) := by decide +kernel
theorem dL_law_732 : decode cL_law 732 = .ok (.iload 6, 2) := by decide +kernel
theorem dL_law_734 : decode cL_law 734 = .ok (.if_icmp .eq 5, 3) := by decide +kernel
theorem dL_law_737 : decode cL_law 737 = .ok (.iconst 0, 1) := by decide +kernel
theorem dL_law_738 : decode cL_law 738 = .ok (.ireturn, 1) := by decide +kernel
theorem dL_law_739 : decode cL_law 739 = .ok (.iload 6, 2) := by decide +kernel
theorem dL_law_741 : decode cL_law 741 = .ok (.ifCond .ne 15, 3) := by decide +kernel
theorem dL_law_744 : decode cL_law 744 = .ok (.aload_n 3, 1) := by decide +kernel
theorem dL_law_745 : decode cL_law 745 = .ok (.iconst 0, 1) := by decide +kernel
theorem dL_law_746 : decode cL_law 746 = .ok (.laload, 1) := by decide +kernel
theorem dL_law_747 : decode cL_law 747 = .ok (.iload 7, 2) := by decide +kernel
theorem dL_law_749 : decode cL_law 749 = .ok (.i2l, 1) := by decide +kernel
theorem dL_law_750 : decode cL_law 750 = .ok (.lcmp, 1) := by decide +kernel
theorem dL_law_751 : decode cL_law 751 = .ok (.ifCond .eq 5, 3) := by decide +kernel
theorem dL_law_754 : decode cL_law 754 = .ok (.iconst 0, 1) := by decide +kernel
theorem dL_law_755 : decode cL_law 755 = .ok (.ireturn, 1) := by decide +kernel
theorem dL_law_756 : decode cL_law 756 = .ok (.goto 2799, 3) := by decide +kernel
theorem dL_law_759 : decode cL_law 759 = .ok (.aload_n 1, 1) := by decide +kernel
theorem dL_law_760 : decode cL_law 760 = .ok (.aload_n 0, 1) := by decide +kernel
theorem dL_law_761 : decode cL_law 761 = .ok (.iload 5, 2) := by decide +kernel
theorem dL_law_763 : decode cL_law 763 = .ok (.iconst 1, 1) := by decide +kernel
theorem dL_law_764 : decode cL_law 764 = .ok (.iadd, 1) := by decide +kernel
theorem dL_law_765 : decode cL_law 765 = .ok (.iaload, 1) := by decide +kernel
theorem dL_law_766 : decode cL_law 766 = .ok (.aload_n 3, 1) := by decide +kernel
theorem dL_law_767 : decode cL_law 767 = .ok (.invokestatic 217, 3) := by decide +kernel
theorem dL_law_770 : decode cL_law 770 = .ok (.istore 6, 2) := by decide +kernel
theorem dL_law_772 : decode cL_law 772 = .ok (.aload_n 2, 1) := by decide +kernel
theorem dL_law_773 : decode cL_law 773 = .ok (.aload_n 0, 1) := by decide +kernel
theorem dL_law_774 : decode cL_law 774 = .ok (.iload 5, 2) := by decide +kernel
theorem dL_law_776 : decode cL_law 776 = .ok (.iconst 1, 1) := by decide +kernel
theorem dL_law_777 : decode cL_law 777 = .ok (.iadd, 1) := by decide +kernel
theorem dL_law_778 : decode cL_law 778 = .ok (.iaload, 1) := by decide +kernel
theorem dL_law_779 : decode cL_law 779 = .ok (.invokevirtual 219, 3) := by decide +kernel
theorem dL_law_782 : decode cL_law 782 = .ok (.istore 7, 2) := by decide +kernel
theorem dL_law_784 : decode cL_law 784 = .ok (.aload_n 2, 1) := by decide +kernel
theorem dL_law_785 : decode cL_law 785 = .ok (.invokevirtual 196, 3) := by decide +kernel
theorem dL_law_788 : decode cL_law 788 = .ok (.iload 6, 2) := by decide +kernel
theorem dL_law_790 : decode cL_law 790 = .ok (.if_icmp .eq 5, 3) := by decide +kernel
theorem dL_law_793 : decode cL_law 793 = .ok (.iconst 0, 1) := by decide +kernel
theorem dL_law_794 : decode cL_law 794 = .ok (.ireturn, 1) := by decide +kernel
theorem dL_law_795 : decode cL_law 795 = .ok (.iload 6, 2) := by decide +kernel
theorem dL_law_797 : decode cL_law 797 = .ok (.ifCond .ne 15, 3) := by decide +kernel
theorem dL_law_800 : decode cL_law 800 = .ok (.aload_n 3, 1) := by decide +kernel
theorem dL_law_801 : decode cL_law 801 = .ok (.iconst 0, 1) := by decide +kernel
theorem dL_law_802 : decode cL_law 802 = .ok (.laload, 1) := by decide +kernel
theorem dL_law_803 : decode cL_law 803 = .ok (.iload 7, 2) := by decide +kernel
theorem dL_law_805 : decode cL_law 805 = .ok (.i2l, 1) := by decide +kernel
theorem dL_law_806 : decode cL_law 806 = .ok (.lcmp, 1) := by decide +kernel
theorem dL_law_807 : decode cL_law 807 = .ok (.ifCond .eq 5, 3) := by decide +kernel
theorem dL_law_810 : decode cL_law 810 = .ok (.iconst 0, 1) := by decide +kernel
theorem dL_law_811 : decode cL_law 811 = .ok (.ireturn, 1) := by decide +kernel
theorem dL_law_812 : decode cL_law 812 = .ok (.goto 2743, 3) := by decide +kernel
theorem dL_law_815 : decode cL_law 815 = .ok (.aload_n 1, 1) := by decide +kernel
theorem dL_law_816 : decode cL_law 816 = .ok (.invokevirtual 220, 3) := by decide +kernel
theorem dL_law_819 : decode cL_law 819 = .ok (.aload_n 2, 1) := by decide +kernel
theorem dL_law_820 : decode cL_law 820 = .ok (.invokevirtual 223, 3) := by decide +kernel
theorem dL_law_823 : decode cL_law 823 = .ok (.if_icmp .eq 2732, 3) := by decide +kernel
theorem dL_law_826 : decode cL_law 826 = .ok (.iconst 0, 1) := by decide +kernel
theorem dL_law_827 : decode cL_law 827 = .ok (.ireturn, 1) := by decide +kernel
theorem dL_law_828 : decode cL_law 828 = .ok (.aload_n 1, 1) := by decide +kernel
theorem dL_law_829 : decode cL_law 829 = .ok (.aload_n 0, 1) := by decide +kernel
theorem dL_law_830 : decode cL_law 830 = .ok (.iload 5, 2) := by decide +kernel
theorem dL_law_832 : decode cL_law 832 = .ok (.iconst 1, 1) := by decide +kernel
theorem dL_law_833 : decode cL_law 833 = .ok (.iadd, 1) := by decide +kernel
theorem dL_law_834 : decode cL_law 834 = .ok (.iaload, 1) := by decide +kernel
theorem dL_law_835 : decode cL_law 835 = .ok (.aload_n 0, 1) := by decide +kernel
theorem dL_law_836 : decode cL_law 836 = .ok (.iload 5, 2) := by decide +kernel
theorem dL_law_838 : decode cL_law 838 = .ok (.iconst 2, 1) := by decide +kernel
theorem dL_law_839 : decode cL_law 839 = .ok (.iadd, 1) := by decide +kernel
theorem dL_law_840 : decode cL_law 840 = .ok (.iaload, 1) := by decide +kernel
theorem dL_law_841 : decode cL_law 841 = .ok (.aload_n 3, 1) := by decide +kernel
theorem dL_law_842 : decode cL_law 842 = .ok (.invokestatic 224, 3) := by decide +kernel
theorem dL_law_845 : decode cL_law 845 = .ok (.istore 6, 2) := by decide +kernel
theorem dL_law_847 : decode cL_law 847 = .ok (.aload_n 2, 1) := by decide +kernel
theorem dL_law_848 : decode cL_law 848 = .ok (.aload_n 0, 1) := by decide +kernel
theorem dL_law_849 : decode cL_law 849 = .ok (.iload 5, 2) := by decide +kernel
theorem dL_law_851 : decode cL_law 851 = .ok (.iconst 1, 1) := by decide +kernel
theorem dL_law_852 : decode cL_law 852 = .ok (.iadd, 1) := by decide +kernel
theorem dL_law_853 : decode cL_law 853 = .ok (.iaload, 1) := by decide +kernel
theorem dL_law_854 : decode cL_law 854 = .ok (.aload_n 0, 1) := by decide +kernel
theorem dL_law_855 : decode cL_law 855 = .ok (.iload 5, 2) := by decide +kernel
theorem dL_law_857 : decode cL_law 857 = .ok (.iconst 2, 1) := by decide +kernel
theorem dL_law_858 : decode cL_law 858 = .ok (.iadd, 1) := by decide +kernel
theorem dL_law_859 : decode cL_law 859 = .ok (.iaload, 1) := by decide +kernel
theorem dL_law_860 : decode cL_law 860 = .ok (.invokevirtual 226, 3) := by decide +kernel
theorem dL_law_863 : decode cL_law 863 = .ok (.istore 7, 2) := by decide +kernel
theorem dL_law_865 : decode cL_law 865 = .ok (.aload_n 2, 1) := by decide +kernel
theorem dL_law_866 : decode cL_law 866 = .ok (.invokevirtual 196, 3) := by decide +kernel
theorem dL_law_869 : decode cL_law 869 = .ok (.iload 6, 2) := by decide +kernel
theorem dL_law_871 : decode cL_law 871 = .ok (.if_icmp .eq 5, 3) := by decide +kernel
theorem dL_law_874 : decode cL_law 874 = .ok (.iconst 0, 1) := by decide +kernel
theorem dL_law_875 : decode cL_law 875 = .ok (.ireturn, 1) := by decide +kernel
theorem dL_law_876 : decode cL_law 876 = .ok (.iload 6, 2) := by decide +kernel
theorem dL_law_878 : decode cL_law 878 = .ok (.ifCond .ne 15, 3) := by decide +kernel
theorem dL_law_881 : decode cL_law 881 = .ok (.aload_n 3, 1) := by decide +kernel
theorem dL_law_882 : decode cL_law 882 = .ok (.iconst 0, 1) := by decide +kernel
theorem dL_law_883 : decode cL_law 883 = .ok (.laload, 1) := by decide +kernel
theorem dL_law_884 : decode cL_law 884 = .ok (.iload 7, 2) := by decide +kernel
theorem dL_law_886 : decode cL_law 886 = .ok (.i2l, 1) := by decide +kernel
theorem dL_law_887 : decode cL_law 887 = .ok (.lcmp, 1) := by decide +kernel
theorem dL_law_888 : decode cL_law 888 = .ok (.ifCond .eq 5, 3) := by decide +kernel
theorem dL_law_891 : decode cL_law 891 = .ok (.iconst 0, 1) := by decide +kernel
theorem dL_law_892 : decode cL_law 892 = .ok (.ireturn, 1) := by decide +kernel
theorem dL_law_893 : decode cL_law 893 = .ok (.goto 2662, 3) := by decide +kernel
theorem dL_law_896 : decode cL_law 896 = .ok (.aload_n 1, 1) := by decide +kernel
theorem dL_law_897 : decode cL_law 897 = .ok (.aload_n 0, 1) := by decide +kernel
theorem dL_law_898 : decode cL_law 898 = .ok (.iload 5, 2) := by decide +kernel
theorem dL_law_900 : decode cL_law 900 = .ok (.iconst 1, 1) := by decide +kernel
theorem dL_law_901 : decode cL_law 901 = .ok (.iadd, 1) := by decide +kernel
theorem dL_law_902 : decode cL_law 902 = .ok (.iaload, 1) := by decide +kernel
theorem dL_law_903 : decode cL_law 903 = .ok (.aload_n 3, 1) := by decide +kernel
theorem dL_law_904 : decode cL_law 904 = .ok (.invokestatic 227, 3) := by decide +kernel
theorem dL_law_907 : decode cL_law 907 = .ok (.istore 6, 2) := by decide +kernel
theorem dL_law_909 : decode cL_law 909 = .ok (.aload_n 2, 1) := by decide +kernel
theorem dL_law_910 : decode cL_law 910 = .ok (.aload_n 0, 1) := by decide +kernel
theorem dL_law_911 : decode cL_law 911 = .ok (.iload 5, 2) := by decide +kernel
theorem dL_law_913 : decode cL_law 913 = .ok (.iconst 1, 1) := by decide +kernel
theorem dL_law_914 : decode cL_law 914 = .ok (.iadd, 1) := by decide +kernel
theorem dL_law_915 : decode cL_law 915 = .ok (.iaload, 1) := by decide +kernel
theorem dL_law_916 : decode cL_law 916 = .ok (.invokevirtual 229, 3) := by decide +kernel
theorem dL_law_919 : decode cL_law 919 = .ok (.istore 7, 2) := by decide +kernel
theorem dL_law_921 : decode cL_law 921 = .ok (.aload_n 2, 1) := by decide +kernel
theorem dL_law_922 : decode cL_law 922 = .ok (.invokevirtual 196, 3) := by decide +kernel
theorem dL_law_925 : decode cL_law 925 = .ok (.iload 6, 2) := by decide +kernel
theorem dL_law_927 : decode cL_law 927 = .ok (.if_icmp .eq 5, 3) := by decide +kernel
theorem dL_law_930 : decode cL_law 930 = .ok (.iconst 0, 1) := by decide +kernel
theorem dL_law_931 : decode cL_law 931 = .ok (.ireturn, 1) := by decide +kernel
theorem dL_law_932 : decode cL_law 932 = .ok (.iload 6, 2) := by decide +kernel
theorem dL_law_934 : decode cL_law 934 = .ok (.ifCond .ne 15, 3) := by decide +kernel
theorem dL_law_937 : decode cL_law 937 = .ok (.aload_n 3, 1) := by decide +kernel
theorem dL_law_938 : decode cL_law 938 = .ok (.iconst 0, 1) := by decide +kernel
theorem dL_law_939 : decode cL_law 939 = .ok (.laload, 1) := by decide +kernel
theorem dL_law_940 : decode cL_law 940 = .ok (.iload 7, 2) := by decide +kernel
theorem dL_law_942 : decode cL_law 942 = .ok (.i2l, 1) := by decide +kernel
theorem dL_law_943 : decode cL_law 943 = .ok (.lcmp, 1) := by decide +kernel
theorem dL_law_944 : decode cL_law 944 = .ok (.ifCond .eq 5, 3) := by decide +kernel
theorem dL_law_947 : decode cL_law 947 = .ok (.iconst 0, 1) := by decide +kernel
theorem dL_law_948 : decode cL_law 948 = .ok (.ireturn, 1) := by decide +kernel
theorem dL_law_949 : decode cL_law 949 = .ok (.goto 2606, 3) := by decide +kernel
theorem dL_law_952 : decode cL_law 952 = .ok (.aload_n 1, 1) := by decide +kernel
theorem dL_law_953 : decode cL_law 953 = .ok (.aload_n 0, 1) := by decide +kernel
theorem dL_law_954 : decode cL_law 954 = .ok (.iload 5, 2) := by decide +kernel
theorem dL_law_956 : decode cL_law 956 = .ok (.iconst 1, 1) := by decide +kernel
theorem dL_law_957 : decode cL_law 957 = .ok (.iadd, 1) := by decide +kernel
theorem dL_law_958 : decode cL_law 958 = .ok (.iaload, 1) := by decide +kernel
theorem dL_law_959 : decode cL_law 959 = .ok (.aload_n 3, 1) := by decide +kernel
theorem dL_law_960 : decode cL_law 960 = .ok (.invokestatic 230, 3) := by decide +kernel
theorem dL_law_963 : decode cL_law 963 = .ok (.istore 6, 2) := by decide +kernel
theorem dL_law_965 : decode cL_law 965 = .ok (.aload_n 2, 1) := by decide +kernel
theorem dL_law_966 : decode cL_law 966 = .ok (.aload_n 0, 1) := by decide +kernel
theorem dL_law_967 : decode cL_law 967 = .ok (.iload 5, 2) := by decide +kernel
theorem dL_law_969 : decode cL_law 969 = .ok (.iconst 1, 1) := by decide +kernel
theorem dL_law_970 : decode cL_law 970 = .ok (.iadd, 1) := by decide +kernel
theorem dL_law_971 : decode cL_law 971 = .ok (.iaload, 1) := by decide +kernel
theorem dL_law_972 : decode cL_law 972 = .ok (.invokevirtual 232, 3) := by decide +kernel
theorem dL_law_975 : decode cL_law 975 = .ok (.istore 7, 2) := by decide +kernel
theorem dL_law_977 : decode cL_law 977 = .ok (.aload_n 2, 1) := by decide +kernel
theorem dL_law_978 : decode cL_law 978 = .ok (.invokevirtual 196, 3) := by decide +kernel
theorem dL_law_981 : decode cL_law 981 = .ok (.iload 6, 2) := by decide +kernel
theorem dL_law_983 : decode cL_law 983 = .ok (.if_icmp .eq 5, 3) := by decide +kernel
theorem dL_law_986 : decode cL_law 986 = .ok (.iconst 0, 1) := by decide +kernel
theorem dL_law_987 : decode cL_law 987 = .ok (.ireturn, 1) := by decide +kernel
theorem dL_law_988 : decode cL_law 988 = .ok (.iload 6, 2) := by decide +kernel
theorem dL_law_990 : decode cL_law 990 = .ok (.ifCond .ne 15, 3) := by decide +kernel
theorem dL_law_993 : decode cL_law 993 = .ok (.aload_n 3, 1) := by decide +kernel
theorem dL_law_994 : decode cL_law 994 = .ok (.iconst 0, 1) := by decide +kernel
theorem dL_law_995 : decode cL_law 995 = .ok (.laload, 1) := by decide +kernel
theorem dL_law_996 : decode cL_law 996 = .ok (.iload 7, 2) := by decide +kernel
theorem dL_law_998 : decode cL_law 998 = .ok (.i2l, 1) := by decide +kernel
theorem dL_law_999 : decode cL_law 999 = .ok (.lcmp, 1) := by decide +kernel
theorem dL_law_1000 : decode cL_law 1000 = .ok (.ifCond .eq 5, 3) := by decide +kernel
theorem dL_law_1003 : decode cL_law 1003 = .ok (.iconst 0, 1) := by decide +kernel
theorem dL_law_1004 : decode cL_law 1004 = .ok (.ireturn, 1) := by decide +kernel
theorem dL_law_1005 : decode cL_law 1005 = .ok (.goto 2550, 3) := by decide +kernel
theorem dL_law_1008 : decode cL_law 1008 = .ok (.aload_n 1, 1) := by decide +kernel
theorem dL_law_1009 : decode cL_law 1009 = .ok (.aload_n 0, 1) := by decide +kernel
theorem dL_law_1010 : decode cL_law 1010 = .ok (.iload 5, 2) := by decide +kernel
theorem dL_law_1012 : decode cL_law 1012 = .ok (.iconst 1, 1) := by decide +kernel
theorem dL_law_1013 : decode cL_law 1013 = .ok (.iadd, 1) := by decide +kernel
theorem dL_law_1014 : decode cL_law 1014 = .ok (.iaload, 1) := by decide +kernel
theorem dL_law_1015 : decode cL_law 1015 = .ok (.aload_n 3, 1) := by decide +kernel
theorem dL_law_1016 : decode cL_law 1016 = .ok (.invokestatic 233, 3) := by decide +kernel
theorem dL_law_1019 : decode cL_law 1019 = .ok (.istore 6, 2) := by decide +kernel
theorem dL_law_1021 : decode cL_law 1021 = .ok (.aload_n 2, 1) := by decide +kernel
theorem dL_law_1022 : decode cL_law 1022 = .ok (.aload_n 0, 1) := by decide +kernel
theorem dL_law_1023 : decode cL_law 1023 = .ok (.iload 5, 2) := by decide +kernel
theorem dL_law_1025 : decode cL_law 1025 = .ok (.iconst 1, 1) := by decide +kernel
theorem dL_law_1026 : decode cL_law 1026 = .ok (.iadd, 1) := by decide +kernel
theorem dL_law_1027 : decode cL_law 1027 = .ok (.iaload, 1) := by decide +kernel
theorem dL_law_1028 : decode cL_law 1028 = .ok (.invokevirtual 235, 3) := by decide +kernel
theorem dL_law_1031 : decode cL_law 1031 = .ok (.istore 7, 2) := by decide +kernel
theorem dL_law_1033 : decode cL_law 1033 = .ok (.aload_n 2, 1) := by decide +kernel
theorem dL_law_1034 : decode cL_law 1034 = .ok (.invokevirtual 196, 3) := by decide +kernel
theorem dL_law_1037 : decode cL_law 1037 = .ok (.iload 6, 2) := by decide +kernel
theorem dL_law_1039 : decode cL_law 1039 = .ok (.if_icmp .eq 5, 3) := by decide +kernel
theorem dL_law_1042 : decode cL_law 1042 = .ok (.iconst 0, 1) := by decide +kernel
theorem dL_law_1043 : decode cL_law 1043 = .ok (.ireturn, 1) := by decide +kernel
theorem dL_law_1044 : decode cL_law 1044 = .ok (.iload 6, 2) := by decide +kernel
theorem dL_law_1046 : decode cL_law 1046 = .ok (.ifCond .ne 22, 3) := by decide +kernel
theorem dL_law_1049 : decode cL_law 1049 = .ok (.aload_n 3, 1) := by decide +kernel
theorem dL_law_1050 : decode cL_law 1050 = .ok (.iconst 0, 1) := by decide +kernel
theorem dL_law_1051 : decode cL_law 1051 = .ok (.laload, 1) := by decide +kernel
theorem dL_law_1052 : decode cL_law 1052 = .ok (.iload 7, 2) := by decide +kernel
theorem dL_law_1054 : decode cL_law 1054 = .ok (.ifCond .eq 7, 3) := by decide +kernel
theorem dL_law_1057 : decode cL_law 1057 = .ok (.lconst 1, 1) := by decide +kernel
theorem dL_law_1058 : decode cL_law 1058 = .ok (.goto 4, 3) := by decide +kernel
theorem dL_law_1061 : decode cL_law 1061 = .ok (.lconst 0, 1) := by decide +kernel
theorem dL_law_1062 : decode cL_law 1062 = .ok (.lcmp, 1) := by decide +kernel
theorem dL_law_1063 : decode cL_law 1063 = .ok (.ifCond .eq 5, 3) := by decide +kernel
theorem dL_law_1066 : decode cL_law 1066 = .ok (.iconst 0, 1) := by decide +kernel
theorem dL_law_1067 : decode cL_law 1067 = .ok (.ireturn, 1) := by decide +kernel
theorem dL_law_1068 : decode cL_law 1068 = .ok (.goto 2487, 3) := by decide +kernel
theorem dL_law_1071 : decode cL_law 1071 = .ok (.aload_n 1, 1) := by decide +kernel
theorem dL_law_1072 : decode cL_law 1072 = .ok (.aload_n 0, 1) := by decide +kernel
theorem dL_law_1073 : decode cL_law 1073 = .ok (.iload 5, 2) := by decide +kernel
theorem dL_law_1075 : decode cL_law 1075 = .ok (.iconst 1, 1) := by decide +kernel
theorem dL_law_1076 : decode cL_law 1076 = .ok (.iadd, 1) := by decide +kernel
theorem dL_law_1077 : decode cL_law 1077 = .ok (.iaload, 1) := by decide +kernel
theorem dL_law_1078 : decode cL_law 1078 = .ok (.aload_n 3, 1) := by decide +kernel
theorem dL_law_1079 : decode cL_law 1079 = .ok (.invokestatic 236, 3) := by decide +kernel
theorem dL_law_1082 : decode cL_law 1082 = .ok (.istore 6, 2) := by decide +kernel
theorem dL_law_1084 : decode cL_law 1084 = .ok (.aload_n 2, 1) := by decide +kernel
theorem dL_law_1085 : decode cL_law 1085 = .ok (.aload_n 0, 1) := by decide +kernel
theorem dL_law_1086 : decode cL_law 1086 = .ok (.iload 5, 2) := by decide +kernel
theorem dL_law_1088 : decode cL_law 1088 = .ok (.iconst 1, 1) := by decide +kernel
theorem dL_law_1089 : decode cL_law 1089 = .ok (.iadd, 1) := by decide +kernel
theorem dL_law_1090 : decode cL_law 1090 = .ok (.iaload, 1) := by decide +kernel
theorem dL_law_1091 : decode cL_law 1091 = .ok (.invokevirtual 238, 3) := by decide +kernel
theorem dL_law_1094 : decode cL_law 1094 = .ok (.istore 7, 2) := by decide +kernel
theorem dL_law_1096 : decode cL_law 1096 = .ok (.aload_n 2, 1) := by decide +kernel
theorem dL_law_1097 : decode cL_law 1097 = .ok (.invokevirtual 196, 3) := by decide +kernel
theorem dL_law_1100 : decode cL_law 1100 = .ok (.iload 6, 2) := by decide +kernel
theorem dL_law_1102 : decode cL_law 1102 = .ok (.if_icmp .eq 5, 3) := by decide +kernel
theorem dL_law_1105 : decode cL_law 1105 = .ok (.iconst 0, 1) := by decide +kernel
theorem dL_law_1106 : decode cL_law 1106 = .ok (.ireturn, 1) := by decide +kernel
theorem dL_law_1107 : decode cL_law 1107 = .ok (.iload 6, 2) := by decide +kernel
theorem dL_law_1109 : decode cL_law 1109 = .ok (.ifCond .ne 22, 3) := by decide +kernel
theorem dL_law_1112 : decode cL_law 1112 = .ok (.aload_n 3, 1) := by decide +kernel
theorem dL_law_1113 : decode cL_law 1113 = .ok (.iconst 0, 1) := by decide +kernel
theorem dL_law_1114 : decode cL_law 1114 = .ok (.laload, 1) := by decide +kernel
theorem dL_law_1115 : decode cL_law 1115 = .ok (.iload 7, 2) := by decide +kernel
theorem dL_law_1117 : decode cL_law 1117 = .ok (.ifCond .eq 7, 3) := by decide +kernel
theorem dL_law_1120 : decode cL_law 1120 = .ok (.lconst 1, 1) := by decide +kernel
theorem dL_law_1121 : decode cL_law 1121 = .ok (.goto 4, 3) := by decide +kernel
theorem dL_law_1124 : decode cL_law 1124 = .ok (.lconst 0, 1) := by decide +kernel
theorem dL_law_1125 : decode cL_law 1125 = .ok (.lcmp, 1) := by decide +kernel
theorem dL_law_1126 : decode cL_law 1126 = .ok (.ifCond .eq 5, 3) := by decide +kernel
theorem dL_law_1129 : decode cL_law 1129 = .ok (.iconst 0, 1) := by decide +kernel
theorem dL_law_1130 : decode cL_law 1130 = .ok (.ireturn, 1) := by decide +kernel
theorem dL_law_1131 : decode cL_law 1131 = .ok (.goto 2424, 3) := by decide +kernel
theorem dL_law_1134 : decode cL_law 1134 = .ok (.aload_n 1, 1) := by decide +kernel
theorem dL_law_1135 : decode cL_law 1135 = .ok (.aload_n 0, 1) := by decide +kernel
theorem dL_law_1136 : decode cL_law 1136 = .ok (.iload 5, 2) := by decide +kernel
theorem dL_law_1138 : decode cL_law 1138 = .ok (.iconst 1, 1) := by decide +kernel
theorem dL_law_1139 : decode cL_law 1139 = .ok (.iadd, 1) := by decide +kernel
theorem dL_law_1140 : decode cL_law 1140 = .ok (.iaload, 1) := by decide +kernel
theorem dL_law_1141 : decode cL_law 1141 = .ok (.aload_n 3, 1) := by decide +kernel
theorem dL_law_1142 : decode cL_law 1142 = .ok (.invokestatic 239, 3) := by decide +kernel
theorem dL_law_1145 : decode cL_law 1145 = .ok (.istore 6, 2) := by decide +kernel
theorem dL_law_1147 : decode cL_law 1147 = .ok (.aload_n 2, 1) := by decide +kernel
theorem dL_law_1148 : decode cL_law 1148 = .ok (.aload_n 0, 1) := by decide +kernel
theorem dL_law_1149 : decode cL_law 1149 = .ok (.iload 5, 2) := by decide +kernel
theorem dL_law_1151 : decode cL_law 1151 = .ok (.iconst 1, 1) := by decide +kernel
theorem dL_law_1152 : decode cL_law 1152 = .ok (.iadd, 1) := by decide +kernel
theorem dL_law_1153 : decode cL_law 1153 = .ok (.iaload, 1) := by decide +kernel
theorem dL_law_1154 : decode cL_law 1154 = .ok (.invokevirtual 241, 3) := by decide +kernel
theorem dL_law_1157 : decode cL_law 1157 = .ok (.istore 7, 2) := by decide +kernel
theorem dL_law_1159 : decode cL_law 1159 = .ok (.aload_n 2, 1) := by decide +kernel
theorem dL_law_1160 : decode cL_law 1160 = .ok (.invokevirtual 196, 3) := by decide +kernel
theorem dL_law_1163 : decode cL_law 1163 = .ok (.iload 6, 2) := by decide +kernel
theorem dL_law_1165 : decode cL_law 1165 = .ok (.if_icmp .eq 5, 3) := by decide +kernel
theorem dL_law_1168 : decode cL_law 1168 = .ok (.iconst 0, 1) := by decide +kernel
theorem dL_law_1169 : decode cL_law 1169 = .ok (.ireturn, 1) := by decide +kernel
theorem dL_law_1170 : decode cL_law 1170 = .ok (.iload 6, 2) := by decide +kernel
theorem dL_law_1172 : decode cL_law 1172 = .ok (.ifCond .ne 22, 3) := by decide +kernel
theorem dL_law_1175 : decode cL_law 1175 = .ok (.aload_n 3, 1) := by decide +kernel
theorem dL_law_1176 : decode cL_law 1176 = .ok (.iconst 0, 1) := by decide +kernel
theorem dL_law_1177 : decode cL_law 1177 = .ok (.laload, 1) := by decide +kernel
theorem dL_law_1178 : decode cL_law 1178 = .ok (.iload 7, 2) := by decide +kernel
theorem dL_law_1180 : decode cL_law 1180 = .ok (.ifCond .eq 7, 3) := by decide +kernel
theorem dL_law_1183 : decode cL_law 1183 = .ok (.lconst 1, 1) := by decide +kernel
theorem dL_law_1184 : decode cL_law 1184 = .ok (.goto 4, 3) := by decide +kernel
theorem dL_law_1187 : decode cL_law 1187 = .ok (.lconst 0, 1) := by decide +kernel
theorem dL_law_1188 : decode cL_law 1188 = .ok (.lcmp, 1) := by decide +kernel
theorem dL_law_1189 : decode cL_law 1189 = .ok (.ifCond .eq 5, 3) := by decide +kernel
theorem dL_law_1192 : decode cL_law 1192 = .ok (.iconst 0, 1) := by decide +kernel
theorem dL_law_1193 : decode cL_law 1193 = .ok (.ireturn, 1) := by decide +kernel
theorem dL_law_1194 : decode cL_law 1194 = .ok (.goto 2361, 3) := by decide +kernel
theorem dL_law_1197 : decode cL_law 1197 = .ok (.aload_n 1, 1) := by decide +kernel
theorem dL_law_1198 : decode cL_law 1198 = .ok (.aload_n 0, 1) := by decide +kernel
theorem dL_law_1199 : decode cL_law 1199 = .ok (.iload 5, 2) := by decide +kernel
theorem dL_law_1201 : decode cL_law 1201 = .ok (.iconst 1, 1) := by decide +kernel
theorem dL_law_1202 : decode cL_law 1202 = .ok (.iadd, 1) := by decide +kernel
theorem dL_law_1203 : decode cL_law 1203 = .ok (.iaload, 1) := by decide +kernel
theorem dL_law_1204 : decode cL_law 1204 = .ok (.aload_n 3, 1) := by decide +kernel
theorem dL_law_1205 : decode cL_law 1205 = .ok (.invokestatic 242, 3) := by decide +kernel
theorem dL_law_1208 : decode cL_law 1208 = .ok (.istore 6, 2) := by decide +kernel
theorem dL_law_1210 : decode cL_law 1210 = .ok (.aload_n 2, 1) := by decide +kernel
theorem dL_law_1211 : decode cL_law 1211 = .ok (.aload_n 0, 1) := by decide +kernel
theorem dL_law_1212 : decode cL_law 1212 = .ok (.iload 5, 2) := by decide +kernel
theorem dL_law_1214 : decode cL_law 1214 = .ok (.iconst 1, 1) := by decide +kernel
theorem dL_law_1215 : decode cL_law 1215 = .ok (.iadd, 1) := by decide +kernel
theorem dL_law_1216 : decode cL_law 1216 = .ok (.iaload, 1) := by decide +kernel
theorem dL_law_1217 : decode cL_law 1217 = .ok (.invokevirtual 244, 3) := by decide +kernel
theorem dL_law_1220 : decode cL_law 1220 = .ok (.istore 7, 2) := by decide +kernel
theorem dL_law_1222 : decode cL_law 1222 = .ok (.aload_n 2, 1) := by decide +kernel
theorem dL_law_1223 : decode cL_law 1223 = .ok (.invokevirtual 196, 3) := by decide +kernel
theorem dL_law_1226 : decode cL_law 1226 = .ok (.iload 6, 2) := by decide +kernel
theorem dL_law_1228 : decode cL_law 1228 = .ok (.if_icmp .eq 5, 3) := by decide +kernel
theorem dL_law_1231 : decode cL_law 1231 = .ok (.iconst 0, 1) := by decide +kernel
theorem dL_law_1232 : decode cL_law 1232 = .ok (.ireturn, 1) := by decide +kernel
theorem dL_law_1233 : decode cL_law 1233 = .ok (.iload 6, 2) := by decide +kernel
theorem dL_law_1235 : decode cL_law 1235 = .ok (.ifCond .ne 22, 3) := by decide +kernel
theorem dL_law_1238 : decode cL_law 1238 = .ok (.aload_n 3, 1) := by decide +kernel
theorem dL_law_1239 : decode cL_law 1239 = .ok (.iconst 0, 1) := by decide +kernel
theorem dL_law_1240 : decode cL_law 1240 = .ok (.laload, 1) := by decide +kernel
theorem dL_law_1241 : decode cL_law 1241 = .ok (.iload 7, 2) := by decide +kernel
theorem dL_law_1243 : decode cL_law 1243 = .ok (.ifCond .eq 7, 3) := by decide +kernel
theorem dL_law_1246 : decode cL_law 1246 = .ok (.lconst 1, 1) := by decide +kernel
theorem dL_law_1247 : decode cL_law 1247 = .ok (.goto 4, 3) := by decide +kernel
theorem dL_law_1250 : decode cL_law 1250 = .ok (.lconst 0, 1) := by decide +kernel
theorem dL_law_1251 : decode cL_law 1251 = .ok (.lcmp, 1) := by decide +kernel
theorem dL_law_1252 : decode cL_law 1252 = .ok (.ifCond .eq 5, 3) := by decide +kernel
theorem dL_law_1255 : decode cL_law 1255 = .ok (.iconst 0, 1) := by decide +kernel
theorem dL_law_1256 : decode cL_law 1256 = .ok (.ireturn, 1) := by decide +kernel
theorem dL_law_1257 : decode cL_law 1257 = .ok (.goto 2298, 3) := by decide +kernel
theorem dL_law_1260 : decode cL_law 1260 = .ok (.aload_n 1, 1) := by decide +kernel
theorem dL_law_1261 : decode cL_law 1261 = .ok (.aload_n 0, 1) := by decide +kernel
theorem dL_law_1262 : decode cL_law 1262 = .ok (.iload 5, 2) := by decide +kernel
theorem dL_law_1264 : decode cL_law 1264 = .ok (.iconst 1, 1) := by decide +kernel
theorem dL_law_1265 : decode cL_law 1265 = .ok (.iadd, 1) := by decide +kernel
theorem dL_law_1266 : decode cL_law 1266 = .ok (.iaload, 1) := by decide +kernel
theorem dL_law_1267 : decode cL_law 1267 = .ok (.aload_n 3, 1) := by decide +kernel
theorem dL_law_1268 : decode cL_law 1268 = .ok (.invokestatic 245, 3) := by decide +kernel
theorem dL_law_1271 : decode cL_law 1271 = .ok (.istore 6, 2) := by decide +kernel
theorem dL_law_1273 : decode cL_law 1273 = .ok (.aload_n 2, 1) := by decide +kernel
theorem dL_law_1274 : decode cL_law 1274 = .ok (.aload_n 0, 1) := by decide +kernel
theorem dL_law_1275 : decode cL_law 1275 = .ok (.iload 5, 2) := by decide +kernel
theorem dL_law_1277 : decode cL_law 1277 = .ok (.iconst 1, 1) := by decide +kernel
theorem dL_law_1278 : decode cL_law 1278 = .ok (.iadd, 1) := by decide +kernel
theorem dL_law_1279 : decode cL_law 1279 = .ok (.iaload, 1) := by decide +kernel
theorem dL_law_1280 : decode cL_law 1280 = .ok (.invokevirtual 247, 3) := by decide +kernel
theorem dL_law_1283 : decode cL_law 1283 = .ok (.istore 7, 2) := by decide +kernel
theorem dL_law_1285 : decode cL_law 1285 = .ok (.aload_n 2, 1) := by decide +kernel
theorem dL_law_1286 : decode cL_law 1286 = .ok (.invokevirtual 196, 3) := by decide +kernel
theorem dL_law_1289 : decode cL_law 1289 = .ok (.iload 6, 2) := by decide +kernel
theorem dL_law_1291 : decode cL_law 1291 = .ok (.if_icmp .eq 5, 3) := by decide +kernel
theorem dL_law_1294 : decode cL_law 1294 = .ok (.iconst 0, 1) := by decide +kernel
theorem dL_law_1295 : decode cL_law 1295 = .ok (.ireturn, 1) := by decide +kernel
theorem dL_law_1296 : decode cL_law 1296 = .ok (.iload 6, 2) := by decide +kernel
theorem dL_law_1298 : decode cL_law 1298 = .ok (.ifCond .ne 15, 3) := by decide +kernel
theorem dL_law_1301 : decode cL_law 1301 = .ok (.aload_n 3, 1) := by decide +kernel
theorem dL_law_1302 : decode cL_law 1302 = .ok (.iconst 0, 1) := by decide +kernel
theorem dL_law_1303 : decode cL_law 1303 = .ok (.laload, 1) := by decide +kernel
theorem dL_law_1304 : decode cL_law 1304 = .ok (.iload 7, 2) := by decide +kernel
theorem dL_law_1306 : decode cL_law 1306 = .ok (.i2l, 1) := by decide +kernel
theorem dL_law_1307 : decode cL_law 1307 = .ok (.lcmp, 1) := by decide +kernel
theorem dL_law_1308 : decode cL_law 1308 = .ok (.ifCond .eq 5, 3) := by decide +kernel
theorem dL_law_1311 : decode cL_law 1311 = .ok (.iconst 0, 1) := by decide +kernel
theorem dL_law_1312 : decode cL_law 1312 = .ok (.ireturn, 1) := by decide +kernel
theorem dL_law_1313 : decode cL_law 1313 = .ok (.goto 2242, 3) := by decide +kernel
theorem dL_law_1316 : decode cL_law 1316 = .ok (.aload_n 1, 1) := by decide +kernel
theorem dL_law_1317 : decode cL_law 1317 = .ok (.aload_n 0, 1) := by decide +kernel
theorem dL_law_1318 : decode cL_law 1318 = .ok (.iload 5, 2) := by decide +kernel
theorem dL_law_1320 : decode cL_law 1320 = .ok (.iconst 1, 1) := by decide +kernel
theorem dL_law_1321 : decode cL_law 1321 = .ok (.iadd, 1) := by decide +kernel
theorem dL_law_1322 : decode cL_law 1322 = .ok (.iaload, 1) := by decide +kernel
theorem dL_law_1323 : decode cL_law 1323 = .ok (.aload_n 3, 1) := by decide +kernel
theorem dL_law_1324 : decode cL_law 1324 = .ok (.invokestatic 248, 3) := by decide +kernel
theorem dL_law_1327 : decode cL_law 1327 = .ok (.istore 6, 2) := by decide +kernel
theorem dL_law_1329 : decode cL_law 1329 = .ok (.aload_n 2, 1) := by decide +kernel
theorem dL_law_1330 : decode cL_law 1330 = .ok (.aload_n 0, 1) := by decide +kernel
theorem dL_law_1331 : decode cL_law 1331 = .ok (.iload 5, 2) := by decide +kernel
theorem dL_law_1333 : decode cL_law 1333 = .ok (.iconst 1, 1) := by decide +kernel
theorem dL_law_1334 : decode cL_law 1334 = .ok (.iadd, 1) := by decide +kernel
theorem dL_law_1335 : decode cL_law 1335 = .ok (.iaload, 1) := by decide +kernel
theorem dL_law_1336 : decode cL_law 1336 = .ok (.invokevirtual 250, 3) := by decide +kernel
theorem dL_law_1339 : decode cL_law 1339 = .ok (.istore 7, 2) := by decide +kernel
theorem dL_law_1341 : decode cL_law 1341 = .ok (.aload_n 2, 1) := by decide +kernel
theorem dL_law_1342 : decode cL_law 1342 = .ok (.invokevirtual 196, 3) := by decide +kernel
theorem dL_law_1345 : decode cL_law 1345 = .ok (.iload 6, 2) := by decide +kernel
theorem dL_law_1347 : decode cL_law 1347 = .ok (.if_icmp .eq 5, 3) := by decide +kernel
theorem dL_law_1350 : decode cL_law 1350 = .ok (.iconst 0, 1) := by decide +kernel
theorem dL_law_1351 : decode cL_law 1351 = .ok (.ireturn, 1) := by decide +kernel
theorem dL_law_1352 : decode cL_law 1352 = .ok (.iload 6, 2) := by decide +kernel
theorem dL_law_1354 : decode cL_law 1354 = .ok (.ifCond .ne 15, 3) := by decide +kernel
theorem dL_law_1357 : decode cL_law 1357 = .ok (.aload_n 3, 1) := by decide +kernel
theorem dL_law_1358 : decode cL_law 1358 = .ok (.iconst 0, 1) := by decide +kernel
theorem dL_law_1359 : decode cL_law 1359 = .ok (.laload, 1) := by decide +kernel
theorem dL_law_1360 : decode cL_law 1360 = .ok (.iload 7, 2) := by decide +kernel
theorem dL_law_1362 : decode cL_law 1362 = .ok (.i2l, 1) := by decide +kernel
theorem dL_law_1363 : decode cL_law 1363 = .ok (.lcmp, 1) := by decide +kernel
theorem dL_law_1364 : decode cL_law 1364 = .ok (.ifCond .eq 5, 3) := by decide +kernel
theorem dL_law_1367 : decode cL_law 1367 = .ok (.iconst 0, 1) := by decide +kernel
theorem dL_law_1368 : decode cL_law 1368 = .ok (.ireturn, 1) := by decide +kernel
theorem dL_law_1369 : decode cL_law 1369 = .ok (.goto 2186, 3) := by decide +kernel
theorem dL_law_1372 : decode cL_law 1372 = .ok (.aload_n 1, 1) := by decide +kernel
theorem dL_law_1373 : decode cL_law 1373 = .ok (.aload_n 0, 1) := by decide +kernel
theorem dL_law_1374 : decode cL_law 1374 = .ok (.iload 5, 2) := by decide +kernel
theorem dL_law_1376 : decode cL_law 1376 = .ok (.iconst 1, 1) := by decide +kernel
theorem dL_law_1377 : decode cL_law 1377 = .ok (.iadd, 1) := by decide +kernel
theorem dL_law_1378 : decode cL_law 1378 = .ok (.iaload, 1) := by decide +kernel
theorem dL_law_1379 : decode cL_law 1379 = .ok (.aload_n 0, 1) := by decide +kernel
theorem dL_law_1380 : decode cL_law 1380 = .ok (.iload 5, 2) := by decide +kernel
theorem dL_law_1382 : decode cL_law 1382 = .ok (.iconst 2, 1) := by decide +kernel
theorem dL_law_1383 : decode cL_law 1383 = .ok (.iadd, 1) := by decide +kernel
theorem dL_law_1384 : decode cL_law 1384 = .ok (.iaload, 1) := by decide +kernel
theorem dL_law_1385 : decode cL_law 1385 = .ok (.aload_n 3, 1) := by decide +kernel
theorem dL_law_1386 : decode cL_law 1386 = .ok (.invokestatic 251, 3) := by decide +kernel
theorem dL_law_1389 : decode cL_law 1389 = .ok (.istore 6, 2) := by decide +kernel
theorem dL_law_1391 : decode cL_law 1391 = .ok (.aload_n 2, 1) := by decide +kernel
theorem dL_law_1392 : decode cL_law 1392 = .ok (.aload_n 0, 1) := by decide +kernel
theorem dL_law_1393 : decode cL_law 1393 = .ok (.iload 5, 2) := by decide +kernel
theorem dL_law_1395 : decode cL_law 1395 = .ok (.iconst 1, 1) := by decide +kernel
theorem dL_law_1396 : decode cL_law 1396 = .ok (.iadd, 1) := by decide +kernel
theorem dL_law_1397 : decode cL_law 1397 = .ok (.iaload, 1) := by decide +kernel
theorem dL_law_1398 : decode cL_law 1398 = .ok (.aload_n 0, 1) := by decide +kernel
theorem dL_law_1399 : decode cL_law 1399 = .ok (.iload 5, 2) := by decide +kernel
theorem dL_law_1401 : decode cL_law 1401 = .ok (.iconst 2, 1) := by decide +kernel
theorem dL_law_1402 : decode cL_law 1402 = .ok (.iadd, 1) := by decide +kernel
theorem dL_law_1403 : decode cL_law 1403 = .ok (.iaload, 1) := by decide +kernel
theorem dL_law_1404 : decode cL_law 1404 = .ok (.invokevirtual 253, 3) := by decide +kernel
theorem dL_law_1407 : decode cL_law 1407 = .ok (.istore 7, 2) := by decide +kernel
theorem dL_law_1409 : decode cL_law 1409 = .ok (.aload_n 2, 1) := by decide +kernel
theorem dL_law_1410 : decode cL_law 1410 = .ok (.invokevirtual 196, 3) := by decide +kernel
theorem dL_law_1413 : decode cL_law 1413 = .ok (.iload 6, 2) := by decide +kernel
theorem dL_law_1415 : decode cL_law 1415 = .ok (.if_icmp .eq 5, 3) := by decide +kernel
theorem dL_law_1418 : decode cL_law 1418 = .ok (.iconst 0, 1) := by decide +kernel
theorem dL_law_1419 : decode cL_law 1419 = .ok (.ireturn, 1) := by decide +kernel
theorem dL_law_1420 : decode cL_law 1420 = .ok (.iload 6, 2) := by decide +kernel
theorem dL_law_1422 : decode cL_law 1422 = .ok (.ifCond .ne 15, 3) := by decide +kernel
theorem dL_law_1425 : decode cL_law 1425 = .ok (.aload_n 3, 1) := by decide +kernel
theorem dL_law_1426 : decode cL_law 1426 = .ok (.iconst 0, 1) := by decide +kernel
theorem dL_law_1427 : decode cL_law 1427 = .ok (.laload, 1) := by decide +kernel
theorem dL_law_1428 : decode cL_law 1428 = .ok (.iload 7, 2) := by decide +kernel
theorem dL_law_1430 : decode cL_law 1430 = .ok (.i2l, 1) := by decide +kernel
theorem dL_law_1431 : decode cL_law 1431 = .ok (.lcmp, 1) := by decide +kernel
theorem dL_law_1432 : decode cL_law 1432 = .ok (.ifCond .eq 5, 3) := by decide +kernel
theorem dL_law_1435 : decode cL_law 1435 = .ok (.iconst 0, 1) := by decide +kernel
theorem dL_law_1436 : decode cL_law 1436 = .ok (.ireturn, 1) := by decide +kernel
theorem dL_law_1437 : decode cL_law 1437 = .ok (.goto 2118, 3) := by decide +kernel
theorem dL_law_1440 : decode cL_law 1440 = .ok (.aload_n 1, 1) := by decide +kernel
theorem dL_law_1441 : decode cL_law 1441 = .ok (.aload_n 0, 1) := by decide +kernel
theorem dL_law_1442 : decode cL_law 1442 = .ok (.iload 5, 2) := by decide +kernel
theorem dL_law_1444 : decode cL_law 1444 = .ok (.iconst 1, 1) := by decide +kernel
theorem dL_law_1445 : decode cL_law 1445 = .ok (.iadd, 1) := by decide +kernel
theorem dL_law_1446 : decode cL_law 1446 = .ok (.iaload, 1) := by decide +kernel
theorem dL_law_1447 : decode cL_law 1447 = .ok (.aload_n 0, 1) := by decide +kernel
theorem dL_law_1448 : decode cL_law 1448 = .ok (.iload 5, 2) := by decide +kernel
theorem dL_law_1450 : decode cL_law 1450 = .ok (.iconst 2, 1) := by decide +kernel
theorem dL_law_1451 : decode cL_law 1451 = .ok (.iadd, 1) := by decide +kernel
theorem dL_law_1452 : decode cL_law 1452 = .ok (.iaload, 1) := by decide +kernel
theorem dL_law_1453 : decode cL_law 1453 = .ok (.aload_n 3, 1) := by decide +kernel
theorem dL_law_1454 : decode cL_law 1454 = .ok (.invokestatic 254, 3) := by decide +kernel
theorem dL_law_1457 : decode cL_law 1457 = .ok (.istore 6, 2) := by decide +kernel
theorem dL_law_1459 : decode cL_law 1459 = .ok (.aload_n 2, 1) := by decide +kernel
theorem dL_law_1460 : decode cL_law 1460 = .ok (.aload_n 0, 1) := by decide +kernel
theorem dL_law_1461 : decode cL_law 1461 = .ok (.iload 5, 2) := by decide +kernel
theorem dL_law_1463 : decode cL_law 1463 = .ok (.iconst 1, 1) := by decide +kernel
theorem dL_law_1464 : decode cL_law 1464 = .ok (.iadd, 1) := by decide +kernel
theorem dL_law_1465 : decode cL_law 1465 = .ok (.iaload, 1) := by decide +kernel
theorem dL_law_1466 : decode cL_law 1466 = .ok (.aload_n 0, 1) := by decide +kernel
theorem dL_law_1467 : decode cL_law 1467 = .ok (.iload 5, 2) := by decide +kernel
theorem dL_law_1469 : decode cL_law 1469 = .ok (.iconst 2, 1) := by decide +kernel
theorem dL_law_1470 : decode cL_law 1470 = .ok (.iadd, 1) := by decide +kernel
theorem dL_law_1471 : decode cL_law 1471 = .ok (.iaload, 1) := by decide +kernel
theorem dL_law_1472 : decode cL_law 1472 = .ok (.invokevirtual 256, 3) := by decide +kernel
theorem dL_law_1475 : decode cL_law 1475 = .ok (.istore 7, 2) := by decide +kernel
theorem dL_law_1477 : decode cL_law 1477 = .ok (.aload_n 2, 1) := by decide +kernel
theorem dL_law_1478 : decode cL_law 1478 = .ok (.invokevirtual 196, 3) := by decide +kernel
theorem dL_law_1481 : decode cL_law 1481 = .ok (.iload 6, 2) := by decide +kernel
theorem dL_law_1483 : decode cL_law 1483 = .ok (.if_icmp .eq 5, 3) := by decide +kernel
theorem dL_law_1486 : decode cL_law 1486 = .ok (.iconst 0, 1) := by decide +kernel
theorem dL_law_1487 : decode cL_law 1487 = .ok (.ireturn, 1) := by decide +kernel
theorem dL_law_1488 : decode cL_law 1488 = .ok (.iload 6, 2) := by decide +kernel
theorem dL_law_1490 : decode cL_law 1490 = .ok (.ifCond .ne 22, 3) := by decide +kernel
theorem dL_law_1493 : decode cL_law 1493 = .ok (.aload_n 3, 1) := by decide +kernel
theorem dL_law_1494 : decode cL_law 1494 = .ok (.iconst 0, 1) := by decide +kernel
theorem dL_law_1495 : decode cL_law 1495 = .ok (.laload, 1) := by decide +kernel
theorem dL_law_1496 : decode cL_law 1496 = .ok (.iload 7, 2) := by decide +kernel
theorem dL_law_1498 : decode cL_law 1498 = .ok (.ifCond .eq 7, 3) := by decide +kernel
theorem dL_law_1501 : decode cL_law 1501 = .ok (.lconst 1, 1) := by decide +kernel
theorem dL_law_1502 : decode cL_law 1502 = .ok (.goto 4, 3) := by decide +kernel
theorem dL_law_1505 : decode cL_law 1505 = .ok (.lconst 0, 1) := by decide +kernel
theorem dL_law_1506 : decode cL_law 1506 = .ok (.lcmp, 1) := by decide +kernel
theorem dL_law_1507 : decode cL_law 1507 = .ok (.ifCond .eq 5, 3) := by decide +kernel
theorem dL_law_1510 : decode cL_law 1510 = .ok (.iconst 0, 1) := by decide +kernel
theorem dL_law_1511 : decode cL_law 1511 = .ok (.ireturn, 1) := by decide +kernel
theorem dL_law_1512 : decode cL_law 1512 = .ok (.goto 2043, 3) := by decide +kernel
theorem dL_law_1515 : decode cL_law 1515 = .ok (.aload_n 1, 1) := by decide +kernel
theorem dL_law_1516 : decode cL_law 1516 = .ok (.aload_n 0, 1) := by decide +kernel
theorem dL_law_1517 : decode cL_law 1517 = .ok (.iload 5, 2) := by decide +kernel
theorem dL_law_1519 : decode cL_law 1519 = .ok (.iconst 1, 1) := by decide +kernel
theorem dL_law_1520 : decode cL_law 1520 = .ok (.iadd, 1) := by decide +kernel
theorem dL_law_1521 : decode cL_law 1521 = .ok (.iaload, 1) := by decide +kernel
theorem dL_law_1522 : decode cL_law 1522 = .ok (.aload_n 0, 1) := by decide +kernel
theorem dL_law_1523 : decode cL_law 1523 = .ok (.iload 5, 2) := by decide +kernel
theorem dL_law_1525 : decode cL_law 1525 = .ok (.iconst 2, 1) := by decide +kernel
theorem dL_law_1526 : decode cL_law 1526 = .ok (.iadd, 1) := by decide +kernel
theorem dL_law_1527 : decode cL_law 1527 = .ok (.iaload, 1) := by decide +kernel
theorem dL_law_1528 : decode cL_law 1528 = .ok (.aload_n 3, 1) := by decide +kernel
theorem dL_law_1529 : decode cL_law 1529 = .ok (.invokestatic 257, 3) := by decide +kernel
theorem dL_law_1532 : decode cL_law 1532 = .ok (.istore 6, 2) := by decide +kernel
theorem dL_law_1534 : decode cL_law 1534 = .ok (.aload_n 2, 1) := by decide +kernel
theorem dL_law_1535 : decode cL_law 1535 = .ok (.aload_n 0, 1) := by decide +kernel
theorem dL_law_1536 : decode cL_law 1536 = .ok (.iload 5, 2) := by decide +kernel
theorem dL_law_1538 : decode cL_law 1538 = .ok (.iconst 1, 1) := by decide +kernel
theorem dL_law_1539 : decode cL_law 1539 = .ok (.iadd, 1) := by decide +kernel
theorem dL_law_1540 : decode cL_law 1540 = .ok (.iaload, 1) := by decide +kernel
theorem dL_law_1541 : decode cL_law 1541 = .ok (.aload_n 0, 1) := by decide +kernel
theorem dL_law_1542 : decode cL_law 1542 = .ok (.iload 5, 2) := by decide +kernel
theorem dL_law_1544 : decode cL_law 1544 = .ok (.iconst 2, 1) := by decide +kernel
theorem dL_law_1545 : decode cL_law 1545 = .ok (.iadd, 1) := by decide +kernel
theorem dL_law_1546 : decode cL_law 1546 = .ok (.iaload, 1) := by decide +kernel
theorem dL_law_1547 : decode cL_law 1547 = .ok (.invokevirtual 259, 3) := by decide +kernel
theorem dL_law_1550 : decode cL_law 1550 = .ok (.istore 7, 2) := by decide +kernel
theorem dL_law_1552 : decode cL_law 1552 = .ok (.aload_n 2, 1) := by decide +kernel
theorem dL_law_1553 : decode cL_law 1553 = .ok (.invokevirtual 196, 3) := by decide +kernel
theorem dL_law_1556 : decode cL_law 1556 = .ok (.iload 6, 2) := by decide +kernel
theorem dL_law_1558 : decode cL_law 1558 = .ok (.if_icmp .eq 5, 3) := by decide +kernel
theorem dL_law_1561 : decode cL_law 1561 = .ok (.iconst 0, 1) := by decide +kernel
theorem dL_law_1562 : decode cL_law 1562 = .ok (.ireturn, 1) := by decide +kernel
theorem dL_law_1563 : decode cL_law 1563 = .ok (.iload 6, 2) := by decide +kernel
theorem dL_law_1565 : decode cL_law 1565 = .ok (.ifCond .ne 22, 3) := by decide +kernel
theorem dL_law_1568 : decode cL_law 1568 = .ok (.aload_n 3, 1) := by decide +kernel
theorem dL_law_1569 : decode cL_law 1569 = .ok (.iconst 0, 1) := by decide +kernel
theorem dL_law_1570 : decode cL_law 1570 = .ok (.laload, 1) := by decide +kernel
theorem dL_law_1571 : decode cL_law 1571 = .ok (.iload 7, 2) := by decide +kernel
theorem dL_law_1573 : decode cL_law 1573 = .ok (.ifCond .eq 7, 3) := by decide +kernel
theorem dL_law_1576 : decode cL_law 1576 = .ok (.lconst 1, 1) := by decide +kernel
theorem dL_law_1577 : decode cL_law 1577 = .ok (.goto 4, 3) := by decide +kernel
theorem dL_law_1580 : decode cL_law 1580 = .ok (.lconst 0, 1) := by decide +kernel
theorem dL_law_1581 : decode cL_law 1581 = .ok (.lcmp, 1) := by decide +kernel
theorem dL_law_1582 : decode cL_law 1582 = .ok (.ifCond .eq 5, 3) := by decide +kernel
theorem dL_law_1585 : decode cL_law 1585 = .ok (.iconst 0, 1) := by decide +kernel
theorem dL_law_1586 : decode cL_law 1586 = .ok (.ireturn, 1) := by decide +kernel
theorem dL_law_1587 : decode cL_law 1587 = .ok (.goto 1968, 3) := by decide +kernel
theorem dL_law_1590 : decode cL_law 1590 = .ok (.aload_n 1, 1) := by decide +kernel
theorem dL_law_1591 : decode cL_law 1591 = .ok (.aload_n 0, 1) := by decide +kernel
theorem dL_law_1592 : decode cL_law 1592 = .ok (.iload 5, 2) := by decide +kernel
theorem dL_law_1594 : decode cL_law 1594 = .ok (.iconst 1, 1) := by decide +kernel
theorem dL_law_1595 : decode cL_law 1595 = .ok (.iadd, 1) := by decide +kernel
theorem dL_law_1596 : decode cL_law 1596 = .ok (.iaload, 1) := by decide +kernel
theorem dL_law_1597 : decode cL_law 1597 = .ok (.aload_n 0, 1) := by decide +kernel
theorem dL_law_1598 : decode cL_law 1598 = .ok (.iload 5, 2) := by decide +kernel
theorem dL_law_1600 : decode cL_law 1600 = .ok (.iconst 2, 1) := by decide +kernel
theorem dL_law_1601 : decode cL_law 1601 = .ok (.iadd, 1) := by decide +kernel
theorem dL_law_1602 : decode cL_law 1602 = .ok (.iaload, 1) := by decide +kernel
theorem dL_law_1603 : decode cL_law 1603 = .ok (.aload_n 3, 1) := by decide +kernel
theorem dL_law_1604 : decode cL_law 1604 = .ok (.invokestatic 260, 3) := by decide +kernel
theorem dL_law_1607 : decode cL_law 1607 = .ok (.istore 6, 2) := by decide +kernel
theorem dL_law_1609 : decode cL_law 1609 = .ok (.aload_n 2, 1) := by decide +kernel
theorem dL_law_1610 : decode cL_law 1610 = .ok (.aload_n 0, 1) := by decide +kernel
theorem dL_law_1611 : decode cL_law 1611 = .ok (.iload 5, 2) := by decide +kernel
theorem dL_law_1613 : decode cL_law 1613 = .ok (.iconst 1, 1) := by decide +kernel
theorem dL_law_1614 : decode cL_law 1614 = .ok (.iadd, 1) := by decide +kernel
theorem dL_law_1615 : decode cL_law 1615 = .ok (.iaload, 1) := by decide +kernel
theorem dL_law_1616 : decode cL_law 1616 = .ok (.aload_n 0, 1) := by decide +kernel
theorem dL_law_1617 : decode cL_law 1617 = .ok (.iload 5, 2) := by decide +kernel
theorem dL_law_1619 : decode cL_law 1619 = .ok (.iconst 2, 1) := by decide +kernel
theorem dL_law_1620 : decode cL_law 1620 = .ok (.iadd, 1) := by decide +kernel
theorem dL_law_1621 : decode cL_law 1621 = .ok (.iaload, 1) := by decide +kernel
theorem dL_law_1622 : decode cL_law 1622 = .ok (.invokevirtual 262, 3) := by decide +kernel
theorem dL_law_1625 : decode cL_law 1625 = .ok (.istore 7, 2) := by decide +kernel
theorem dL_law_1627 : decode cL_law 1627 = .ok (.aload_n 2, 1) := by decide +kernel
theorem dL_law_1628 : decode cL_law 1628 = .ok (.invokevirtual 196, 3) := by decide +kernel
theorem dL_law_1631 : decode cL_law 1631 = .ok (.iload 6, 2) := by decide +kernel
theorem dL_law_1633 : decode cL_law 1633 = .ok (.if_icmp .eq 5, 3) := by decide +kernel
theorem dL_law_1636 : decode cL_law 1636 = .ok (.iconst 0, 1) := by decide +kernel
theorem dL_law_1637 : decode cL_law 1637 = .ok (.ireturn, 1) := by decide +kernel
theorem dL_law_1638 : decode cL_law 1638 = .ok (.iload 6, 2) := by decide +kernel
theorem dL_law_1640 : decode cL_law 1640 = .ok (.ifCond .ne 15, 3) := by decide +kernel
theorem dL_law_1643 : decode cL_law 1643 = .ok (.aload_n 3, 1) := by decide +kernel
theorem dL_law_1644 : decode cL_law 1644 = .ok (.iconst 0, 1) := by decide +kernel
theorem dL_law_1645 : decode cL_law 1645 = .ok (.laload, 1) := by decide +kernel
theorem dL_law_1646 : decode cL_law 1646 = .ok (.iload 7, 2) := by decide +kernel
theorem dL_law_1648 : decode cL_law 1648 = .ok (.i2l, 1) := by decide +kernel
theorem dL_law_1649 : decode cL_law 1649 = .ok (.lcmp, 1) := by decide +kernel
theorem dL_law_1650 : decode cL_law 1650 = .ok (.ifCond .eq 5, 3) := by decide +kernel
theorem dL_law_1653 : decode cL_law 1653 = .ok (.iconst 0, 1) := by decide +kernel
theorem dL_law_1654 : decode cL_law 1654 = .ok (.ireturn, 1) := by decide +kernel
theorem dL_law_1655 : decode cL_law 1655 = .ok (.goto 1900, 3) := by decide +kernel
theorem dL_law_1658 : decode cL_law 1658 = .ok (.aload_n 1, 1) := by decide +kernel
theorem dL_law_1659 : decode cL_law 1659 = .ok (.aload_n 0, 1) := by decide +kernel
theorem dL_law_1660 : decode cL_law 1660 = .ok (.iload 5, 2) := by decide +kernel
theorem dL_law_1662 : decode cL_law 1662 = .ok (.iconst 1, 1) := by decide +kernel
theorem dL_law_1663 : decode cL_law 1663 = .ok (.iadd, 1) := by decide +kernel
theorem dL_law_1664 : decode cL_law 1664 = .ok (.iaload, 1) := by decide +kernel
theorem dL_law_1665 : decode cL_law 1665 = .ok (.aload_n 0, 1) := by decide +kernel
theorem dL_law_1666 : decode cL_law 1666 = .ok (.iload 5, 2) := by decide +kernel
theorem dL_law_1668 : decode cL_law 1668 = .ok (.iconst 2, 1) := by decide +kernel
theorem dL_law_1669 : decode cL_law 1669 = .ok (.iadd, 1) := by decide +kernel
theorem dL_law_1670 : decode cL_law 1670 = .ok (.iaload, 1) := by decide +kernel
theorem dL_law_1671 : decode cL_law 1671 = .ok (.aload_n 3, 1) := by decide +kernel
theorem dL_law_1672 : decode cL_law 1672 = .ok (.invokestatic 263, 3) := by decide +kernel
theorem dL_law_1675 : decode cL_law 1675 = .ok (.istore 6, 2) := by decide +kernel
theorem dL_law_1677 : decode cL_law 1677 = .ok (.aload_n 2, 1) := by decide +kernel
theorem dL_law_1678 : decode cL_law 1678 = .ok (.aload_n 0, 1) := by decide +kernel
theorem dL_law_1679 : decode cL_law 1679 = .ok (.iload 5, 2) := by decide +kernel
theorem dL_law_1681 : decode cL_law 1681 = .ok (.iconst 1, 1) := by decide +kernel
theorem dL_law_1682 : decode cL_law 1682 = .ok (.iadd, 1) := by decide +kernel
theorem dL_law_1683 : decode cL_law 1683 = .ok (.iaload, 1) := by decide +kernel
theorem dL_law_1684 : decode cL_law 1684 = .ok (.aload_n 0, 1) := by decide +kernel
theorem dL_law_1685 : decode cL_law 1685 = .ok (.iload 5, 2) := by decide +kernel
theorem dL_law_1687 : decode cL_law 1687 = .ok (.iconst 2, 1) := by decide +kernel
theorem dL_law_1688 : decode cL_law 1688 = .ok (.iadd, 1) := by decide +kernel
theorem dL_law_1689 : decode cL_law 1689 = .ok (.iaload, 1) := by decide +kernel
theorem dL_law_1690 : decode cL_law 1690 = .ok (.invokevirtual 265, 3) := by decide +kernel
theorem dL_law_1693 : decode cL_law 1693 = .ok (.istore 7, 2) := by decide +kernel
theorem dL_law_1695 : decode cL_law 1695 = .ok (.aload_n 2, 1) := by decide +kernel
theorem dL_law_1696 : decode cL_law 1696 = .ok (.invokevirtual 196, 3) := by decide +kernel
theorem dL_law_1699 : decode cL_law 1699 = .ok (.iload 6, 2) := by decide +kernel
theorem dL_law_1701 : decode cL_law 1701 = .ok (.if_icmp .eq 5, 3) := by decide +kernel
theorem dL_law_1704 : decode cL_law 1704 = .ok (.iconst 0, 1) := by decide +kernel
theorem dL_law_1705 : decode cL_law 1705 = .ok (.ireturn, 1) := by decide +kernel
theorem dL_law_1706 : decode cL_law 1706 = .ok (.iload 6, 2) := by decide +kernel
theorem dL_law_1708 : decode cL_law 1708 = .ok (.ifCond .ne 15, 3) := by decide +kernel
theorem dL_law_1711 : decode cL_law 1711 = .ok (.aload_n 3, 1) := by decide +kernel
theorem dL_law_1712 : decode cL_law 1712 = .ok (.iconst 0, 1) := by decide +kernel
theorem dL_law_1713 : decode cL_law 1713 = .ok (.laload, 1) := by decide +kernel
theorem dL_law_1714 : decode cL_law 1714 = .ok (.iload 7, 2) := by decide +kernel
theorem dL_law_1716 : decode cL_law 1716 = .ok (.i2l, 1) := by decide +kernel
theorem dL_law_1717 : decode cL_law 1717 = .ok (.lcmp, 1) := by decide +kernel
theorem dL_law_1718 : decode cL_law 1718 = .ok (.ifCond .eq 5, 3) := by decide +kernel
theorem dL_law_1721 : decode cL_law 1721 = .ok (.iconst 0, 1) := by decide +kernel
theorem dL_law_1722 : decode cL_law 1722 = .ok (.ireturn, 1) := by decide +kernel
theorem dL_law_1723 : decode cL_law 1723 = .ok (.goto 1832, 3) := by decide +kernel
theorem dL_law_1726 : decode cL_law 1726 = .ok (.aload_n 1, 1) := by decide +kernel
theorem dL_law_1727 : decode cL_law 1727 = .ok (.invokevirtual 266, 3) := by decide +kernel
theorem dL_law_1730 : decode cL_law 1730 = .ok (.aload_n 2, 1) := by decide +kernel
theorem dL_law_1731 : decode cL_law 1731 = .ok (.invokevirtual 269, 3) := by decide +kernel
theorem dL_law_1734 : decode cL_law 1734 = .ok (.if_icmp .eq 1821, 3) := by decide +kernel
theorem dL_law_1737 : decode cL_law 1737 = .ok (.iconst 0, 1) := by decide +kernel
theorem dL_law_1738 : decode cL_law 1738 = .ok (.ireturn, 1) := by decide +kernel
theorem dL_law_1739 : decode cL_law 1739 = .ok (.aload_n 1, 1) := by decide +kernel
theorem dL_law_1740 : decode cL_law 1740 = .ok (.aload_n 0, 1) := by decide +kernel
theorem dL_law_1741 : decode cL_law 1741 = .ok (.iload 5, 2) := by decide +kernel
theorem dL_law_1743 : decode cL_law 1743 = .ok (.iconst 1, 1) := by decide +kernel
theorem dL_law_1744 : decode cL_law 1744 = .ok (.iadd, 1) := by decide +kernel
theorem dL_law_1745 : decode cL_law 1745 = .ok (.iaload, 1) := by decide +kernel
theorem dL_law_1746 : decode cL_law 1746 = .ok (.aload_n 3, 1) := by decide +kernel
theorem dL_law_1747 : decode cL_law 1747 = .ok (.invokestatic 270, 3) := by decide +kernel
theorem dL_law_1750 : decode cL_law 1750 = .ok (.istore 6, 2) := by decide +kernel
theorem dL_law_1752 : decode cL_law 1752 = .ok (.aload_n 2, 1) := by decide +kernel
theorem dL_law_1753 : decode cL_law 1753 = .ok (.aload_n 0, 1) := by decide +kernel
theorem dL_law_1754 : decode cL_law 1754 = .ok (.iload 5, 2) := by decide +kernel
theorem dL_law_1756 : decode cL_law 1756 = .ok (.iconst 1, 1) := by decide +kernel
theorem dL_law_1757 : decode cL_law 1757 = .ok (.iadd, 1) := by decide +kernel
theorem dL_law_1758 : decode cL_law 1758 = .ok (.iaload, 1) := by decide +kernel
theorem dL_law_1759 : decode cL_law 1759 = .ok (.invokevirtual 272, 3) := by decide +kernel
theorem dL_law_1762 : decode cL_law 1762 = .ok (.istore 7, 2) := by decide +kernel
theorem dL_law_1764 : decode cL_law 1764 = .ok (.aload_n 2, 1) := by decide +kernel
theorem dL_law_1765 : decode cL_law 1765 = .ok (.invokevirtual 196, 3) := by decide +kernel
theorem dL_law_1768 : decode cL_law 1768 = .ok (.iload 6, 2) := by decide +kernel
theorem dL_law_1770 : decode cL_law 1770 = .ok (.if_icmp .eq 5, 3) := by decide +kernel
theorem dL_law_1773 : decode cL_law 1773 = .ok (.iconst 0, 1) := by decide +kernel
theorem dL_law_1774 : decode cL_law 1774 = .ok (.ireturn, 1) := by decide +kernel
theorem dL_law_1775 : decode cL_law 1775 = .ok (.iload 6, 2) := by decide +kernel
theorem dL_law_1777 : decode cL_law 1777 = .ok (.ifCond .ne 15, 3) := by decide +kernel
theorem dL_law_1780 : decode cL_law 1780 = .ok (.aload_n 3, 1) := by decide +kernel
theorem dL_law_1781 : decode cL_law 1781 = .ok (.iconst 0, 1) := by decide +kernel
theorem dL_law_1782 : decode cL_law 1782 = .ok (.laload, 1) := by decide +kernel
theorem dL_law_1783 : decode cL_law 1783 = .ok (.iload 7, 2) := by decide +kernel
theorem dL_law_1785 : decode cL_law 1785 = .ok (.i2l, 1) := by decide +kernel
theorem dL_law_1786 : decode cL_law 1786 = .ok (.lcmp, 1) := by decide +kernel
theorem dL_law_1787 : decode cL_law 1787 = .ok (.ifCond .eq 5, 3) := by decide +kernel
theorem dL_law_1790 : decode cL_law 1790 = .ok (.iconst 0, 1) := by decide +kernel
theorem dL_law_1791 : decode cL_law 1791 = .ok (.ireturn, 1) := by decide +kernel
theorem dL_law_1792 : decode cL_law 1792 = .ok (.goto 1763, 3) := by decide +kernel
theorem dL_law_1795 : decode cL_law 1795 = .ok (.aload_n 1, 1) := by decide +kernel
theorem dL_law_1796 : decode cL_law 1796 = .ok (.aload_n 0, 1) := by decide +kernel
theorem dL_law_1797 : decode cL_law 1797 = .ok (.iload 5, 2) := by decide +kernel
theorem dL_law_1799 : decode cL_law 1799 = .ok (.iconst 1, 1) := by decide +kernel
theorem dL_law_1800 : decode cL_law 1800 = .ok (.iadd, 1) := by decide +kernel
theorem dL_law_1801 : decode cL_law 1801 = .ok (.iaload, 1) := by decide +kernel
theorem dL_law_1802 : decode cL_law 1802 = .ok (.aload_n 3, 1) := by decide +kernel
theorem dL_law_1803 : decode cL_law 1803 = .ok (.invokestatic 273, 3) := by decide +kernel
theorem dL_law_1806 : decode cL_law 1806 = .ok (.istore 6, 2) := by decide +kernel
theorem dL_law_1808 : decode cL_law 1808 = .ok (.aload_n 2, 1) := by decide +kernel
theorem dL_law_1809 : decode cL_law 1809 = .ok (.aload_n 0, 1) := by decide +kernel
theorem dL_law_1810 : decode cL_law 1810 = .ok (.iload 5, 2) := by decide +kernel
theorem dL_law_1812 : decode cL_law 1812 = .ok (.iconst 1, 1) := by decide +kernel
theorem dL_law_1813 : decode cL_law 1813 = .ok (.iadd, 1) := by decide +kernel
theorem dL_law_1814 : decode cL_law 1814 = .ok (.iaload, 1) := by decide +kernel
theorem dL_law_1815 : decode cL_law 1815 = .ok (.invokevirtual 275, 3) := by decide +kernel
theorem dL_law_1818 : decode cL_law 1818 = .ok (.istore 7, 2) := by decide +kernel
theorem dL_law_1820 : decode cL_law 1820 = .ok (.aload_n 2, 1) := by decide +kernel
theorem dL_law_1821 : decode cL_law 1821 = .ok (.invokevirtual 196, 3) := by decide +kernel
theorem dL_law_1824 : decode cL_law 1824 = .ok (.iload 6, 2) := by decide +kernel
theorem dL_law_1826 : decode cL_law 1826 = .ok (.if_icmp .eq 5, 3) := by decide +kernel
theorem dL_law_1829 : decode cL_law 1829 = .ok (.iconst 0, 1) := by decide +kernel
theorem dL_law_1830 : decode cL_law 1830 = .ok (.ireturn, 1) := by decide +kernel
theorem dL_law_1831 : decode cL_law 1831 = .ok (.iload 6, 2) := by decide +kernel
theorem dL_law_1833 : decode cL_law 1833 = .ok (.ifCond .ne 15, 3) := by decide +kernel
theorem dL_law_1836 : decode cL_law 1836 = .ok (.aload_n 3, 1) := by decide +kernel
theorem dL_law_1837 : decode cL_law 1837 = .ok (.iconst 0, 1) := by decide +kernel
theorem dL_law_1838 : decode cL_law 1838 = .ok (.laload, 1) := by decide +kernel
theorem dL_law_1839 : decode cL_law 1839 = .ok (.iload 7, 2) := by decide +kernel
theorem dL_law_1841 : decode cL_law 1841 = .ok (.i2l, 1) := by decide +kernel
theorem dL_law_1842 : decode cL_law 1842 = .ok (.lcmp, 1) := by decide +kernel
theorem dL_law_1843 : decode cL_law 1843 = .ok (.ifCond .eq 5, 3) := by decide +kernel
theorem dL_law_1846 : decode cL_law 1846 = .ok (.iconst 0, 1) := by decide +kernel
theorem dL_law_1847 : decode cL_law 1847 = .ok (.ireturn, 1) := by decide +kernel
theorem dL_law_1848 : decode cL_law 1848 = .ok (.goto 1707, 3) := by decide +kernel
theorem dL_law_1851 : decode cL_law 1851 = .ok (.aload_n 1, 1) := by decide +kernel
theorem dL_law_1852 : decode cL_law 1852 = .ok (.aload_n 0, 1) := by decide +kernel
theorem dL_law_1853 : decode cL_law 1853 = .ok (.iload 5, 2) := by decide +kernel
theorem dL_law_1855 : decode cL_law 1855 = .ok (.iconst 1, 1) := by decide +kernel
theorem dL_law_1856 : decode cL_law 1856 = .ok (.iadd, 1) := by decide +kernel
theorem dL_law_1857 : decode cL_law 1857 = .ok (.iaload, 1) := by decide +kernel
theorem dL_law_1858 : decode cL_law 1858 = .ok (.aload_n 3, 1) := by decide +kernel
theorem dL_law_1859 : decode cL_law 1859 = .ok (.invokestatic 276, 3) := by decide +kernel
theorem dL_law_1862 : decode cL_law 1862 = .ok (.istore 6, 2) := by decide +kernel
theorem dL_law_1864 : decode cL_law 1864 = .ok (.aload_n 2, 1) := by decide +kernel
theorem dL_law_1865 : decode cL_law 1865 = .ok (.aload_n 0, 1) := by decide +kernel
theorem dL_law_1866 : decode cL_law 1866 = .ok (.iload 5, 2) := by decide +kernel
theorem dL_law_1868 : decode cL_law 1868 = .ok (.iconst 1, 1) := by decide +kernel
theorem dL_law_1869 : decode cL_law 1869 = .ok (.iadd, 1) := by decide +kernel
theorem dL_law_1870 : decode cL_law 1870 = .ok (.iaload, 1) := by decide +kernel
theorem dL_law_1871 : decode cL_law 1871 = .ok (.invokevirtual 278, 3) := by decide +kernel
theorem dL_law_1874 : decode cL_law 1874 = .ok (.istore 7, 2) := by decide +kernel
theorem dL_law_1876 : decode cL_law 1876 = .ok (.aload_n 2, 1) := by decide +kernel
theorem dL_law_1877 : decode cL_law 1877 = .ok (.invokevirtual 196, 3) := by decide +kernel
theorem dL_law_1880 : decode cL_law 1880 = .ok (.iload 6, 2) := by decide +kernel
theorem dL_law_1882 : decode cL_law 1882 = .ok (.if_icmp .eq 5, 3) := by decide +kernel
theorem dL_law_1885 : decode cL_law 1885 = .ok (.iconst 0, 1) := by decide +kernel
theorem dL_law_1886 : decode cL_law 1886 = .ok (.ireturn, 1) := by decide +kernel
theorem dL_law_1887 : decode cL_law 1887 = .ok (.iload 6, 2) := by decide +kernel
theorem dL_law_1889 : decode cL_law 1889 = .ok (.ifCond .ne 15, 3) := by decide +kernel
theorem dL_law_1892 : decode cL_law 1892 = .ok (.aload_n 3, 1) := by decide +kernel
theorem dL_law_1893 : decode cL_law 1893 = .ok (.iconst 0, 1) := by decide +kernel
theorem dL_law_1894 : decode cL_law 1894 = .ok (.laload, 1) := by decide +kernel
theorem dL_law_1895 : decode cL_law 1895 = .ok (.iload 7, 2) := by decide +kernel
theorem dL_law_1897 : decode cL_law 1897 = .ok (.i2l, 1) := by decide +kernel
theorem dL_law_1898 : decode cL_law 1898 = .ok (.lcmp, 1) := by decide +kernel
theorem dL_law_1899 : decode cL_law 1899 = .ok (.ifCond .eq 5, 3) := by decide +kernel
theorem dL_law_1902 : decode cL_law 1902 = .ok (.iconst 0, 1) := by decide +kernel
theorem dL_law_1903 : decode cL_law 1903 = .ok (.ireturn, 1) := by decide +kernel
theorem dL_law_1904 : decode cL_law 1904 = .ok (.goto 1651, 3) := by decide +kernel
theorem dL_law_1907 : decode cL_law 1907 = .ok (.aload_n 1, 1) := by decide +kernel
theorem dL_law_1908 : decode cL_law 1908 = .ok (.aload_n 0, 1) := by decide +kernel
theorem dL_law_1909 : decode cL_law 1909 = .ok (.iload 5, 2) := by decide +kernel
theorem dL_law_1911 : decode cL_law 1911 = .ok (.iconst 1, 1) := by decide +kernel
theorem dL_law_1912 : decode cL_law 1912 = .ok (.iadd, 1) := by decide +kernel
theorem dL_law_1913 : decode cL_law 1913 = .ok (.iaload, 1) := by decide +kernel
theorem dL_law_1914 : decode cL_law 1914 = .ok (.aload_n 0, 1) := by decide +kernel
theorem dL_law_1915 : decode cL_law 1915 = .ok (.iload 5, 2) := by decide +kernel
theorem dL_law_1917 : decode cL_law 1917 = .ok (.iconst 2, 1) := by decide +kernel
theorem dL_law_1918 : decode cL_law 1918 = .ok (.iadd, 1) := by decide +kernel
theorem dL_law_1919 : decode cL_law 1919 = .ok (.iaload, 1) := by decide +kernel
theorem dL_law_1920 : decode cL_law 1920 = .ok (.aload_n 3, 1) := by decide +kernel
theorem dL_law_1921 : decode cL_law 1921 = .ok (.invokestatic 279, 3) := by decide +kernel
theorem dL_law_1924 : decode cL_law 1924 = .ok (.istore 6, 2) := by decide +kernel
theorem dL_law_1926 : decode cL_law 1926 = .ok (.aload_n 2, 1) := by decide +kernel
theorem dL_law_1927 : decode cL_law 1927 = .ok (.aload_n 0, 1) := by decide +kernel
theorem dL_law_1928 : decode cL_law 1928 = .ok (.iload 5, 2) := by decide +kernel
theorem dL_law_1930 : decode cL_law 1930 = .ok (.iconst 1, 1) := by decide +kernel
theorem dL_law_1931 : decode cL_law 1931 = .ok (.iadd, 1) := by decide +kernel
theorem dL_law_1932 : decode cL_law 1932 = .ok (.iaload, 1) := by decide +kernel
theorem dL_law_1933 : decode cL_law 1933 = .ok (.aload_n 0, 1) := by decide +kernel
theorem dL_law_1934 : decode cL_law 1934 = .ok (.iload 5, 2) := by decide +kernel
theorem dL_law_1936 : decode cL_law 1936 = .ok (.iconst 2, 1) := by decide +kernel
theorem dL_law_1937 : decode cL_law 1937 = .ok (.iadd, 1) := by decide +kernel
theorem dL_law_1938 : decode cL_law 1938 = .ok (.iaload, 1) := by decide +kernel
theorem dL_law_1939 : decode cL_law 1939 = .ok (.invokevirtual 281, 3) := by decide +kernel
theorem dL_law_1942 : decode cL_law 1942 = .ok (.istore 7, 2) := by decide +kernel
theorem dL_law_1944 : decode cL_law 1944 = .ok (.aload_n 2, 1) := by decide +kernel
theorem dL_law_1945 : decode cL_law 1945 = .ok (.invokevirtual 196, 3) := by decide +kernel
theorem dL_law_1948 : decode cL_law 1948 = .ok (.iload 6, 2) := by decide +kernel
theorem dL_law_1950 : decode cL_law 1950 = .ok (.if_icmp .eq 5, 3) := by decide +kernel
theorem dL_law_1953 : decode cL_law 1953 = .ok (.iconst 0, 1) := by decide +kernel
theorem dL_law_1954 : decode cL_law 1954 = .ok (.ireturn, 1) := by decide +kernel
theorem dL_law_1955 : decode cL_law 1955 = .ok (.iload 6, 2) := by decide +kernel
theorem dL_law_1957 : decode cL_law 1957 = .ok (.ifCond .ne 15, 3) := by decide +kernel
theorem dL_law_1960 : decode cL_law 1960 = .ok (.aload_n 3, 1) := by decide +kernel
theorem dL_law_1961 : decode cL_law 1961 = .ok (.iconst 0, 1) := by decide +kernel
theorem dL_law_1962 : decode cL_law 1962 = .ok (.laload, 1) := by decide +kernel
theorem dL_law_1963 : decode cL_law 1963 = .ok (.iload 7, 2) := by decide +kernel
theorem dL_law_1965 : decode cL_law 1965 = .ok (.i2l, 1) := by decide +kernel
theorem dL_law_1966 : decode cL_law 1966 = .ok (.lcmp, 1) := by decide +kernel
theorem dL_law_1967 : decode cL_law 1967 = .ok (.ifCond .eq 5, 3) := by decide +kernel
theorem dL_law_1970 : decode cL_law 1970 = .ok (.iconst 0, 1) := by decide +kernel
theorem dL_law_1971 : decode cL_law 1971 = .ok (.ireturn, 1) := by decide +kernel
theorem dL_law_1972 : decode cL_law 1972 = .ok (.goto 1583, 3) := by decide +kernel
theorem dL_law_1975 : decode cL_law 1975 = .ok (.aload_n 1, 1) := by decide +kernel
theorem dL_law_1976 : decode cL_law 1976 = .ok (.aload_n 0, 1) := by decide +kernel
theorem dL_law_1977 : decode cL_law 1977 = .ok (.iload 5, 2) := by decide +kernel
theorem dL_law_1979 : decode cL_law 1979 = .ok (.iconst 1, 1) := by decide +kernel
theorem dL_law_1980 : decode cL_law 1980 = .ok (.iadd, 1) := by decide +kernel
theorem dL_law_1981 : decode cL_law 1981 = .ok (.iaload, 1) := by decide +kernel
theorem dL_law_1982 : decode cL_law 1982 = .ok (.aload_n 0, 1) := by decide +kernel
theorem dL_law_1983 : decode cL_law 1983 = .ok (.iload 5, 2) := by decide +kernel
theorem dL_law_1985 : decode cL_law 1985 = .ok (.iconst 2, 1) := by decide +kernel
theorem dL_law_1986 : decode cL_law 1986 = .ok (.iadd, 1) := by decide +kernel
theorem dL_law_1987 : decode cL_law 1987 = .ok (.iaload, 1) := by decide +kernel
theorem dL_law_1988 : decode cL_law 1988 = .ok (.aload_n 3, 1) := by decide +kernel
theorem dL_law_1989 : decode cL_law 1989 = .ok (.invokestatic 282, 3) := by decide +kernel
theorem dL_law_1992 : decode cL_law 1992 = .ok (.istore 6, 2) := by decide +kernel
theorem dL_law_1994 : decode cL_law 1994 = .ok (.aload_n 2, 1) := by decide +kernel
theorem dL_law_1995 : decode cL_law 1995 = .ok (.aload_n 0, 1) := by decide +kernel
theorem dL_law_1996 : decode cL_law 1996 = .ok (.iload 5, 2) := by decide +kernel
theorem dL_law_1998 : decode cL_law 1998 = .ok (.iconst 1, 1) := by decide +kernel
theorem dL_law_1999 : decode cL_law 1999 = .ok (.iadd, 1) := by decide +kernel
theorem dL_law_2000 : decode cL_law 2000 = .ok (.iaload, 1) := by decide +kernel
theorem dL_law_2001 : decode cL_law 2001 = .ok (.aload_n 0, 1) := by decide +kernel
theorem dL_law_2002 : decode cL_law 2002 = .ok (.iload 5, 2) := by decide +kernel
theorem dL_law_2004 : decode cL_law 2004 = .ok (.iconst 2, 1) := by decide +kernel
theorem dL_law_2005 : decode cL_law 2005 = .ok (.iadd, 1) := by decide +kernel
theorem dL_law_2006 : decode cL_law 2006 = .ok (.iaload, 1) := by decide +kernel
theorem dL_law_2007 : decode cL_law 2007 = .ok (.invokevirtual 284, 3) := by decide +kernel
theorem dL_law_2010 : decode cL_law 2010 = .ok (.istore 7, 2) := by decide +kernel
theorem dL_law_2012 : decode cL_law 2012 = .ok (.aload_n 2, 1) := by decide +kernel
theorem dL_law_2013 : decode cL_law 2013 = .ok (.invokevirtual 196, 3) := by decide +kernel
theorem dL_law_2016 : decode cL_law 2016 = .ok (.iload 6, 2) := by decide +kernel
theorem dL_law_2018 : decode cL_law 2018 = .ok (.if_icmp .eq 5, 3) := by decide +kernel
theorem dL_law_2021 : decode cL_law 2021 = .ok (.iconst 0, 1) := by decide +kernel
theorem dL_law_2022 : decode cL_law 2022 = .ok (.ireturn, 1) := by decide +kernel
theorem dL_law_2023 : decode cL_law 2023 = .ok (.iload 6, 2) := by decide +kernel
theorem dL_law_2025 : decode cL_law 2025 = .ok (.ifCond .ne 22, 3) := by decide +kernel
theorem dL_law_2028 : decode cL_law 2028 = .ok (.aload_n 3, 1) := by decide +kernel
theorem dL_law_2029 : decode cL_law 2029 = .ok (.iconst 0, 1) := by decide +kernel
theorem dL_law_2030 : decode cL_law 2030 = .ok (.laload, 1) := by decide +kernel
theorem dL_law_2031 : decode cL_law 2031 = .ok (.iload 7, 2) := by decide +kernel
theorem dL_law_2033 : decode cL_law 2033 = .ok (.ifCond .eq 7, 3) := by decide +kernel
theorem dL_law_2036 : decode cL_law 2036 = .ok (.lconst 1, 1) := by decide +kernel
theorem dL_law_2037 : decode cL_law 2037 = .ok (.goto 4, 3) := by decide +kernel
theorem dL_law_2040 : decode cL_law 2040 = .ok (.lconst 0, 1) := by decide +kernel
theorem dL_law_2041 : decode cL_law 2041 = .ok (.lcmp, 1) := by decide +kernel
theorem dL_law_2042 : decode cL_law 2042 = .ok (.ifCond .eq 5, 3) := by decide +kernel
theorem dL_law_2045 : decode cL_law 2045 = .ok (.iconst 0, 1) := by decide +kernel
theorem dL_law_2046 : decode cL_law 2046 = .ok (.ireturn, 1) := by decide +kernel
theorem dL_law_2047 : decode cL_law 2047 = .ok (.goto 1508, 3) := by decide +kernel
theorem dL_law_2050 : decode cL_law 2050 = .ok (.aload_n 1, 1) := by decide +kernel
theorem dL_law_2051 : decode cL_law 2051 = .ok (.aload_n 0, 1) := by decide +kernel
theorem dL_law_2052 : decode cL_law 2052 = .ok (.iload 5, 2) := by decide +kernel
theorem dL_law_2054 : decode cL_law 2054 = .ok (.iconst 1, 1) := by decide +kernel
theorem dL_law_2055 : decode cL_law 2055 = .ok (.iadd, 1) := by decide +kernel
theorem dL_law_2056 : decode cL_law 2056 = .ok (.iaload, 1) := by decide +kernel
theorem dL_law_2057 : decode cL_law 2057 = .ok (.aload_n 0, 1) := by decide +kernel
theorem dL_law_2058 : decode cL_law 2058 = .ok (.iload 5, 2) := by decide +kernel
theorem dL_law_2060 : decode cL_law 2060 = .ok (.iconst 2, 1) := by decide +kernel
theorem dL_law_2061 : decode cL_law 2061 = .ok (.iadd, 1) := by decide +kernel
theorem dL_law_2062 : decode cL_law 2062 = .ok (.iaload, 1) := by decide +kernel
theorem dL_law_2063 : decode cL_law 2063 = .ok (.aload_n 3, 1) := by decide +kernel
theorem dL_law_2064 : decode cL_law 2064 = .ok (.invokestatic 285, 3) := by decide +kernel
theorem dL_law_2067 : decode cL_law 2067 = .ok (.istore 6, 2) := by decide +kernel
theorem dL_law_2069 : decode cL_law 2069 = .ok (.aload_n 2, 1) := by decide +kernel
theorem dL_law_2070 : decode cL_law 2070 = .ok (.aload_n 0, 1) := by decide +kernel
theorem dL_law_2071 : decode cL_law 2071 = .ok (.iload 5, 2) := by decide +kernel
theorem dL_law_2073 : decode cL_law 2073 = .ok (.iconst 1, 1) := by decide +kernel
theorem dL_law_2074 : decode cL_law 2074 = .ok (.iadd, 1) := by decide +kernel
theorem dL_law_2075 : decode cL_law 2075 = .ok (.iaload, 1) := by decide +kernel
theorem dL_law_2076 : decode cL_law 2076 = .ok (.aload_n 0, 1) := by decide +kernel
theorem dL_law_2077 : decode cL_law 2077 = .ok (.iload 5, 2) := by decide +kernel
theorem dL_law_2079 : decode cL_law 2079 = .ok (.iconst 2, 1) := by decide +kernel
theorem dL_law_2080 : decode cL_law 2080 = .ok (.iadd, 1) := by decide +kernel
theorem dL_law_2081 : decode cL_law 2081 = .ok (.iaload, 1) := by decide +kernel
theorem dL_law_2082 : decode cL_law 2082 = .ok (.invokevirtual 287, 3) := by decide +kernel
theorem dL_law_2085 : decode cL_law 2085 = .ok (.istore 7, 2) := by decide +kernel
theorem dL_law_2087 : decode cL_law 2087 = .ok (.aload_n 2, 1) := by decide +kernel
theorem dL_law_2088 : decode cL_law 2088 = .ok (.invokevirtual 196, 3) := by decide +kernel
theorem dL_law_2091 : decode cL_law 2091 = .ok (.iload 6, 2) := by decide +kernel
theorem dL_law_2093 : decode cL_law 2093 = .ok (.if_icmp .eq 5, 3) := by decide +kernel
theorem dL_law_2096 : decode cL_law 2096 = .ok (.iconst 0, 1) := by decide +kernel
theorem dL_law_2097 : decode cL_law 2097 = .ok (.ireturn, 1) := by decide +kernel
theorem dL_law_2098 : decode cL_law 2098 = .ok (.iload 6, 2) := by decide +kernel
theorem dL_law_2100 : decode cL_law 2100 = .ok (.ifCond .ne 22, 3) := by decide +kernel
theorem dL_law_2103 : decode cL_law 2103 = .ok (.aload_n 3, 1) := by decide +kernel
theorem dL_law_2104 : decode cL_law 2104 = .ok (.iconst 0, 1) := by decide +kernel
theorem dL_law_2105 : decode cL_law 2105 = .ok (.laload, 1) := by decide +kernel
theorem dL_law_2106 : decode cL_law 2106 = .ok (.iload 7, 2) := by decide +kernel
theorem dL_law_2108 : decode cL_law 2108 = .ok (.ifCond .eq 7, 3) := by decide +kernel
theorem dL_law_2111 : decode cL_law 2111 = .ok (.lconst 1, 1) := by decide +kernel
theorem dL_law_2112 : decode cL_law 2112 = .ok (.goto 4, 3) := by decide +kernel
theorem dL_law_2115 : decode cL_law 2115 = .ok (.lconst 0, 1) := by decide +kernel
theorem dL_law_2116 : decode cL_law 2116 = .ok (.lcmp, 1) := by decide +kernel
theorem dL_law_2117 : decode cL_law 2117 = .ok (.ifCond .eq 5, 3) := by decide +kernel
theorem dL_law_2120 : decode cL_law 2120 = .ok (.iconst 0, 1) := by decide +kernel
theorem dL_law_2121 : decode cL_law 2121 = .ok (.ireturn, 1) := by decide +kernel
theorem dL_law_2122 : decode cL_law 2122 = .ok (.goto 1433, 3) := by decide +kernel
theorem dL_law_2125 : decode cL_law 2125 = .ok (.aload_n 1, 1) := by decide +kernel
theorem dL_law_2126 : decode cL_law 2126 = .ok (.aload_n 0, 1) := by decide +kernel
theorem dL_law_2127 : decode cL_law 2127 = .ok (.iload 5, 2) := by decide +kernel
theorem dL_law_2129 : decode cL_law 2129 = .ok (.iconst 1, 1) := by decide +kernel
theorem dL_law_2130 : decode cL_law 2130 = .ok (.iadd, 1) := by decide +kernel
theorem dL_law_2131 : decode cL_law 2131 = .ok (.iaload, 1) := by decide +kernel
theorem dL_law_2132 : decode cL_law 2132 = .ok (.aload_n 3, 1) := by decide +kernel
theorem dL_law_2133 : decode cL_law 2133 = .ok (.invokestatic 288, 3) := by decide +kernel
theorem dL_law_2136 : decode cL_law 2136 = .ok (.istore 6, 2) := by decide +kernel
theorem dL_law_2138 : decode cL_law 2138 = .ok (.aload_n 2, 1) := by decide +kernel
theorem dL_law_2139 : decode cL_law 2139 = .ok (.aload_n 0, 1) := by decide +kernel
theorem dL_law_2140 : decode cL_law 2140 = .ok (.iload 5, 2) := by decide +kernel
theorem dL_law_2142 : decode cL_law 2142 = .ok (.iconst 1, 1) := by decide +kernel
theorem dL_law_2143 : decode cL_law 2143 = .ok (.iadd, 1) := by decide +kernel
theorem dL_law_2144 : decode cL_law 2144 = .ok (.iaload, 1) := by decide +kernel
theorem dL_law_2145 : decode cL_law 2145 = .ok (.invokevirtual 290, 3) := by decide +kernel
theorem dL_law_2148 : decode cL_law 2148 = .ok (.istore 7, 2) := by decide +kernel
theorem dL_law_2150 : decode cL_law 2150 = .ok (.aload_n 2, 1) := by decide +kernel
theorem dL_law_2151 : decode cL_law 2151 = .ok (.invokevirtual 196, 3) := by decide +kernel
theorem dL_law_2154 : decode cL_law 2154 = .ok (.iload 6, 2) := by decide +kernel
theorem dL_law_2156 : decode cL_law 2156 = .ok (.if_icmp .eq 5, 3) := by decide +kernel
theorem dL_law_2159 : decode cL_law 2159 = .ok (.iconst 0, 1) := by decide +kernel
theorem dL_law_2160 : decode cL_law 2160 = .ok (.ireturn, 1) := by decide +kernel
theorem dL_law_2161 : decode cL_law 2161 = .ok (.iload 6, 2) := by decide +kernel
theorem dL_law_2163 : decode cL_law 2163 = .ok (.ifCond .ne 15, 3) := by decide +kernel
theorem dL_law_2166 : decode cL_law 2166 = .ok (.aload_n 3, 1) := by decide +kernel
theorem dL_law_2167 : decode cL_law 2167 = .ok (.iconst 0, 1) := by decide +kernel
theorem dL_law_2168 : decode cL_law 2168 = .ok (.laload, 1) := by decide +kernel
theorem dL_law_2169 : decode cL_law 2169 = .ok (.iload 7, 2) := by decide +kernel
theorem dL_law_2171 : decode cL_law 2171 = .ok (.i2l, 1) := by decide +kernel
theorem dL_law_2172 : decode cL_law 2172 = .ok (.lcmp, 1) := by decide +kernel
theorem dL_law_2173 : decode cL_law 2173 = .ok (.ifCond .eq 5, 3) := by decide +kernel
theorem dL_law_2176 : decode cL_law 2176 = .ok (.iconst 0, 1) := by decide +kernel
theorem dL_law_2177 : decode cL_law 2177 = .ok (.ireturn, 1) := by decide +kernel
theorem dL_law_2178 : decode cL_law 2178 = .ok (.goto 1377, 3) := by decide +kernel
theorem dL_law_2181 : decode cL_law 2181 = .ok (.aload_n 1, 1) := by decide +kernel
theorem dL_law_2182 : decode cL_law 2182 = .ok (.invokevirtual 291, 3) := by decide +kernel
theorem dL_law_2185 : decode cL_law 2185 = .ok (.aload_n 2, 1) := by decide +kernel
theorem dL_law_2186 : decode cL_law 2186 = .ok (.invokevirtual 294, 3) := by decide +kernel
theorem dL_law_2189 : decode cL_law 2189 = .ok (.if_icmp .eq 1366, 3) := by decide +kernel
theorem dL_law_2192 : decode cL_law 2192 = .ok (.iconst 0, 1) := by decide +kernel
theorem dL_law_2193 : decode cL_law 2193 = .ok (.ireturn, 1) := by decide +kernel
theorem dL_law_2194 : decode cL_law 2194 = .ok (.aload_n 1, 1) := by decide +kernel
theorem dL_law_2195 : decode cL_law 2195 = .ok (.aload_n 0, 1) := by decide +kernel
theorem dL_law_2196 : decode cL_law 2196 = .ok (.iload 5, 2) := by decide +kernel
theorem dL_law_2198 : decode cL_law 2198 = .ok (.iconst 1, 1) := by decide +kernel
theorem dL_law_2199 : decode cL_law 2199 = .ok (.iadd, 1) := by decide +kernel
theorem dL_law_2200 : decode cL_law 2200 = .ok (.iaload, 1) := by decide +kernel
theorem dL_law_2201 : decode cL_law 2201 = .ok (.aload_n 3, 1) := by decide +kernel
theorem dL_law_2202 : decode cL_law 2202 = .ok (.invokestatic 295, 3) := by decide +kernel
theorem dL_law_2205 : decode cL_law 2205 = .ok (.istore 6, 2) := by decide +kernel
theorem dL_law_2207 : decode cL_law 2207 = .ok (.aload_n 2, 1) := by decide +kernel
theorem dL_law_2208 : decode cL_law 2208 = .ok (.aload_n 0, 1) := by decide +kernel
theorem dL_law_2209 : decode cL_law 2209 = .ok (.iload 5, 2) := by decide +kernel
theorem dL_law_2211 : decode cL_law 2211 = .ok (.iconst 1, 1) := by decide +kernel
theorem dL_law_2212 : decode cL_law 2212 = .ok (.iadd, 1) := by decide +kernel
theorem dL_law_2213 : decode cL_law 2213 = .ok (.iaload, 1) := by decide +kernel
theorem dL_law_2214 : decode cL_law 2214 = .ok (.invokevirtual 297, 3) := by decide +kernel
theorem dL_law_2217 : decode cL_law 2217 = .ok (.istore 7, 2) := by decide +kernel
theorem dL_law_2219 : decode cL_law 2219 = .ok (.aload_n 2, 1) := by decide +kernel
theorem dL_law_2220 : decode cL_law 2220 = .ok (.invokevirtual 196, 3) := by decide +kernel
theorem dL_law_2223 : decode cL_law 2223 = .ok (.iload 6, 2) := by decide +kernel
theorem dL_law_2225 : decode cL_law 2225 = .ok (.if_icmp .eq 5, 3) := by decide +kernel
theorem dL_law_2228 : decode cL_law 2228 = .ok (.iconst 0, 1) := by decide +kernel
theorem dL_law_2229 : decode cL_law 2229 = .ok (.ireturn, 1) := by decide +kernel
theorem dL_law_2230 : decode cL_law 2230 = .ok (.iload 6, 2) := by decide +kernel
theorem dL_law_2232 : decode cL_law 2232 = .ok (.ifCond .ne 15, 3) := by decide +kernel
theorem dL_law_2235 : decode cL_law 2235 = .ok (.aload_n 3, 1) := by decide +kernel
theorem dL_law_2236 : decode cL_law 2236 = .ok (.iconst 0, 1) := by decide +kernel
theorem dL_law_2237 : decode cL_law 2237 = .ok (.laload, 1) := by decide +kernel
theorem dL_law_2238 : decode cL_law 2238 = .ok (.iload 7, 2) := by decide +kernel
theorem dL_law_2240 : decode cL_law 2240 = .ok (.i2l, 1) := by decide +kernel
theorem dL_law_2241 : decode cL_law 2241 = .ok (.lcmp, 1) := by decide +kernel
theorem dL_law_2242 : decode cL_law 2242 = .ok (.ifCond .eq 5, 3) := by decide +kernel
theorem dL_law_2245 : decode cL_law 2245 = .ok (.iconst 0, 1) := by decide +kernel
theorem dL_law_2246 : decode cL_law 2246 = .ok (.ireturn, 1) := by decide +kernel
theorem dL_law_2247 : decode cL_law 2247 = .ok (.goto 1308, 3) := by decide +kernel
theorem dL_law_2250 : decode cL_law 2250 = .ok (.aload_n 1, 1) := by decide +kernel
theorem dL_law_2251 : decode cL_law 2251 = .ok (.aload_n 3, 1) := by decide +kernel
theorem dL_law_2252 : decode cL_law 2252 = .ok (.invokestatic 298, 3) := by decide +kernel
theorem dL_law_2255 : decode cL_law 2255 = .ok (.istore 6, 2) := by decide +kernel
theorem dL_law_2257 : decode cL_law 2257 = .ok (.aload_n 2, 1) := by decide +kernel
theorem dL_law_2258 : decode cL_law 2258 = .ok (.invokevirtual 301, 3) := by decide +kernel
theorem dL_law_2261 : decode cL_law 2261 = .ok (.istore 7, 2) := by decide +kernel
theorem dL_law_2263 : decode cL_law 2263 = .ok (.aload_n 2, 1) := by decide +kernel
theorem dL_law_2264 : decode cL_law 2264 = .ok (.invokevirtual 196, 3) := by decide +kernel
theorem dL_law_2267 : decode cL_law 2267 = .ok (.iload 6, 2) := by decide +kernel
theorem dL_law_2269 : decode cL_law 2269 = .ok (.if_icmp .eq 5, 3) := by decide +kernel
theorem dL_law_2272 : decode cL_law 2272 = .ok (.iconst 0, 1) := by decide +kernel
theorem dL_law_2273 : decode cL_law 2273 = .ok (.ireturn, 1) := by decide +kernel
theorem dL_law_2274 : decode cL_law 2274 = .ok (.iload 6, 2) := by decide +kernel
theorem dL_law_2276 : decode cL_law 2276 = .ok (.ifCond .ne 15, 3) := by decide +kernel
theorem dL_law_2279 : decode cL_law 2279 = .ok (.aload_n 3, 1) := by decide +kernel
theorem dL_law_2280 : decode cL_law 2280 = .ok (.iconst 0, 1) := by decide +kernel
theorem dL_law_2281 : decode cL_law 2281 = .ok (.laload, 1) := by decide +kernel
theorem dL_law_2282 : decode cL_law 2282 = .ok (.iload 7, 2) := by decide +kernel
theorem dL_law_2284 : decode cL_law 2284 = .ok (.i2l, 1) := by decide +kernel
theorem dL_law_2285 : decode cL_law 2285 = .ok (.lcmp, 1) := by decide +kernel
theorem dL_law_2286 : decode cL_law 2286 = .ok (.ifCond .eq 5, 3) := by decide +kernel
theorem dL_law_2289 : decode cL_law 2289 = .ok (.iconst 0, 1) := by decide +kernel
theorem dL_law_2290 : decode cL_law 2290 = .ok (.ireturn, 1) := by decide +kernel
theorem dL_law_2291 : decode cL_law 2291 = .ok (.goto 1264, 3) := by decide +kernel
theorem dL_law_2294 : decode cL_law 2294 = .ok (.aload_n 1, 1) := by decide +kernel
theorem dL_law_2295 : decode cL_law 2295 = .ok (.aload_n 0, 1) := by decide +kernel
theorem dL_law_2296 : decode cL_law 2296 = .ok (.iload 5, 2) := by decide +kernel
theorem dL_law_2298 : decode cL_law 2298 = .ok (.iconst 1, 1) := by decide +kernel
theorem dL_law_2299 : decode cL_law 2299 = .ok (.iadd, 1) := by decide +kernel
theorem dL_law_2300 : decode cL_law 2300 = .ok (.iaload, 1) := by decide +kernel
theorem dL_law_2301 : decode cL_law 2301 = .ok (.aload_n 3, 1) := by decide +kernel
theorem dL_law_2302 : decode cL_law 2302 = .ok (.invokestatic 302, 3) := by decide +kernel
theorem dL_law_2305 : decode cL_law 2305 = .ok (.istore 6, 2) := by decide +kernel
theorem dL_law_2307 : decode cL_law 2307 = .ok (.aload_n 2, 1) := by decide +kernel
theorem dL_law_2308 : decode cL_law 2308 = .ok (.aload_n 0, 1) := by decide +kernel
theorem dL_law_2309 : decode cL_law 2309 = .ok (.iload 5, 2) := by decide +kernel
theorem dL_law_2311 : decode cL_law 2311 = .ok (.iconst 1, 1) := by decide +kernel
theorem dL_law_2312 : decode cL_law 2312 = .ok (.iadd, 1) := by decide +kernel
theorem dL_law_2313 : decode cL_law 2313 = .ok (.iaload, 1) := by decide +kernel
theorem dL_law_2314 : decode cL_law 2314 = .ok (.invokevirtual 304, 3) := by decide +kernel
theorem dL_law_2317 : decode cL_law 2317 = .ok (.istore 7, 2) := by decide +kernel
theorem dL_law_2319 : decode cL_law 2319 = .ok (.aload_n 2, 1) := by decide +kernel
theorem dL_law_2320 : decode cL_law 2320 = .ok (.invokevirtual 196, 3) := by decide +kernel
theorem dL_law_2323 : decode cL_law 2323 = .ok (.iload 6, 2) := by decide +kernel
theorem dL_law_2325 : decode cL_law 2325 = .ok (.if_icmp .eq 5, 3) := by decide +kernel
theorem dL_law_2328 : decode cL_law 2328 = .ok (.iconst 0, 1) := by decide +kernel
theorem dL_law_2329 : decode cL_law 2329 = .ok (.ireturn, 1) := by decide +kernel
theorem dL_law_2330 : decode cL_law 2330 = .ok (.iload 6, 2) := by decide +kernel
theorem dL_law_2332 : decode cL_law 2332 = .ok (.ifCond .ne 15, 3) := by decide +kernel
theorem dL_law_2335 : decode cL_law 2335 = .ok (.aload_n 3, 1) := by decide +kernel
theorem dL_law_2336 : decode cL_law 2336 = .ok (.iconst 0, 1) := by decide +kernel
theorem dL_law_2337 : decode cL_law 2337 = .ok (.laload, 1) := by decide +kernel
theorem dL_law_2338 : decode cL_law 2338 = .ok (.iload 7, 2) := by decide +kernel
theorem dL_law_2340 : decode cL_law 2340 = .ok (.i2l, 1) := by decide +kernel
theorem dL_law_2341 : decode cL_law 2341 = .ok (.lcmp, 1) := by decide +kernel
theorem dL_law_2342 : decode cL_law 2342 = .ok (.ifCond .eq 5, 3) := by decide +kernel
theorem dL_law_2345 : decode cL_law 2345 = .ok (.iconst 0, 1) := by decide +kernel
theorem dL_law_2346 : decode cL_law 2346 = .ok (.ireturn, 1) := by decide +kernel
theorem dL_law_2347 : decode cL_law 2347 = .ok (.goto 1208, 3) := by decide +kernel
theorem dL_law_2350 : decode cL_law 2350 = .ok (.aload_n 1, 1) := by decide +kernel
theorem dL_law_2351 : decode cL_law 2351 = .ok (.aload_n 0, 1) := by decide +kernel
theorem dL_law_2352 : decode cL_law 2352 = .ok (.iload 5, 2) := by decide +kernel
theorem dL_law_2354 : decode cL_law 2354 = .ok (.iconst 1, 1) := by decide +kernel
theorem dL_law_2355 : decode cL_law 2355 = .ok (.iadd, 1) := by decide +kernel
theorem dL_law_2356 : decode cL_law 2356 = .ok (.iaload, 1) := by decide +kernel
theorem dL_law_2357 : decode cL_law 2357 = .ok (.aload_n 3, 1) := by decide +kernel
theorem dL_law_2358 : decode cL_law 2358 = .ok (.invokestatic 305, 3) := by decide +kernel
theorem dL_law_2361 : decode cL_law 2361 = .ok (.istore 6, 2) := by decide +kernel
theorem dL_law_2363 : decode cL_law 2363 = .ok (.aload_n 2, 1) := by decide +kernel
theorem dL_law_2364 : decode cL_law 2364 = .ok (.aload_n 0, 1) := by decide +kernel
theorem dL_law_2365 : decode cL_law 2365 = .ok (.iload 5, 2) := by decide +kernel
theorem dL_law_2367 : decode cL_law 2367 = .ok (.iconst 1, 1) := by decide +kernel
theorem dL_law_2368 : decode cL_law 2368 = .ok (.iadd, 1) := by decide +kernel
theorem dL_law_2369 : decode cL_law 2369 = .ok (.iaload, 1) := by decide +kernel
theorem dL_law_2370 : decode cL_law 2370 = .ok (.invokevirtual 307, 3) := by decide +kernel
theorem dL_law_2373 : decode cL_law 2373 = .ok (.istore 7, 2) := by decide +kernel
theorem dL_law_2375 : decode cL_law 2375 = .ok (.aload_n 2, 1) := by decide +kernel
theorem dL_law_2376 : decode cL_law 2376 = .ok (.invokevirtual 196, 3) := by decide +kernel
theorem dL_law_2379 : decode cL_law 2379 = .ok (.iload 6, 2) := by decide +kernel
theorem dL_law_2381 : decode cL_law 2381 = .ok (.if_icmp .eq 5, 3) := by decide +kernel
theorem dL_law_2384 : decode cL_law 2384 = .ok (.iconst 0, 1) := by decide +kernel
theorem dL_law_2385 : decode cL_law 2385 = .ok (.ireturn, 1) := by decide +kernel
theorem dL_law_2386 : decode cL_law 2386 = .ok (.iload 6, 2) := by decide +kernel
theorem dL_law_2388 : decode cL_law 2388 = .ok (.ifCond .ne 15, 3) := by decide +kernel
theorem dL_law_2391 : decode cL_law 2391 = .ok (.aload_n 3, 1) := by decide +kernel
theorem dL_law_2392 : decode cL_law 2392 = .ok (.iconst 0, 1) := by decide +kernel
theorem dL_law_2393 : decode cL_law 2393 = .ok (.laload, 1) := by decide +kernel
theorem dL_law_2394 : decode cL_law 2394 = .ok (.iload 7, 2) := by decide +kernel
theorem dL_law_2396 : decode cL_law 2396 = .ok (.i2l, 1) := by decide +kernel
theorem dL_law_2397 : decode cL_law 2397 = .ok (.lcmp, 1) := by decide +kernel
theorem dL_law_2398 : decode cL_law 2398 = .ok (.ifCond .eq 5, 3) := by decide +kernel
theorem dL_law_2401 : decode cL_law 2401 = .ok (.iconst 0, 1) := by decide +kernel
theorem dL_law_2402 : decode cL_law 2402 = .ok (.ireturn, 1) := by decide +kernel
theorem dL_law_2403 : decode cL_law 2403 = .ok (.goto 1152, 3) := by decide +kernel
theorem dL_law_2406 : decode cL_law 2406 = .ok (.aload_n 1, 1) := by decide +kernel
theorem dL_law_2407 : decode cL_law 2407 = .ok (.aload_n 0, 1) := by decide +kernel
theorem dL_law_2408 : decode cL_law 2408 = .ok (.iload 5, 2) := by decide +kernel
theorem dL_law_2410 : decode cL_law 2410 = .ok (.iconst 1, 1) := by decide +kernel
theorem dL_law_2411 : decode cL_law 2411 = .ok (.iadd, 1) := by decide +kernel
theorem dL_law_2412 : decode cL_law 2412 = .ok (.iaload, 1) := by decide +kernel
theorem dL_law_2413 : decode cL_law 2413 = .ok (.aload_n 3, 1) := by decide +kernel
theorem dL_law_2414 : decode cL_law 2414 = .ok (.invokestatic 308, 3) := by decide +kernel
theorem dL_law_2417 : decode cL_law 2417 = .ok (.istore 6, 2) := by decide +kernel
theorem dL_law_2419 : decode cL_law 2419 = .ok (.aload_n 2, 1) := by decide +kernel
theorem dL_law_2420 : decode cL_law 2420 = .ok (.aload_n 0, 1) := by decide +kernel
theorem dL_law_2421 : decode cL_law 2421 = .ok (.iload 5, 2) := by decide +kernel
theorem dL_law_2423 : decode cL_law 2423 = .ok (.iconst 1, 1) := by decide +kernel
theorem dL_law_2424 : decode cL_law 2424 = .ok (.iadd, 1) := by decide +kernel
theorem dL_law_2425 : decode cL_law 2425 = .ok (.iaload, 1) := by decide +kernel
theorem dL_law_2426 : decode cL_law 2426 = .ok (.invokevirtual 310, 3) := by decide +kernel
theorem dL_law_2429 : decode cL_law 2429 = .ok (.istore 7, 2) := by decide +kernel
theorem dL_law_2431 : decode cL_law 2431 = .ok (.aload_n 2, 1) := by decide +kernel
theorem dL_law_2432 : decode cL_law 2432 = .ok (.invokevirtual 196, 3) := by decide +kernel
theorem dL_law_2435 : decode cL_law 2435 = .ok (.iload 6, 2) := by decide +kernel
theorem dL_law_2437 : decode cL_law 2437 = .ok (.if_icmp .eq 5, 3) := by decide +kernel
theorem dL_law_2440 : decode cL_law 2440 = .ok (.iconst 0, 1) := by decide +kernel
theorem dL_law_2441 : decode cL_law 2441 = .ok (.ireturn, 1) := by decide +kernel
theorem dL_law_2442 : decode cL_law 2442 = .ok (.iload 6, 2) := by decide +kernel
theorem dL_law_2444 : decode cL_law 2444 = .ok (.ifCond .ne 15, 3) := by decide +kernel
theorem dL_law_2447 : decode cL_law 2447 = .ok (.aload_n 3, 1) := by decide +kernel
theorem dL_law_2448 : decode cL_law 2448 = .ok (.iconst 0, 1) := by decide +kernel
theorem dL_law_2449 : decode cL_law 2449 = .ok (.laload, 1) := by decide +kernel
theorem dL_law_2450 : decode cL_law 2450 = .ok (.iload 7, 2) := by decide +kernel
theorem dL_law_2452 : decode cL_law 2452 = .ok (.i2l, 1) := by decide +kernel
theorem dL_law_2453 : decode cL_law 2453 = .ok (.lcmp, 1) := by decide +kernel
theorem dL_law_2454 : decode cL_law 2454 = .ok (.ifCond .eq 5, 3) := by decide +kernel
theorem dL_law_2457 : decode cL_law 2457 = .ok (.iconst 0, 1) := by decide +kernel
theorem dL_law_2458 : decode cL_law 2458 = .ok (.ireturn, 1) := by decide +kernel
theorem dL_law_2459 : decode cL_law 2459 = .ok (.goto 1096, 3) := by decide +kernel
theorem dL_law_2462 : decode cL_law 2462 = .ok (.aload_n 1, 1) := by decide +kernel
theorem dL_law_2463 : decode cL_law 2463 = .ok (.aload_n 0, 1) := by decide +kernel
theorem dL_law_2464 : decode cL_law 2464 = .ok (.iload 5, 2) := by decide +kernel
theorem dL_law_2466 : decode cL_law 2466 = .ok (.iconst 1, 1) := by decide +kernel
theorem dL_law_2467 : decode cL_law 2467 = .ok (.iadd, 1) := by decide +kernel
theorem dL_law_2468 : decode cL_law 2468 = .ok (.iaload, 1) := by decide +kernel
theorem dL_law_2469 : decode cL_law 2469 = .ok (.aload_n 3, 1) := by decide +kernel
theorem dL_law_2470 : decode cL_law 2470 = .ok (.invokestatic 311, 3) := by decide +kernel
theorem dL_law_2473 : decode cL_law 2473 = .ok (.istore 6, 2) := by decide +kernel
theorem dL_law_2475 : decode cL_law 2475 = .ok (.aload_n 2, 1) := by decide +kernel
theorem dL_law_2476 : decode cL_law 2476 = .ok (.aload_n 0, 1) := by decide +kernel
theorem dL_law_2477 : decode cL_law 2477 = .ok (.iload 5, 2) := by decide +kernel
theorem dL_law_2479 : decode cL_law 2479 = .ok (.iconst 1, 1) := by decide +kernel
theorem dL_law_2480 : decode cL_law 2480 = .ok (.iadd, 1) := by decide +kernel
theorem dL_law_2481 : decode cL_law 2481 = .ok (.iaload, 1) := by decide +kernel
theorem dL_law_2482 : decode cL_law 2482 = .ok (.invokevirtual 313, 3) := by decide +kernel
theorem dL_law_2485 : decode cL_law 2485 = .ok (.istore 7, 2) := by decide +kernel
theorem dL_law_2487 : decode cL_law 2487 = .ok (.aload_n 2, 1) := by decide +kernel
theorem dL_law_2488 : decode cL_law 2488 = .ok (.invokevirtual 196, 3) := by decide +kernel
theorem dL_law_2491 : decode cL_law 2491 = .ok (.iload 6, 2) := by decide +kernel
theorem dL_law_2493 : decode cL_law 2493 = .ok (.if_icmp .eq 5, 3) := by decide +kernel
theorem dL_law_2496 : decode cL_law 2496 = .ok (.iconst 0, 1) := by decide +kernel
theorem dL_law_2497 : decode cL_law 2497 = .ok (.ireturn, 1) := by decide +kernel
theorem dL_law_2498 : decode cL_law 2498 = .ok (.iload 6, 2) := by decide +kernel
theorem dL_law_2500 : decode cL_law 2500 = .ok (.ifCond .ne 15, 3) := by decide +kernel
theorem dL_law_2503 : decode cL_law 2503 = .ok (.aload_n 3, 1) := by decide +kernel
theorem dL_law_2504 : decode cL_law 2504 = .ok (.iconst 0, 1) := by decide +kernel
theorem dL_law_2505 : decode cL_law 2505 = .ok (.laload, 1) := by decide +kernel
theorem dL_law_2506 : decode cL_law 2506 = .ok (.iload 7, 2) := by decide +kernel
theorem dL_law_2508 : decode cL_law 2508 = .ok (.i2l, 1) := by decide +kernel
theorem dL_law_2509 : decode cL_law 2509 = .ok (.lcmp, 1) := by decide +kernel
theorem dL_law_2510 : decode cL_law 2510 = .ok (.ifCond .eq 5, 3) := by decide +kernel
theorem dL_law_2513 : decode cL_law 2513 = .ok (.iconst 0, 1) := by decide +kernel
theorem dL_law_2514 : decode cL_law 2514 = .ok (.ireturn, 1) := by decide +kernel
theorem dL_law_2515 : decode cL_law 2515 = .ok (.goto 1040, 3) := by decide +kernel
theorem dL_law_2518 : decode cL_law 2518 = .ok (.aload_n 1, 1) := by decide +kernel
theorem dL_law_2519 : decode cL_law 2519 = .ok (.aload_n 0, 1) := by decide +kernel
theorem dL_law_2520 : decode cL_law 2520 = .ok (.iload 5, 2) := by decide +kernel
theorem dL_law_2522 : decode cL_law 2522 = .ok (.iconst 1, 1) := by decide +kernel
theorem dL_law_2523 : decode cL_law 2523 = .ok (.iadd, 1) := by decide +kernel
theorem dL_law_2524 : decode cL_law 2524 = .ok (.iaload, 1) := by decide +kernel
theorem dL_law_2525 : decode cL_law 2525 = .ok (.aload_n 0, 1) := by decide +kernel
theorem dL_law_2526 : decode cL_law 2526 = .ok (.iload 5, 2) := by decide +kernel
theorem dL_law_2528 : decode cL_law 2528 = .ok (.iconst 2, 1) := by decide +kernel
theorem dL_law_2529 : decode cL_law 2529 = .ok (.iadd, 1) := by decide +kernel
theorem dL_law_2530 : decode cL_law 2530 = .ok (.iaload, 1) := by decide +kernel
theorem dL_law_2531 : decode cL_law 2531 = .ok (.aload_n 3, 1) := by decide +kernel
theorem dL_law_2532 : decode cL_law 2532 = .ok (.invokestatic 314, 3) := by decide +kernel
theorem dL_law_2535 : decode cL_law 2535 = .ok (.istore 6, 2) := by decide +kernel
theorem dL_law_2537 : decode cL_law 2537 = .ok (.aload_n 2, 1) := by decide +kernel
theorem dL_law_2538 : decode cL_law 2538 = .ok (.aload_n 0, 1) := by decide +kernel
theorem dL_law_2539 : decode cL_law 2539 = .ok (.iload 5, 2) := by decide +kernel
theorem dL_law_2541 : decode cL_law 2541 = .ok (.iconst 1, 1) := by decide +kernel
theorem dL_law_2542 : decode cL_law 2542 = .ok (.iadd, 1) := by decide +kernel
theorem dL_law_2543 : decode cL_law 2543 = .ok (.iaload, 1) := by decide +kernel
theorem dL_law_2544 : decode cL_law 2544 = .ok (.aload_n 0, 1) := by decide +kernel
theorem dL_law_2545 : decode cL_law 2545 = .ok (.iload 5, 2) := by decide +kernel
theorem dL_law_2547 : decode cL_law 2547 = .ok (.iconst 2, 1) := by decide +kernel
theorem dL_law_2548 : decode cL_law 2548 = .ok (.iadd, 1) := by decide +kernel
theorem dL_law_2549 : decode cL_law 2549 = .ok (.iaload, 1) := by decide +kernel
theorem dL_law_2550 : decode cL_law 2550 = .ok (.invokevirtual 316, 3) := by decide +kernel
theorem dL_law_2553 : decode cL_law 2553 = .ok (.istore 7, 2) := by decide +kernel
theorem dL_law_2555 : decode cL_law 2555 = .ok (.aload_n 2, 1) := by decide +kernel
theorem dL_law_2556 : decode cL_law 2556 = .ok (.invokevirtual 196, 3) := by decide +kernel
theorem dL_law_2559 : decode cL_law 2559 = .ok (.iload 6, 2) := by decide +kernel
theorem dL_law_2561 : decode cL_law 2561 = .ok (.if_icmp .eq 5, 3) := by decide +kernel
theorem dL_law_2564 : decode cL_law 2564 = .ok (.iconst 0, 1) := by decide +kernel
theorem dL_law_2565 : decode cL_law 2565 = .ok (.ireturn, 1) := by decide +kernel
theorem dL_law_2566 : decode cL_law 2566 = .ok (.iload 6, 2) := by decide +kernel
theorem dL_law_2568 : decode cL_law 2568 = .ok (.ifCond .ne 15, 3) := by decide +kernel
theorem dL_law_2571 : decode cL_law 2571 = .ok (.aload_n 3, 1) := by decide +kernel
theorem dL_law_2572 : decode cL_law 2572 = .ok (.iconst 0, 1) := by decide +kernel
theorem dL_law_2573 : decode cL_law 2573 = .ok (.laload, 1) := by decide +kernel
theorem dL_law_2574 : decode cL_law 2574 = .ok (.iload 7, 2) := by decide +kernel
theorem dL_law_2576 : decode cL_law 2576 = .ok (.i2l, 1) := by decide +kernel
theorem dL_law_2577 : decode cL_law 2577 = .ok (.lcmp, 1) := by decide +kernel
theorem dL_law_2578 : decode cL_law 2578 = .ok (.ifCond .eq 5, 3) := by decide +kernel
theorem dL_law_2581 : decode cL_law 2581 = .ok (.iconst 0, 1) := by decide +kernel
theorem dL_law_2582 : decode cL_law 2582 = .ok (.ireturn, 1) := by decide +kernel
theorem dL_law_2583 : decode cL_law 2583 = .ok (.goto 972, 3) := by decide +kernel
theorem dL_law_2586 : decode cL_law 2586 = .ok (.aload_n 1, 1) := by decide +kernel
theorem dL_law_2587 : decode cL_law 2587 = .ok (.aload_n 0, 1) := by decide +kernel
theorem dL_law_2588 : decode cL_law 2588 = .ok (.iload 5, 2) := by decide +kernel
theorem dL_law_2590 : decode cL_law 2590 = .ok (.iconst 1, 1) := by decide +kernel
theorem dL_law_2591 : decode cL_law 2591 = .ok (.iadd, 1) := by decide +kernel
theorem dL_law_2592 : decode cL_law 2592 = .ok (.iaload, 1) := by decide +kernel
theorem dL_law_2593 : decode cL_law 2593 = .ok (.aload_n 3, 1) := by decide +kernel
theorem dL_law_2594 : decode cL_law 2594 = .ok (.invokestatic 317, 3) := by decide +kernel
theorem dL_law_2597 : decode cL_law 2597 = .ok (.istore 6, 2) := by decide +kernel
theorem dL_law_2599 : decode cL_law 2599 = .ok (.aload_n 2, 1) := by decide +kernel
theorem dL_law_2600 : decode cL_law 2600 = .ok (.aload_n 0, 1) := by decide +kernel
theorem dL_law_2601 : decode cL_law 2601 = .ok (.iload 5, 2) := by decide +kernel
theorem dL_law_2603 : decode cL_law 2603 = .ok (.iconst 1, 1) := by decide +kernel
theorem dL_law_2604 : decode cL_law 2604 = .ok (.iadd, 1) := by decide +kernel
theorem dL_law_2605 : decode cL_law 2605 = .ok (.iaload, 1) := by decide +kernel
theorem dL_law_2606 : decode cL_law 2606 = .ok (.invokevirtual 319, 3) := by decide +kernel
theorem dL_law_2609 : decode cL_law 2609 = .ok (.istore 7, 2) := by decide +kernel
theorem dL_law_2611 : decode cL_law 2611 = .ok (.aload_n 2, 1) := by decide +kernel
theorem dL_law_2612 : decode cL_law 2612 = .ok (.invokevirtual 196, 3) := by decide +kernel
theorem dL_law_2615 : decode cL_law 2615 = .ok (.iload 6, 2) := by decide +kernel
theorem dL_law_2617 : decode cL_law 2617 = .ok (.if_icmp .eq 5, 3) := by decide +kernel
theorem dL_law_2620 : decode cL_law 2620 = .ok (.iconst 0, 1) := by decide +kernel
theorem dL_law_2621 : decode cL_law 2621 = .ok (.ireturn, 1) := by decide +kernel
theorem dL_law_2622 : decode cL_law 2622 = .ok (.iload 6, 2) := by decide +kernel
theorem dL_law_2624 : decode cL_law 2624 = .ok (.ifCond .ne 15, 3) := by decide +kernel
theorem dL_law_2627 : decode cL_law 2627 = .ok (.aload_n 3, 1) := by decide +kernel
theorem dL_law_2628 : decode cL_law 2628 = .ok (.iconst 0, 1) := by decide +kernel
theorem dL_law_2629 : decode cL_law 2629 = .ok (.laload, 1) := by decide +kernel
theorem dL_law_2630 : decode cL_law 2630 = .ok (.iload 7, 2) := by decide +kernel
theorem dL_law_2632 : decode cL_law 2632 = .ok (.i2l, 1) := by decide +kernel
theorem dL_law_2633 : decode cL_law 2633 = .ok (.lcmp, 1) := by decide +kernel
theorem dL_law_2634 : decode cL_law 2634 = .ok (.ifCond .eq 5, 3) := by decide +kernel
theorem dL_law_2637 : decode cL_law 2637 = .ok (.iconst 0, 1) := by decide +kernel
theorem dL_law_2638 : decode cL_law 2638 = .ok (.ireturn, 1) := by decide +kernel
theorem dL_law_2639 : decode cL_law 2639 = .ok (.goto 916, 3) := by decide +kernel
theorem dL_law_2642 : decode cL_law 2642 = .ok (.aload_n 1, 1) := by decide +kernel
theorem dL_law_2643 : decode cL_law 2643 = .ok (.aload_n 0, 1) := by decide +kernel
theorem dL_law_2644 : decode cL_law 2644 = .ok (.iload 5, 2) := by decide +kernel
theorem dL_law_2646 : decode cL_law 2646 = .ok (.iconst 1, 1) := by decide +kernel
theorem dL_law_2647 : decode cL_law 2647 = .ok (.iadd, 1) := by decide +kernel
theorem dL_law_2648 : decode cL_law 2648 = .ok (.iaload, 1) := by decide +kernel
theorem dL_law_2649 : decode cL_law 2649 = .ok (.aload_n 3, 1) := by decide +kernel
theorem dL_law_2650 : decode cL_law 2650 = .ok (.invokestatic 320, 3) := by decide +kernel
theorem dL_law_2653 : decode cL_law 2653 = .ok (.istore 6, 2) := by decide +kernel
theorem dL_law_2655 : decode cL_law 2655 = .ok (.aload_n 2, 1) := by decide +kernel
theorem dL_law_2656 : decode cL_law 2656 = .ok (.aload_n 0, 1) := by decide +kernel
theorem dL_law_2657 : decode cL_law 2657 = .ok (.iload 5, 2) := by decide +kernel
theorem dL_law_2659 : decode cL_law 2659 = .ok (.iconst 1, 1) := by decide +kernel
theorem dL_law_2660 : decode cL_law 2660 = .ok (.iadd, 1) := by decide +kernel
theorem dL_law_2661 : decode cL_law 2661 = .ok (.iaload, 1) := by decide +kernel
theorem dL_law_2662 : decode cL_law 2662 = .ok (.invokevirtual 322, 3) := by decide +kernel
theorem dL_law_2665 : decode cL_law 2665 = .ok (.istore 7, 2) := by decide +kernel
theorem dL_law_2667 : decode cL_law 2667 = .ok (.aload_n 2, 1) := by decide +kernel
theorem dL_law_2668 : decode cL_law 2668 = .ok (.invokevirtual 196, 3) := by decide +kernel
theorem dL_law_2671 : decode cL_law 2671 = .ok (.iload 6, 2) := by decide +kernel
theorem dL_law_2673 : decode cL_law 2673 = .ok (.if_icmp .eq 5, 3) := by decide +kernel
theorem dL_law_2676 : decode cL_law 2676 = .ok (.iconst 0, 1) := by decide +kernel
theorem dL_law_2677 : decode cL_law 2677 = .ok (.ireturn, 1) := by decide +kernel
theorem dL_law_2678 : decode cL_law 2678 = .ok (.iload 6, 2) := by decide +kernel
theorem dL_law_2680 : decode cL_law 2680 = .ok (.ifCond .ne 15, 3) := by decide +kernel
theorem dL_law_2683 : decode cL_law 2683 = .ok (.aload_n 3, 1) := by decide +kernel
theorem dL_law_2684 : decode cL_law 2684 = .ok (.iconst 0, 1) := by decide +kernel
theorem dL_law_2685 : decode cL_law 2685 = .ok (.laload, 1) := by decide +kernel
theorem dL_law_2686 : decode cL_law 2686 = .ok (.iload 7, 2) := by decide +kernel
theorem dL_law_2688 : decode cL_law 2688 = .ok (.i2l, 1) := by decide +kernel
theorem dL_law_2689 : decode cL_law 2689 = .ok (.lcmp, 1) := by decide +kernel
theorem dL_law_2690 : decode cL_law 2690 = .ok (.ifCond .eq 5, 3) := by decide +kernel
theorem dL_law_2693 : decode cL_law 2693 = .ok (.iconst 0, 1) := by decide +kernel
theorem dL_law_2694 : decode cL_law 2694 = .ok (.ireturn, 1) := by decide +kernel
theorem dL_law_2695 : decode cL_law 2695 = .ok (.goto 860, 3) := by decide +kernel
theorem dL_law_2698 : decode cL_law 2698 = .ok (.aload_n 1, 1) := by decide +kernel
theorem dL_law_2699 : decode cL_law 2699 = .ok (.invokevirtual 323, 3) := by decide +kernel
theorem dL_law_2702 : decode cL_law 2702 = .ok (.aload_n 2, 1) := by decide +kernel
theorem dL_law_2703 : decode cL_law 2703 = .ok (.invokevirtual 326, 3) := by decide +kernel
theorem dL_law_2706 : decode cL_law 2706 = .ok (.if_icmp .eq 849, 3) := by decide +kernel
theorem dL_law_2709 : decode cL_law 2709 = .ok (.iconst 0, 1) := by decide +kernel
theorem dL_law_2710 : decode cL_law 2710 = .ok (.ireturn, 1) := by decide +kernel
theorem dL_law_2711 : decode cL_law 2711 = .ok (.aload_n 1, 1) := by decide +kernel
theorem dL_law_2712 : decode cL_law 2712 = .ok (.invokevirtual 327, 3) := by decide +kernel
theorem dL_law_2715 : decode cL_law 2715 = .ok (.aload_n 2, 1) := by decide +kernel
theorem dL_law_2716 : decode cL_law 2716 = .ok (.invokevirtual 330, 3) := by decide +kernel
theorem dL_law_2719 : decode cL_law 2719 = .ok (.if_icmp .eq 836, 3) := by decide +kernel
theorem dL_law_2722 : decode cL_law 2722 = .ok (.iconst 0, 1) := by decide +kernel
theorem dL_law_2723 : decode cL_law 2723 = .ok (.ireturn, 1) := by decide +kernel
theorem dL_law_2724 : decode cL_law 2724 = .ok (.aload_n 1, 1) := by decide +kernel
theorem dL_law_2725 : decode cL_law 2725 = .ok (.aload_n 0, 1) := by decide +kernel
theorem dL_law_2726 : decode cL_law 2726 = .ok (.iload 5, 2) := by decide +kernel
theorem dL_law_2728 : decode cL_law 2728 = .ok (.iconst 1, 1) := by decide +kernel
theorem dL_law_2729 : decode cL_law 2729 = .ok (.iadd, 1) := by decide +kernel
theorem dL_law_2730 : decode cL_law 2730 = .ok (.iaload, 1) := by decide +kernel
theorem dL_law_2731 : decode cL_law 2731 = .ok (.aload_n 3, 1) := by decide +kernel
theorem dL_law_2732 : decode cL_law 2732 = .ok (.invokestatic 331, 3) := by decide +kernel
theorem dL_law_2735 : decode cL_law 2735 = .ok (.istore 6, 2) := by decide +kernel
theorem dL_law_2737 : decode cL_law 2737 = .ok (.aload_n 2, 1) := by decide +kernel
theorem dL_law_2738 : decode cL_law 2738 = .ok (.aload_n 0, 1) := by decide +kernel
theorem dL_law_2739 : decode cL_law 2739 = .ok (.iload 5, 2) := by decide +kernel
theorem dL_law_2741 : decode cL_law 2741 = .ok (.iconst 1, 1) := by decide +kernel
theorem dL_law_2742 : decode cL_law 2742 = .ok (.iadd, 1) := by decide +kernel
theorem dL_law_2743 : decode cL_law 2743 = .ok (.iaload, 1) := by decide +kernel
theorem dL_law_2744 : decode cL_law 2744 = .ok (.invokevirtual 333, 3) := by decide +kernel
theorem dL_law_2747 : decode cL_law 2747 = .ok (.istore 7, 2) := by decide +kernel
theorem dL_law_2749 : decode cL_law 2749 = .ok (.aload_n 2, 1) := by decide +kernel
theorem dL_law_2750 : decode cL_law 2750 = .ok (.invokevirtual 196, 3) := by decide +kernel
theorem dL_law_2753 : decode cL_law 2753 = .ok (.iload 6, 2) := by decide +kernel
theorem dL_law_2755 : decode cL_law 2755 = .ok (.if_icmp .eq 5, 3) := by decide +kernel
theorem dL_law_2758 : decode cL_law 2758 = .ok (.iconst 0, 1) := by decide +kernel
theorem dL_law_2759 : decode cL_law 2759 = .ok (.ireturn, 1) := by decide +kernel
theorem dL_law_2760 : decode cL_law 2760 = .ok (.iload 6, 2) := by decide +kernel
theorem dL_law_2762 : decode cL_law 2762 = .ok (.ifCond .ne 15, 3) := by decide +kernel
theorem dL_law_2765 : decode cL_law 2765 = .ok (.aload_n 3, 1) := by decide +kernel
theorem dL_law_2766 : decode cL_law 2766 = .ok (.iconst 0, 1) := by decide +kernel
theorem dL_law_2767 : decode cL_law 2767 = .ok (.laload, 1) := by decide +kernel
theorem dL_law_2768 : decode cL_law 2768 = .ok (.iload 7, 2) := by decide +kernel
theorem dL_law_2770 : decode cL_law 2770 = .ok (.i2l, 1) := by decide +kernel
theorem dL_law_2771 : decode cL_law 2771 = .ok (.lcmp, 1) := by decide +kernel
theorem dL_law_2772 : decode cL_law 2772 = .ok (.ifCond .eq 5, 3) := by decide +kernel
theorem dL_law_2775 : decode cL_law 2775 = .ok (.iconst 0, 1) := by decide +kernel
theorem dL_law_2776 : decode cL_law 2776 = .ok (.ireturn, 1) := by decide +kernel
theorem dL_law_2777 : decode cL_law 2777 = .ok (.goto 778, 3) := by decide +kernel
theorem dL_law_2780 : decode cL_law 2780 = .ok (.aload_n 1, 1) := by decide +kernel
theorem dL_law_2781 : decode cL_law 2781 = .ok (.aload_n 0, 1) := by decide +kernel
theorem dL_law_2782 : decode cL_law 2782 = .ok (.iload 5, 2) := by decide +kernel
theorem dL_law_2784 : decode cL_law 2784 = .ok (.iconst 1, 1) := by decide +kernel
theorem dL_law_2785 : decode cL_law 2785 = .ok (.iadd, 1) := by decide +kernel
theorem dL_law_2786 : decode cL_law 2786 = .ok (.iaload, 1) := by decide +kernel
theorem dL_law_2787 : decode cL_law 2787 = .ok (.aload_n 3, 1) := by decide +kernel
theorem dL_law_2788 : decode cL_law 2788 = .ok (.invokestatic 334, 3) := by decide +kernel
theorem dL_law_2791 : decode cL_law 2791 = .ok (.istore 6, 2) := by decide +kernel
theorem dL_law_2793 : decode cL_law 2793 = .ok (.aload_n 2, 1) := by decide +kernel
theorem dL_law_2794 : decode cL_law 2794 = .ok (.aload_n 0, 1) := by decide +kernel
theorem dL_law_2795 : decode cL_law 2795 = .ok (.iload 5, 2) := by decide +kernel
theorem dL_law_2797 : decode cL_law 2797 = .ok (.iconst 1, 1) := by decide +kernel
theorem dL_law_2798 : decode cL_law 2798 = .ok (.iadd, 1) := by decide +kernel
theorem dL_law_2799 : decode cL_law 2799 = .ok (.iaload, 1) := by decide +kernel
theorem dL_law_2800 : decode cL_law 2800 = .ok (.invokevirtual 336, 3) := by decide +kernel
theorem dL_law_2803 : decode cL_law 2803 = .ok (.istore 7, 2) := by decide +kernel
theorem dL_law_2805 : decode cL_law 2805 = .ok (.aload_n 2, 1) := by decide +kernel
theorem dL_law_2806 : decode cL_law 2806 = .ok (.invokevirtual 196, 3) := by decide +kernel
theorem dL_law_2809 : decode cL_law 2809 = .ok (.iload 6, 2) := by decide +kernel
theorem dL_law_2811 : decode cL_law 2811 = .ok (.if_icmp .eq 5, 3) := by decide +kernel
theorem dL_law_2814 : decode cL_law 2814 = .ok (.iconst 0, 1) := by decide +kernel
theorem dL_law_2815 : decode cL_law 2815 = .ok (.ireturn, 1) := by decide +kernel
theorem dL_law_2816 : decode cL_law 2816 = .ok (.iload 6, 2) := by decide +kernel
theorem dL_law_2818 : decode cL_law 2818 = .ok (.ifCond .ne 15, 3) := by decide +kernel
theorem dL_law_2821 : decode cL_law 2821 = .ok (.aload_n 3, 1) := by decide +kernel
theorem dL_law_2822 : decode cL_law 2822 = .ok (.iconst 0, 1) := by decide +kernel
theorem dL_law_2823 : decode cL_law 2823 = .ok (.laload, 1) := by decide +kernel
theorem dL_law_2824 : decode cL_law 2824 = .ok (.iload 7, 2) := by decide +kernel
theorem dL_law_2826 : decode cL_law 2826 = .ok (.i2l, 1) := by decide +kernel
theorem dL_law_2827 : decode cL_law 2827 = .ok (.lcmp, 1) := by decide +kernel
theorem dL_law_2828 : decode cL_law 2828 = .ok (.ifCond .eq 5, 3) := by decide +kernel
theorem dL_law_2831 : decode cL_law 2831 = .ok (.iconst 0, 1) := by decide +kernel
theorem dL_law_2832 : decode cL_law 2832 = .ok (.ireturn, 1) := by decide +kernel
theorem dL_law_2833 : decode cL_law 2833 = .ok (.goto 722, 3) := by decide +kernel
theorem dL_law_2836 : decode cL_law 2836 = .ok (.aload_n 1, 1) := by decide +kernel
theorem dL_law_2837 : decode cL_law 2837 = .ok (.invokevirtual 337, 3) := by decide +kernel
theorem dL_law_2840 : decode cL_law 2840 = .ok (.aload_n 2, 1) := by decide +kernel
theorem dL_law_2841 : decode cL_law 2841 = .ok (.invokevirtual 340, 3) := by decide +kernel
theorem dL_law_2844 : decode cL_law 2844 = .ok (.if_icmp .eq 711, 3) := by decide +kernel
theorem dL_law_2847 : decode cL_law 2847 = .ok (.iconst 0, 1) := by decide +kernel
theorem dL_law_2848 : decode cL_law 2848 = .ok (.ireturn, 1) := by decide +kernel
theorem dL_law_2849 : decode cL_law 2849 = .ok (.aload_n 1, 1) := by decide +kernel
theorem dL_law_2850 : decode cL_law 2850 = .ok (.invokevirtual 341, 3) := by decide +kernel
theorem dL_law_2853 : decode cL_law 2853 = .ok (.aload_n 2, 1) := by decide +kernel
theorem dL_law_2854 : decode cL_law 2854 = .ok (.invokevirtual 344, 3) := by decide +kernel
theorem dL_law_2857 : decode cL_law 2857 = .ok (.if_icmp .eq 698, 3) := by decide +kernel
theorem dL_law_2860 : decode cL_law 2860 = .ok (.iconst 0, 1) := by decide +kernel
theorem dL_law_2861 : decode cL_law 2861 = .ok (.ireturn, 1) := by decide +kernel
theorem dL_law_2862 : decode cL_law 2862 = .ok (.aload_n 1, 1) := by decide +kernel
theorem dL_law_2863 : decode cL_law 2863 = .ok (.invokevirtual 345, 3) := by decide +kernel
theorem dL_law_2866 : decode cL_law 2866 = .ok (.aload_n 2, 1) := by decide +kernel
theorem dL_law_2867 : decode cL_law 2867 = .ok (.invokevirtual 348, 3) := by decide +kernel
theorem dL_law_2870 : decode cL_law 2870 = .ok (.if_icmp .eq 685, 3) := by decide +kernel
theorem dL_law_2873 : decode cL_law 2873 = .ok (.iconst 0, 1) := by decide +kernel
theorem dL_law_2874 : decode cL_law 2874 = .ok (.ireturn, 1) := by decide +kernel
theorem dL_law_2875 : decode cL_law 2875 = .ok (.aload_n 1, 1) := by decide +kernel
theorem dL_law_2876 : decode cL_law 2876 = .ok (.invokevirtual 349, 3) := by decide +kernel
theorem dL_law_2879 : decode cL_law 2879 = .ok (.aload_n 2, 1) := by decide +kernel
theorem dL_law_2880 : decode cL_law 2880 = .ok (.invokevirtual 352, 3) := by decide +kernel
theorem dL_law_2883 : decode cL_law 2883 = .ok (.if_icmp .eq 672, 3) := by decide +kernel
theorem dL_law_2886 : decode cL_law 2886 = .ok (.iconst 0, 1) := by decide +kernel
theorem dL_law_2887 : decode cL_law 2887 = .ok (.ireturn, 1) := by decide +kernel
theorem dL_law_2888 : decode cL_law 2888 = .ok (.aload_n 1, 1) := by decide +kernel
theorem dL_law_2889 : decode cL_law 2889 = .ok (.aload 4, 2) := by decide +kernel
theorem dL_law_2891 : decode cL_law 2891 = .ok (.invokestatic 353, 3) := by decide +kernel
theorem dL_law_2894 : decode cL_law 2894 = .ok (.istore 6, 2) := by decide +kernel
theorem dL_law_2896 : decode cL_law 2896 = .ok (.aload_n 2, 1) := by decide +kernel
theorem dL_law_2897 : decode cL_law 2897 = .ok (.invokevirtual 356, 3) := by decide +kernel
theorem dL_law_2900 : decode cL_law 2900 = .ok (.dstore 7, 2) := by decide +kernel
theorem dL_law_2902 : decode cL_law 2902 = .ok (.aload_n 2, 1) := by decide +kernel
theorem dL_law_2903 : decode cL_law 2903 = .ok (.invokevirtual 196, 3) := by decide +kernel
theorem dL_law_2906 : decode cL_law 2906 = .ok (.iload 6, 2) := by decide +kernel
theorem dL_law_2908 : decode cL_law 2908 = .ok (.if_icmp .eq 5, 3) := by decide +kernel
theorem dL_law_2911 : decode cL_law 2911 = .ok (.iconst 0, 1) := by decide +kernel
theorem dL_law_2912 : decode cL_law 2912 = .ok (.ireturn, 1) := by decide +kernel
theorem dL_law_2913 : decode cL_law 2913 = .ok (.iload 6, 2) := by decide +kernel
theorem dL_law_2915 : decode cL_law 2915 = .ok (.ifCond .ne 35, 3) := by decide +kernel
theorem dL_law_2918 : decode cL_law 2918 = .ok (.aload 4, 2) := by decide +kernel
theorem dL_law_2920 : decode cL_law 2920 = .ok (.iconst 0, 1) := by decide +kernel
theorem dL_law_2921 : decode cL_law 2921 = .ok (.daload, 1) := by decide +kernel
theorem dL_law_2922 : decode cL_law 2922 = .ok (.dload 7, 2) := by decide +kernel
theorem dL_law_2924 : decode cL_law 2924 = .ok (.dcmp .l, 1) := by decide +kernel
theorem dL_law_2925 : decode cL_law 2925 = .ok (.ifCond .eq 25, 3) := by decide +kernel
theorem dL_law_2928 : decode cL_law 2928 = .ok (.aload 4, 2) := by decide +kernel
theorem dL_law_2930 : decode cL_law 2930 = .ok (.iconst 0, 1) := by decide +kernel
theorem dL_law_2931 : decode cL_law 2931 = .ok (.daload, 1) := by decide +kernel
theorem dL_law_2932 : decode cL_law 2932 = .ok (.aload 4, 2) := by decide +kernel
theorem dL_law_2934 : decode cL_law 2934 = .ok (.iconst 0, 1) := by decide +kernel
theorem dL_law_2935 : decode cL_law 2935 = .ok (.daload, 1) := by decide +kernel
theorem dL_law_2936 : decode cL_law 2936 = .ok (.dcmp .l, 1) := by decide +kernel
theorem dL_law_2937 : decode cL_law 2937 = .ok (.ifCond .eq 11, 3) := by decide +kernel
theorem dL_law_2940 : decode cL_law 2940 = .ok (.dload 7, 2) := by decide +kernel
theorem dL_law_2942 : decode cL_law 2942 = .ok (.dload 7, 2) := by decide +kernel
theorem dL_law_2944 : decode cL_law 2944 = .ok (.dcmp .l, 1) := by decide +kernel
theorem dL_law_2945 : decode cL_law 2945 = .ok (.ifCond .ne 5, 3) := by decide +kernel
theorem dL_law_2948 : decode cL_law 2948 = .ok (.iconst 0, 1) := by decide +kernel
theorem dL_law_2949 : decode cL_law 2949 = .ok (.ireturn, 1) := by decide +kernel
theorem dL_law_2950 : decode cL_law 2950 = .ok (.goto 605, 3) := by decide +kernel
theorem dL_law_2953 : decode cL_law 2953 = .ok (.aload_n 1, 1) := by decide +kernel
theorem dL_law_2954 : decode cL_law 2954 = .ok (.aload 4, 2) := by decide +kernel
theorem dL_law_2956 : decode cL_law 2956 = .ok (.invokestatic 357, 3) := by decide +kernel
theorem dL_law_2959 : decode cL_law 2959 = .ok (.istore 6, 2) := by decide +kernel
theorem dL_law_2961 : decode cL_law 2961 = .ok (.aload_n 2, 1) := by decide +kernel
theorem dL_law_2962 : decode cL_law 2962 = .ok (.invokevirtual 359, 3) := by decide +kernel
theorem dL_law_2965 : decode cL_law 2965 = .ok (.fstore 7, 2) := by decide +kernel
theorem dL_law_2967 : decode cL_law 2967 = .ok (.aload_n 2, 1) := by decide +kernel
theorem dL_law_2968 : decode cL_law 2968 = .ok (.invokevirtual 196, 3) := by decide +kernel
theorem dL_law_2971 : decode cL_law 2971 = .ok (.iload 6, 2) := by decide +kernel
theorem dL_law_2973 : decode cL_law 2973 = .ok (.if_icmp .eq 5, 3) := by decide +kernel
theorem dL_law_2976 : decode cL_law 2976 = .ok (.iconst 0, 1) := by decide +kernel
theorem dL_law_2977 : decode cL_law 2977 = .ok (.ireturn, 1) := by decide +kernel
theorem dL_law_2978 : decode cL_law 2978 = .ok (.iload 6, 2) := by decide +kernel
theorem dL_law_2980 : decode cL_law 2980 = .ok (.ifCond .ne 36, 3) := by decide +kernel
theorem dL_law_2983 : decode cL_law 2983 = .ok (.aload 4, 2) := by decide +kernel
theorem dL_law_2985 : decode cL_law 2985 = .ok (.iconst 0, 1) := by decide +kernel
theorem dL_law_2986 : decode cL_law 2986 = .ok (.daload, 1) := by decide +kernel
theorem dL_law_2987 : decode cL_law 2987 = .ok (.fload 7, 2) := by decide +kernel
theorem dL_law_2989 : decode cL_law 2989 = .ok (.f2d, 1) := by decide +kernel
theorem dL_law_2990 : decode cL_law 2990 = .ok (.dcmp .l, 1) := by decide +kernel
theorem dL_law_2991 : decode cL_law 2991 = .ok (.ifCond .eq 25, 3) := by decide +kernel
theorem dL_law_2994 : decode cL_law 2994 = .ok (.aload 4, 2) := by decide +kernel
theorem dL_law_2996 : decode cL_law 2996 = .ok (.iconst 0, 1) := by decide +kernel
theorem dL_law_2997 : decode cL_law 2997 = .ok (.daload, 1) := by decide +kernel
theorem dL_law_2998 : decode cL_law 2998 = .ok (.aload 4, 2) := by decide +kernel
theorem dL_law_3000 : decode cL_law 3000 = .ok (.iconst 0, 1) := by decide +kernel
theorem dL_law_3001 : decode cL_law 3001 = .ok (.daload, 1) := by decide +kernel
theorem dL_law_3002 : decode cL_law 3002 = .ok (.dcmp .l, 1) := by decide +kernel
theorem dL_law_3003 : decode cL_law 3003 = .ok (.ifCond .eq 11, 3) := by decide +kernel
theorem dL_law_3006 : decode cL_law 3006 = .ok (.fload 7, 2) := by decide +kernel
theorem dL_law_3008 : decode cL_law 3008 = .ok (.fload 7, 2) := by decide +kernel
theorem dL_law_3010 : decode cL_law 3010 = .ok (.fcmp .l, 1) := by decide +kernel
theorem dL_law_3011 : decode cL_law 3011 = .ok (.ifCond .ne 5, 3) := by decide +kernel
theorem dL_law_3014 : decode cL_law 3014 = .ok (.iconst 0, 1) := by decide +kernel
theorem dL_law_3015 : decode cL_law 3015 = .ok (.ireturn, 1) := by decide +kernel
theorem dL_law_3016 : decode cL_law 3016 = .ok (.goto 539, 3) := by decide +kernel
theorem dL_law_3019 : decode cL_law 3019 = .ok (.aload_n 1, 1) := by decide +kernel
theorem dL_law_3020 : decode cL_law 3020 = .ok (.invokevirtual 360, 3) := by decide +kernel
theorem dL_law_3023 : decode cL_law 3023 = .ok (.aload_n 2, 1) := by decide +kernel
theorem dL_law_3024 : decode cL_law 3024 = .ok (.invokevirtual 363, 3) := by decide +kernel
theorem dL_law_3027 : decode cL_law 3027 = .ok (.if_icmp .eq 528, 3) := by decide +kernel
theorem dL_law_3030 : decode cL_law 3030 = .ok (.iconst 0, 1) := by decide +kernel
theorem dL_law_3031 : decode cL_law 3031 = .ok (.ireturn, 1) := by decide +kernel
theorem dL_law_3032 : decode cL_law 3032 = .ok (.aload_n 1, 1) := by decide +kernel
theorem dL_law_3033 : decode cL_law 3033 = .ok (.aload_n 0, 1) := by decide +kernel
theorem dL_law_3034 : decode cL_law 3034 = .ok (.iload 5, 2) := by decide +kernel
theorem dL_law_3036 : decode cL_law 3036 = .ok (.iconst 1, 1) := by decide +kernel
theorem dL_law_3037 : decode cL_law 3037 = .ok (.iadd, 1) := by decide +kernel
theorem dL_law_3038 : decode cL_law 3038 = .ok (.iaload, 1) := by decide +kernel
theorem dL_law_3039 : decode cL_law 3039 = .ok (.aload_n 3, 1) := by decide +kernel
theorem dL_law_3040 : decode cL_law 3040 = .ok (.invokestatic 364, 3) := by decide +kernel
theorem dL_law_3043 : decode cL_law 3043 = .ok (.istore 6, 2) := by decide +kernel
theorem dL_law_3045 : decode cL_law 3045 = .ok (.aload_n 2, 1) := by decide +kernel
theorem dL_law_3046 : decode cL_law 3046 = .ok (.aload_n 0, 1) := by decide +kernel
theorem dL_law_3047 : decode cL_law 3047 = .ok (.iload 5, 2) := by decide +kernel
theorem dL_law_3049 : decode cL_law 3049 = .ok (.iconst 1, 1) := by decide +kernel
theorem dL_law_3050 : decode cL_law 3050 = .ok (.iadd, 1) := by decide +kernel
theorem dL_law_3051 : decode cL_law 3051 = .ok (.iaload, 1) := by decide +kernel
theorem dL_law_3052 : decode cL_law 3052 = .ok (.invokevirtual 366, 3) := by decide +kernel
theorem dL_law_3055 : decode cL_law 3055 = .ok (.istore 7, 2) := by decide +kernel
theorem dL_law_3057 : decode cL_law 3057 = .ok (.aload_n 2, 1) := by decide +kernel
theorem dL_law_3058 : decode cL_law 3058 = .ok (.invokevirtual 196, 3) := by decide +kernel
theorem dL_law_3061 : decode cL_law 3061 = .ok (.iload 6, 2) := by decide +kernel
theorem dL_law_3063 : decode cL_law 3063 = .ok (.if_icmp .eq 5, 3) := by decide +kernel
theorem dL_law_3066 : decode cL_law 3066 = .ok (.iconst 0, 1) := by decide +kernel
theorem dL_law_3067 : decode cL_law 3067 = .ok (.ireturn, 1) := by decide +kernel
theorem dL_law_3068 : decode cL_law 3068 = .ok (.iload 6, 2) := by decide +kernel
theorem dL_law_3070 : decode cL_law 3070 = .ok (.ifCond .ne 15, 3) := by decide +kernel
theorem dL_law_3073 : decode cL_law 3073 = .ok (.aload_n 3, 1) := by decide +kernel
theorem dL_law_3074 : decode cL_law 3074 = .ok (.iconst 0, 1) := by decide +kernel
theorem dL_law_3075 : decode cL_law 3075 = .ok (.laload, 1) := by decide +kernel
theorem dL_law_3076 : decode cL_law 3076 = .ok (.iload 7, 2) := by decide +kernel
theorem dL_law_3078 : decode cL_law 3078 = .ok (.i2l, 1) := by decide +kernel
theorem dL_law_3079 : decode cL_law 3079 = .ok (.lcmp, 1) := by decide +kernel
theorem dL_law_3080 : decode cL_law 3080 = .ok (.ifCond .eq 5, 3) := by decide +kernel
theorem dL_law_3083 : decode cL_law 3083 = .ok (.iconst 0, 1) := by decide +kernel
theorem dL_law_3084 : decode cL_law 3084 = .ok (.ireturn, 1) := by decide +kernel
theorem dL_law_3085 : decode cL_law 3085 = .ok (.goto 470, 3) := by decide +kernel
theorem dL_law_3088 : decode cL_law 3088 = .ok (.aload_n 1, 1) := by decide +kernel
theorem dL_law_3089 : decode cL_law 3089 = .ok (.aload_n 0, 1) := by decide +kernel
theorem dL_law_3090 : decode cL_law 3090 = .ok (.iload 5, 2) := by decide +kernel
theorem dL_law_3092 : decode cL_law 3092 = .ok (.iconst 1, 1) := by decide +kernel
theorem dL_law_3093 : decode cL_law 3093 = .ok (.iadd, 1) := by decide +kernel
theorem dL_law_3094 : decode cL_law 3094 = .ok (.iaload, 1) := by decide +kernel
theorem dL_law_3095 : decode cL_law 3095 = .ok (.aload_n 3, 1) := by decide +kernel
theorem dL_law_3096 : decode cL_law 3096 = .ok (.invokestatic 367, 3) := by decide +kernel
theorem dL_law_3099 : decode cL_law 3099 = .ok (.istore 6, 2) := by decide +kernel
theorem dL_law_3101 : decode cL_law 3101 = .ok (.aload_n 2, 1) := by decide +kernel
theorem dL_law_3102 : decode cL_law 3102 = .ok (.aload_n 0, 1) := by decide +kernel
theorem dL_law_3103 : decode cL_law 3103 = .ok (.iload 5, 2) := by decide +kernel
theorem dL_law_3105 : decode cL_law 3105 = .ok (.iconst 1, 1) := by decide +kernel
theorem dL_law_3106 : decode cL_law 3106 = .ok (.iadd, 1) := by decide +kernel
theorem dL_law_3107 : decode cL_law 3107 = .ok (.iaload, 1) := by decide +kernel
theorem dL_law_3108 : decode cL_law 3108 = .ok (.invokevirtual 369, 3) := by decide +kernel
theorem dL_law_3111 : decode cL_law 3111 = .ok (.istore 7, 2) := by decide +kernel
theorem dL_law_3113 : decode cL_law 3113 = .ok (.aload_n 2, 1) := by decide +kernel
theorem dL_law_3114 : decode cL_law 3114 = .ok (.invokevirtual 196, 3) := by decide +kernel
theorem dL_law_3117 : decode cL_law 3117 = .ok (.iload 6, 2) := by decide +kernel
theorem dL_law_3119 : decode cL_law 3119 = .ok (.if_icmp .eq 5, 3) := by decide +kernel
theorem dL_law_3122 : decode cL_law 3122 = .ok (.iconst 0, 1) := by decide +kernel
theorem dL_law_3123 : decode cL_law 3123 = .ok (.ireturn, 1) := by decide +kernel
theorem dL_law_3124 : decode cL_law 3124 = .ok (.iload 6, 2) := by decide +kernel
theorem dL_law_3126 : decode cL_law 3126 = .ok (.ifCond .ne 15, 3) := by decide +kernel
theorem dL_law_3129 : decode cL_law 3129 = .ok (.aload_n 3, 1) := by decide +kernel
theorem dL_law_3130 : decode cL_law 3130 = .ok (.iconst 0, 1) := by decide +kernel
theorem dL_law_3131 : decode cL_law 3131 = .ok (.laload, 1) := by decide +kernel
theorem dL_law_3132 : decode cL_law 3132 = .ok (.iload 7, 2) := by decide +kernel
theorem dL_law_3134 : decode cL_law 3134 = .ok (.i2l, 1) := by decide +kernel
theorem dL_law_3135 : decode cL_law 3135 = .ok (.lcmp, 1) := by decide +kernel
theorem dL_law_3136 : decode cL_law 3136 = .ok (.ifCond .eq 5, 3) := by decide +kernel
theorem dL_law_3139 : decode cL_law 3139 = .ok (.iconst 0, 1) := by decide +kernel
theorem dL_law_3140 : decode cL_law 3140 = .ok (.ireturn, 1) := by decide +kernel
theorem dL_law_3141 : decode cL_law 3141 = .ok (.goto 414, 3) := by decide +kernel
theorem dL_law_3144 : decode cL_law 3144 = .ok (.aload_n 1, 1) := by decide +kernel
theorem dL_law_3145 : decode cL_law 3145 = .ok (.aload_n 0, 1) := by decide +kernel
theorem dL_law_3146 : decode cL_law 3146 = .ok (.iload 5, 2) := by decide +kernel
theorem dL_law_3148 : decode cL_law 3148 = .ok (.iconst 1, 1) := by decide +kernel
theorem dL_law_3149 : decode cL_law 3149 = .ok (.iadd, 1) := by decide +kernel
theorem dL_law_3150 : decode cL_law 3150 = .ok (.iaload, 1) := by decide +kernel
theorem dL_law_3151 : decode cL_law 3151 = .ok (.aload_n 3, 1) := by decide +kernel
theorem dL_law_3152 : decode cL_law 3152 = .ok (.invokestatic 370, 3) := by decide +kernel
theorem dL_law_3155 : decode cL_law 3155 = .ok (.istore 6, 2) := by decide +kernel
theorem dL_law_3157 : decode cL_law 3157 = .ok (.aload_n 2, 1) := by decide +kernel
theorem dL_law_3158 : decode cL_law 3158 = .ok (.aload_n 0, 1) := by decide +kernel
theorem dL_law_3159 : decode cL_law 3159 = .ok (.iload 5, 2) := by decide +kernel
theorem dL_law_3161 : decode cL_law 3161 = .ok (.iconst 1, 1) := by decide +kernel
theorem dL_law_3162 : decode cL_law 3162 = .ok (.iadd, 1) := by decide +kernel
theorem dL_law_3163 : decode cL_law 3163 = .ok (.iaload, 1) := by decide +kernel
theorem dL_law_3164 : decode cL_law 3164 = .ok (.invokevirtual 372, 3) := by decide +kernel
theorem dL_law_3167 : decode cL_law 3167 = .ok (.istore 7, 2) := by decide +kernel
theorem dL_law_3169 : decode cL_law 3169 = .ok (.aload_n 2, 1) := by decide +kernel
theorem dL_law_3170 : decode cL_law 3170 = .ok (.invokevirtual 196, 3) := by decide +kernel
theorem dL_law_3173 : decode cL_law 3173 = .ok (.iload 6, 2) := by decide +kernel
theorem dL_law_3175 : decode cL_law 3175 = .ok (.if_icmp .eq 5, 3) := by decide +kernel
theorem dL_law_3178 : decode cL_law 3178 = .ok (.iconst 0, 1) := by decide +kernel
theorem dL_law_3179 : decode cL_law 3179 = .ok (.ireturn, 1) := by decide +kernel
theorem dL_law_3180 : decode cL_law 3180 = .ok (.iload 6, 2) := by decide +kernel
theorem dL_law_3182 : decode cL_law 3182 = .ok (.ifCond .ne 15, 3) := by decide +kernel
theorem dL_law_3185 : decode cL_law 3185 = .ok (.aload_n 3, 1) := by decide +kernel
theorem dL_law_3186 : decode cL_law 3186 = .ok (.iconst 0, 1) := by decide +kernel
theorem dL_law_3187 : decode cL_law 3187 = .ok (.laload, 1) := by decide +kernel
theorem dL_law_3188 : decode cL_law 3188 = .ok (.iload 7, 2) := by decide +kernel
theorem dL_law_3190 : decode cL_law 3190 = .ok (.i2l, 1) := by decide +kernel
theorem dL_law_3191 : decode cL_law 3191 = .ok (.lcmp, 1) := by decide +kernel
theorem dL_law_3192 : decode cL_law 3192 = .ok (.ifCond .eq 5, 3) := by decide +kernel
theorem dL_law_3195 : decode cL_law 3195 = .ok (.iconst 0, 1) := by decide +kernel
theorem dL_law_3196 : decode cL_law 3196 = .ok (.ireturn, 1) := by decide +kernel
theorem dL_law_3197 : decode cL_law 3197 = .ok (.goto 358, 3) := by decide +kernel
theorem dL_law_3200 : decode cL_law 3200 = .ok (.aload_n 1, 1) := by decide +kernel
theorem dL_law_3201 : decode cL_law 3201 = .ok (.aload_n 0, 1) := by decide +kernel
theorem dL_law_3202 : decode cL_law 3202 = .ok (.iload 5, 2) := by decide +kernel
theorem dL_law_3204 : decode cL_law 3204 = .ok (.iconst 1, 1) := by decide +kernel
theorem dL_law_3205 : decode cL_law 3205 = .ok (.iadd, 1) := by decide +kernel
theorem dL_law_3206 : decode cL_law 3206 = .ok (.iaload, 1) := by decide +kernel
theorem dL_law_3207 : decode cL_law 3207 = .ok (.i2c, 1) := by decide +kernel
theorem dL_law_3208 : decode cL_law 3208 = .ok (.aload_n 3, 1) := by decide +kernel
theorem dL_law_3209 : decode cL_law 3209 = .ok (.invokestatic 373, 3) := by decide +kernel
theorem dL_law_3212 : decode cL_law 3212 = .ok (.istore 6, 2) := by decide +kernel
theorem dL_law_3214 : decode cL_law 3214 = .ok (.aload_n 2, 1) := by decide +kernel
theorem dL_law_3215 : decode cL_law 3215 = .ok (.aload_n 0, 1) := by decide +kernel
theorem dL_law_3216 : decode cL_law 3216 = .ok (.iload 5, 2) := by decide +kernel
theorem dL_law_3218 : decode cL_law 3218 = .ok (.iconst 1, 1) := by decide +kernel
theorem dL_law_3219 : decode cL_law 3219 = .ok (.iadd, 1) := by decide +kernel
theorem dL_law_3220 : decode cL_law 3220 = .ok (.iaload, 1) := by decide +kernel
theorem dL_law_3221 : decode cL_law 3221 = .ok (.i2c, 1) := by decide +kernel
theorem dL_law_3222 : decode cL_law 3222 = .ok (.invokevirtual 376, 3) := by decide +kernel
theorem dL_law_3225 : decode cL_law 3225 = .ok (.istore 7, 2) := by decide +kernel
theorem dL_law_3227 : decode cL_law 3227 = .ok (.aload_n 2, 1) := by decide +kernel
theorem dL_law_3228 : decode cL_law 3228 = .ok (.invokevirtual 196, 3) := by decide +kernel
theorem dL_law_3231 : decode cL_law 3231 = .ok (.iload 6, 2) := by decide +kernel
theorem dL_law_3233 : decode cL_law 3233 = .ok (.if_icmp .eq 5, 3) := by decide +kernel
theorem dL_law_3236 : decode cL_law 3236 = .ok (.iconst 0, 1) := by decide +kernel
theorem dL_law_3237 : decode cL_law 3237 = .ok (.ireturn, 1) := by decide +kernel
theorem dL_law_3238 : decode cL_law 3238 = .ok (.iload 6, 2) := by decide +kernel
theorem dL_law_3240 : decode cL_law 3240 = .ok (.ifCond .ne 15, 3) := by decide +kernel
theorem dL_law_3243 : decode cL_law 3243 = .ok (.aload_n 3, 1) := by decide +kernel
theorem dL_law_3244 : decode cL_law 3244 = .ok (.iconst 0, 1) := by decide +kernel
theorem dL_law_3245 : decode cL_law 3245 = .ok (.laload, 1) := by decide +kernel
theorem dL_law_3246 : decode cL_law 3246 = .ok (.iload 7, 2) := by decide +kernel
theorem dL_law_3248 : decode cL_law 3248 = .ok (.i2l, 1) := by decide +kernel
theorem dL_law_3249 : decode cL_law 3249 = .ok (.lcmp, 1) := by decide +kernel
theorem dL_law_3250 : decode cL_law 3250 = .ok (.ifCond .eq 5, 3) := by decide +kernel
theorem dL_law_3253 : decode cL_law 3253 = .ok (.iconst 0, 1) := by decide +kernel
theorem dL_law_3254 : decode cL_law 3254 = .ok (.ireturn, 1) := by decide +kernel
theorem dL_law_3255 : decode cL_law 3255 = .ok (.goto 300, 3) := by decide +kernel
theorem dL_law_3258 : decode cL_law 3258 = .ok (.aload_n 1, 1) := by decide +kernel
theorem dL_law_3259 : decode cL_law 3259 = .ok (.aload_n 3, 1) := by decide +kernel
theorem dL_law_3260 : decode cL_law 3260 = .ok (.invokestatic 377, 3) := by decide +kernel
theorem dL_law_3263 : decode cL_law 3263 = .ok (.istore 6, 2) := by decide +kernel
theorem dL_law_3265 : decode cL_law 3265 = .ok (.aload_n 2, 1) := by decide +kernel
theorem dL_law_3266 : decode cL_law 3266 = .ok (.invokevirtual 379, 3) := by decide +kernel
theorem dL_law_3269 : decode cL_law 3269 = .ok (.istore 7, 2) := by decide +kernel
theorem dL_law_3271 : decode cL_law 3271 = .ok (.aload_n 2, 1) := by decide +kernel
theorem dL_law_3272 : decode cL_law 3272 = .ok (.invokevirtual 196, 3) := by decide +kernel
theorem dL_law_3275 : decode cL_law 3275 = .ok (.iload 6, 2) := by decide +kernel
theorem dL_law_3277 : decode cL_law 3277 = .ok (.if_icmp .eq 5, 3) := by decide +kernel
theorem dL_law_3280 : decode cL_law 3280 = .ok (.iconst 0, 1) := by decide +kernel
theorem dL_law_3281 : decode cL_law 3281 = .ok (.ireturn, 1) := by decide +kernel
theorem dL_law_3282 : decode cL_law 3282 = .ok (.iload 6, 2) := by decide +kernel
theorem dL_law_3284 : decode cL_law 3284 = .ok (.ifCond .ne 15, 3) := by decide +kernel
theorem dL_law_3287 : decode cL_law 3287 = .ok (.aload_n 3, 1) := by decide +kernel
theorem dL_law_3288 : decode cL_law 3288 = .ok (.iconst 0, 1) := by decide +kernel
theorem dL_law_3289 : decode cL_law 3289 = .ok (.laload, 1) := by decide +kernel
theorem dL_law_3290 : decode cL_law 3290 = .ok (.iload 7, 2) := by decide +kernel
theorem dL_law_3292 : decode cL_law 3292 = .ok (.i2l, 1) := by decide +kernel
theorem dL_law_3293 : decode cL_law 3293 = .ok (.lcmp, 1) := by decide +kernel
theorem dL_law_3294 : decode cL_law 3294 = .ok (.ifCond .eq 5, 3) := by decide +kernel
theorem dL_law_3297 : decode cL_law 3297 = .ok (.iconst 0, 1) := by decide +kernel
theorem dL_law_3298 : decode cL_law 3298 = .ok (.ireturn, 1) := by decide +kernel
theorem dL_law_3299 : decode cL_law 3299 = .ok (.goto 256, 3) := by decide +kernel
theorem dL_law_3302 : decode cL_law 3302 = .ok (.aload_n 1, 1) := by decide +kernel
theorem dL_law_3303 : decode cL_law 3303 = .ok (.aload_n 3, 1) := by decide +kernel
theorem dL_law_3304 : decode cL_law 3304 = .ok (.invokestatic 380, 3) := by decide +kernel
theorem dL_law_3307 : decode cL_law 3307 = .ok (.istore 6, 2) := by decide +kernel
theorem dL_law_3309 : decode cL_law 3309 = .ok (.aload_n 2, 1) := by decide +kernel
theorem dL_law_3310 : decode cL_law 3310 = .ok (.invokevirtual 382, 3) := by decide +kernel
theorem dL_law_3313 : decode cL_law 3313 = .ok (.istore 7, 2) := by decide +kernel
theorem dL_law_3315 : decode cL_law 3315 = .ok (.aload_n 2, 1) := by decide +kernel
theorem dL_law_3316 : decode cL_law 3316 = .ok (.invokevirtual 196, 3) := by decide +kernel
theorem dL_law_3319 : decode cL_law 3319 = .ok (.iload 6, 2) := by decide +kernel
theorem dL_law_3321 : decode cL_law 3321 = .ok (.if_icmp .eq 5, 3) := by decide +kernel
theorem dL_law_3324 : decode cL_law 3324 = .ok (.iconst 0, 1) := by decide +kernel
theorem dL_law_3325 : decode cL_law 3325 = .ok (.ireturn, 1) := by decide +kernel
theorem dL_law_3326 : decode cL_law 3326 = .ok (.iload 6, 2) := by decide +kernel
theorem dL_law_3328 : decode cL_law 3328 = .ok (.ifCond .ne 15, 3) := by decide +kernel
theorem dL_law_3331 : decode cL_law 3331 = .ok (.aload_n 3, 1) := by decide +kernel
theorem dL_law_3332 : decode cL_law 3332 = .ok (.iconst 0, 1) := by decide +kernel
theorem dL_law_3333 : decode cL_law 3333 = .ok (.laload, 1) := by decide +kernel
theorem dL_law_3334 : decode cL_law 3334 = .ok (.iload 7, 2) := by decide +kernel
theorem dL_law_3336 : decode cL_law 3336 = .ok (.i2l, 1) := by decide +kernel
theorem dL_law_3337 : decode cL_law 3337 = .ok (.lcmp, 1) := by decide +kernel
theorem dL_law_3338 : decode cL_law 3338 = .ok (.ifCond .eq 5, 3) := by decide +kernel
theorem dL_law_3341 : decode cL_law 3341 = .ok (.iconst 0, 1) := by decide +kernel
theorem dL_law_3342 : decode cL_law 3342 = .ok (.ireturn, 1) := by decide +kernel
theorem dL_law_3343 : decode cL_law 3343 = .ok (.goto 212, 3) := by decide +kernel
theorem dL_law_3346 : decode cL_law 3346 = .ok (.aload_n 1, 1) := by decide +kernel
theorem dL_law_3347 : decode cL_law 3347 = .ok (.aload_n 3, 1) := by decide +kernel
theorem dL_law_3348 : decode cL_law 3348 = .ok (.invokestatic 383, 3) := by decide +kernel
theorem dL_law_3351 : decode cL_law 3351 = .ok (.istore 6, 2) := by decide +kernel
theorem dL_law_3353 : decode cL_law 3353 = .ok (.aload_n 2, 1) := by decide +kernel
theorem dL_law_3354 : decode cL_law 3354 = .ok (.invokevirtual 385, 3) := by decide +kernel
theorem dL_law_3357 : decode cL_law 3357 = .ok (.istore 7, 2) := by decide +kernel
theorem dL_law_3359 : decode cL_law 3359 = .ok (.aload_n 2, 1) := by decide +kernel
theorem dL_law_3360 : decode cL_law 3360 = .ok (.invokevirtual 196, 3) := by decide +kernel
theorem dL_law_3363 : decode cL_law 3363 = .ok (.iload 6, 2) := by decide +kernel
theorem dL_law_3365 : decode cL_law 3365 = .ok (.if_icmp .eq 5, 3) := by decide +kernel
theorem dL_law_3368 : decode cL_law 3368 = .ok (.iconst 0, 1) := by decide +kernel
theorem dL_law_3369 : decode cL_law 3369 = .ok (.ireturn, 1) := by decide +kernel
theorem dL_law_3370 : decode cL_law 3370 = .ok (.iload 6, 2) := by decide +kernel
theorem dL_law_3372 : decode cL_law 3372 = .ok (.ifCond .ne 15, 3) := by decide +kernel
theorem dL_law_3375 : decode cL_law 3375 = .ok (.aload_n 3, 1) := by decide +kernel
theorem dL_law_3376 : decode cL_law 3376 = .ok (.iconst 0, 1) := by decide +kernel
theorem dL_law_3377 : decode cL_law 3377 = .ok (.laload, 1) := by decide +kernel
theorem dL_law_3378 : decode cL_law 3378 = .ok (.iload 7, 2) := by decide +kernel
theorem dL_law_3380 : decode cL_law 3380 = .ok (.i2l, 1) := by decide +kernel
theorem dL_law_3381 : decode cL_law 3381 = .ok (.lcmp, 1) := by decide +kernel
theorem dL_law_3382 : decode cL_law 3382 = .ok (.ifCond .eq 5, 3) := by decide +kernel
theorem dL_law_3385 : decode cL_law 3385 = .ok (.iconst 0, 1) := by decide +kernel
theorem dL_law_3386 : decode cL_law 3386 = .ok (.ireturn, 1) := by decide +kernel
theorem dL_law_3387 : decode cL_law 3387 = .ok (.goto 168, 3) := by decide +kernel
theorem dL_law_3390 : decode cL_law 3390 = .ok (.aload_n 1, 1) := by decide +kernel
theorem dL_law_3391 : decode cL_law 3391 = .ok (.aload_n 3, 1) := by decide +kernel
theorem dL_law_3392 : decode cL_law 3392 = .ok (.invokestatic 386, 3) := by decide +kernel
theorem dL_law_3395 : decode cL_law 3395 = .ok (.istore 6, 2) := by decide +kernel
theorem dL_law_3397 : decode cL_law 3397 = .ok (.aload_n 2, 1) := by decide +kernel
theorem dL_law_3398 : decode cL_law 3398 = .ok (.invokevirtual 388, 3) := by decide +kernel
theorem dL_law_3401 : decode cL_law 3401 = .ok (.istore 7, 2) := by decide +kernel
theorem dL_law_3403 : decode cL_law 3403 = .ok (.aload_n 2, 1) := by decide +kernel
theorem dL_law_3404 : decode cL_law 3404 = .ok (.invokevirtual 196, 3) := by decide +kernel
theorem dL_law_3407 : decode cL_law 3407 = .ok (.iload 6, 2) := by decide +kernel
theorem dL_law_3409 : decode cL_law 3409 = .ok (.if_icmp .eq 5, 3) := by decide +kernel
theorem dL_law_3412 : decode cL_law 3412 = .ok (.iconst 0, 1) := by decide +kernel
theorem dL_law_3413 : decode cL_law 3413 = .ok (.ireturn, 1) := by decide +kernel
theorem dL_law_3414 : decode cL_law 3414 = .ok (.iload 6, 2) := by decide +kernel
theorem dL_law_3416 : decode cL_law 3416 = .ok (.ifCond .ne 22, 3) := by decide +kernel
theorem dL_law_3419 : decode cL_law 3419 = .ok (.aload_n 3, 1) := by decide +kernel
theorem dL_law_3420 : decode cL_law 3420 = .ok (.iconst 0, 1) := by decide +kernel
theorem dL_law_3421 : decode cL_law 3421 = .ok (.laload, 1) := by decide +kernel
theorem dL_law_3422 : decode cL_law 3422 = .ok (.iload 7, 2) := by decide +kernel
theorem dL_law_3424 : decode cL_law 3424 = .ok (.ifCond .eq 7, 3) := by decide +kernel
theorem dL_law_3427 : decode cL_law 3427 = .ok (.lconst 1, 1) := by decide +kernel
theorem dL_law_3428 : decode cL_law 3428 = .ok (.goto 4, 3) := by decide +kernel
theorem dL_law_3431 : decode cL_law 3431 = .ok (.lconst 0, 1) := by decide +kernel
theorem dL_law_3432 : decode cL_law 3432 = .ok (.lcmp, 1) := by decide +kernel
theorem dL_law_3433 : decode cL_law 3433 = .ok (.ifCond .eq 5, 3) := by decide +kernel
theorem dL_law_3436 : decode cL_law 3436 = .ok (.iconst 0, 1) := by decide +kernel
theorem dL_law_3437 : decode cL_law 3437 = .ok (.ireturn, 1) := by decide +kernel
theorem dL_law_3438 : decode cL_law 3438 = .ok (.goto 117, 3) := by decide +kernel
theorem dL_law_3441 : decode cL_law 3441 = .ok (.aload_n 1, 1) := by decide +kernel
theorem dL_law_3442 : decode cL_law 3442 = .ok (.invokevirtual 389, 3) := by decide +kernel
theorem dL_law_3445 : decode cL_law 3445 = .ok (.aload_n 2, 1) := by decide +kernel
theorem dL_law_3446 : decode cL_law 3446 = .ok (.invokevirtual 392, 3) := by decide +kernel
theorem dL_law_3449 : decode cL_law 3449 = .ok (.if_icmp .eq 106, 3) := by decide +kernel
theorem dL_law_3452 : decode cL_law 3452 = .ok (.iconst 0, 1) := by decide +kernel
theorem dL_law_3453 : decode cL_law 3453 = .ok (.ireturn, 1) := by decide +kernel
theorem dL_law_3454 : decode cL_law 3454 = .ok (.aload_n 1, 1) := by decide +kernel
theorem dL_law_3455 : decode cL_law 3455 = .ok (.aload_n 3, 1) := by decide +kernel
theorem dL_law_3456 : decode cL_law 3456 = .ok (.invokestatic 393, 3) := by decide +kernel
theorem dL_law_3459 : decode cL_law 3459 = .ok (.istore 6, 2) := by decide +kernel
theorem dL_law_3461 : decode cL_law 3461 = .ok (.aload_n 2, 1) := by decide +kernel
theorem dL_law_3462 : decode cL_law 3462 = .ok (.invokevirtual 395, 3) := by decide +kernel
theorem dL_law_3465 : decode cL_law 3465 = .ok (.istore 7, 2) := by decide +kernel
theorem dL_law_3467 : decode cL_law 3467 = .ok (.aload_n 2, 1) := by decide +kernel
theorem dL_law_3468 : decode cL_law 3468 = .ok (.invokevirtual 196, 3) := by decide +kernel
theorem dL_law_3471 : decode cL_law 3471 = .ok (.iload 6, 2) := by decide +kernel
theorem dL_law_3473 : decode cL_law 3473 = .ok (.if_icmp .eq 5, 3) := by decide +kernel
theorem dL_law_3476 : decode cL_law 3476 = .ok (.iconst 0, 1) := by decide +kernel
theorem dL_law_3477 : decode cL_law 3477 = .ok (.ireturn, 1) := by decide +kernel
theorem dL_law_3478 : decode cL_law 3478 = .ok (.iload 6, 2) := by decide +kernel
theorem dL_law_3480 : decode cL_law 3480 = .ok (.ifCond .ne 15, 3) := by decide +kernel
theorem dL_law_3483 : decode cL_law 3483 = .ok (.aload_n 3, 1) := by decide +kernel
theorem dL_law_3484 : decode cL_law 3484 = .ok (.iconst 0, 1) := by decide +kernel
theorem dL_law_3485 : decode cL_law 3485 = .ok (.laload, 1) := by decide +kernel
theorem dL_law_3486 : decode cL_law 3486 = .ok (.iload 7, 2) := by decide +kernel
theorem dL_law_3488 : decode cL_law 3488 = .ok (.i2l, 1) := by decide +kernel
theorem dL_law_3489 : decode cL_law 3489 = .ok (.lcmp, 1) := by decide +kernel
theorem dL_law_3490 : decode cL_law 3490 = .ok (.ifCond .eq 5, 3) := by decide +kernel
theorem dL_law_3493 : decode cL_law 3493 = .ok (.iconst 0, 1) := by decide +kernel
theorem dL_law_3494 : decode cL_law 3494 = .ok (.ireturn, 1) := by decide +kernel
theorem dL_law_3495 : decode cL_law 3495 = .ok (.goto 60, 3) := by decide +kernel
theorem dL_law_3498 : decode cL_law 3498 = .ok (.aload_n 1, 1) := by decide +kernel
theorem dL_law_3499 : decode cL_law 3499 = .ok (.invokevirtual 396, 3) := by decide +kernel
theorem dL_law_3502 : decode cL_law 3502 = .ok (.aload_n 2, 1) := by decide +kernel
theorem dL_law_3503 : decode cL_law 3503 = .ok (.invokevirtual 399, 3) := by decide +kernel
theorem dL_law_3506 : decode cL_law 3506 = .ok (.if_icmp .eq 49, 3) := by decide +kernel
theorem dL_law_3509 : decode cL_law 3509 = .ok (.iconst 0, 1) := by decide +kernel
theorem dL_law_3510 : decode cL_law 3510 = .ok (.ireturn, 1) := by decide +kernel
theorem dL_law_3511 : decode cL_law 3511 = .ok (.aload_n 1, 1) := by decide +kernel
theorem dL_law_3512 : decode cL_law 3512 = .ok (.aload_n 3, 1) := by decide +kernel
theorem dL_law_3513 : decode cL_law 3513 = .ok (.invokestatic 400, 3) := by decide +kernel
theorem dL_law_3516 : decode cL_law 3516 = .ok (.istore 6, 2) := by decide +kernel
theorem dL_law_3518 : decode cL_law 3518 = .ok (.aload_n 2, 1) := by decide +kernel
theorem dL_law_3519 : decode cL_law 3519 = .ok (.invokevirtual 402, 3) := by decide +kernel
theorem dL_law_3522 : decode cL_law 3522 = .ok (.istore 7, 2) := by decide +kernel
theorem dL_law_3524 : decode cL_law 3524 = .ok (.aload_n 2, 1) := by decide +kernel
theorem dL_law_3525 : decode cL_law 3525 = .ok (.invokevirtual 196, 3) := by decide +kernel
theorem dL_law_3528 : decode cL_law 3528 = .ok (.iload 6, 2) := by decide +kernel
theorem dL_law_3530 : decode cL_law 3530 = .ok (.if_icmp .eq 5, 3) := by decide +kernel
theorem dL_law_3533 : decode cL_law 3533 = .ok (.iconst 0, 1) := by decide +kernel
theorem dL_law_3534 : decode cL_law 3534 = .ok (.ireturn, 1) := by decide +kernel
theorem dL_law_3535 : decode cL_law 3535 = .ok (.iload 6, 2) := by decide +kernel
theorem dL_law_3537 : decode cL_law 3537 = .ok (.ifCond .ne 15, 3) := by decide +kernel
theorem dL_law_3540 : decode cL_law 3540 = .ok (.aload_n 3, 1) := by decide +kernel
theorem dL_law_3541 : decode cL_law 3541 = .ok (.iconst 0, 1) := by decide +kernel
theorem dL_law_3542 : decode cL_law 3542 = .ok (.laload, 1) := by decide +kernel
theorem dL_law_3543 : decode cL_law 3543 = .ok (.iload 7, 2) := by decide +kernel
theorem dL_law_3545 : decode cL_law 3545 = .ok (.i2l, 1) := by decide +kernel
theorem dL_law_3546 : decode cL_law 3546 = .ok (.lcmp, 1) := by decide +kernel
theorem dL_law_3547 : decode cL_law 3547 = .ok (.ifCond .eq 5, 3) := by decide +kernel
theorem dL_law_3550 : decode cL_law 3550 = .ok (.iconst 0, 1) := by decide +kernel
theorem dL_law_3551 : decode cL_law 3551 = .ok (.ireturn, 1) := by decide +kernel
theorem dL_law_3552 : decode cL_law 3552 = .ok (.goto 3, 3) := by decide +kernel
theorem dL_law_3555 : decode cL_law 3555 = .ok (.iinc 5 5, 3) := by decide +kernel
theorem dL_law_3558 : decode cL_law 3558 = .ok (.goto (-3530), 3) := by decide +kernel
theorem dL_law_3561 : decode cL_law 3561 = .ok (.iconst 1, 1) := by decide +kernel
theorem dL_law_3562 : decode cL_law 3562 = .ok (.ireturn, 1) := by decide +kernel
