theorem dL_cell_0 : decode cL_cell 0 = .ok (.iload_n 1, 1) := by decide +kernel
theorem dL_cell_1 : decode cL_cell 1 = .ok (.aload_n 0, 1) := by decide +kernel
theorem dL_cell_2 : decode cL_cell 2 = .ok (.arraylength, 1) := by decide +kernel
theorem dL_cell_3 : decode cL_cell 3 = .ok (.if_icmp .ge 9, 3) := by decide +kernel
theorem dL_cell_6 : decode cL_cell 6 = .ok (.aload_n 0, 1) := by decide +kernel
theorem dL_cell_7 : decode cL_cell 7 = .ok (.iload_n 1, 1) := by decide +kernel
theorem dL_cell_8 : decode cL_cell 8 = .ok (.iaload, 1) := by decide +kernel
theorem dL_cell_9 : decode cL_cell 9 = .ok (.goto 11, 3) := by decide +kernel
theorem dL_cell_12 : decode cL_cell 12 = .ok (.sipush 7919, 3) := by decide +kernel
theorem dL_cell_15 : decode cL_cell 15 = .ok (.iload_n 1, 1) := by decide +kernel
theorem dL_cell_16 : decode cL_cell 16 = .ok (.imul, 1) := by decide +kernel
theorem dL_cell_17 : decode cL_cell 17 = .ok (.bipush 12, 2) := by decide +kernel
theorem dL_cell_19 : decode cL_cell 19 = .ok (.iadd, 1) := by decide +kernel
theorem dL_cell_20 : decode cL_cell 20 = .ok (.ireturn, 1) := by decide +kernel
theorem dL_some_0 : decode cL_some 0 = .ok (.aload_n 0, 1) := by decide +kernel
theorem dL_some_1 : decode cL_some 1 = .ok (.iload_n 1, 1) := by decide +kernel
theorem dL_some_2 : decode cL_some 2 = .ok (.invokestatic 7, 3) := by decide +kernel
theorem dL_some_5 : decode cL_some 5 = .ok (.iconst 3, 1) := by decide +kernel
theorem dL_some_6 : decode cL_some 6 = .ok (.iushr, 1) := by decide +kernel
theorem dL_some_7 : decode cL_some 7 = .ok (.iload_n 2, 1) := by decide +kernel
theorem dL_some_8 : decode cL_some 8 = .ok (.irem, 1) := by decide +kernel
theorem dL_some_9 : decode cL_some 9 = .ok (.ireturn, 1) := by decide +kernel
theorem dL_charge_0 : decode cL_charge 0 = .ok (.aload_n 0, 1) := by decide +kernel
theorem dL_charge_1 : decode cL_charge 1 = .ok (.iload_n 1, 1) := by decide +kernel
theorem dL_charge_2 : decode cL_charge 2 = .ok (.iload_n 2, 1) := by decide +kernel
theorem dL_charge_3 : decode cL_charge 3 = .ok (.invokevirtual 13, 3) := by decide +kernel
theorem dL_charge_6 : decode cL_charge 6 = .ok (.ireturn, 1) := by decide +kernel
theorem dL_charge_7 : decode cL_charge 7 = .ok (.astore_n 3, 1) := by decide +kernel
theorem dL_charge_8 : decode cL_charge 8 = .ok (.sipush (-20000), 3) := by decide +kernel
theorem dL_charge_11 : decode cL_charge 11 = .ok (.ireturn, 1) := by decide +kernel
theorem dL_charge_12 : decode cL_charge 12 = .ok (.astore_n 3, 1) := by decide +kernel
theorem dL_charge_13 : decode cL_charge 13 = .ok (.sipush (-10000), 3) := by decide +kernel
theorem dL_charge_16 : decode cL_charge 16 = .ok (.ireturn, 1) := by decide +kernel
theorem dL_addWitness_0 : decode cL_addWitness 0 = .ok (.aload_n 0, 1) := by decide +kernel
theorem dL_addWitness_1 : decode cL_addWitness 1 = .ok (.iload_n 1, 1) := by decide +kernel
theorem dL_addWitness_2 : decode cL_addWitness 2 = .ok (.invokevirtual 23, 3) := by decide +kernel
theorem dL_addWitness_5 : decode cL_addWitness 5 = .ok (.ireturn, 1) := by decide +kernel
theorem dL_addWitness_6 : decode cL_addWitness 6 = .ok (.astore_n 2, 1) := by decide +kernel
theorem dL_addWitness_7 : decode cL_addWitness 7 = .ok (.sipush (-20000), 3) := by decide +kernel
theorem dL_addWitness_10 : decode cL_addWitness 10 = .ok (.ireturn, 1) := by decide +kernel
theorem dL_addWitness_11 : decode cL_addWitness 11 = .ok (.astore_n 2, 1) := by decide +kernel
theorem dL_addWitness_12 : decode cL_addWitness 12 = .ok (.sipush (-10000), 3) := by decide +kernel
theorem dL_addWitness_15 : decode cL_addWitness 15 = .ok (.ireturn, 1) := by decide +kernel
theorem dL_testify_0 : decode cL_testify 0 = .ok (.aload_n 0, 1) := by decide +kernel
theorem dL_testify_1 : decode cL_testify 1 = .ok (.iload_n 1, 1) := by decide +kernel
theorem dL_testify_2 : decode cL_testify 2 = .ok (.iload_n 2, 1) := by decide +kernel
theorem dL_testify_3 : decode cL_testify 3 = .ok (.iload_n 3, 1) := by decide +kernel
theorem dL_testify_4 : decode cL_testify 4 = .ok (.iload 4, 2) := by decide +kernel
theorem dL_testify_6 : decode cL_testify 6 = .ok (.invokevirtual 27, 3) := by decide +kernel
theorem dL_testify_9 : decode cL_testify 9 = .ok (.ireturn, 1) := by decide +kernel
theorem dL_testify_10 : decode cL_testify 10 = .ok (.astore 5, 2) := by decide +kernel
theorem dL_testify_12 : decode cL_testify 12 = .ok (.sipush (-25000), 3) := by decide +kernel
theorem dL_testify_15 : decode cL_testify 15 = .ok (.ireturn, 1) := by decide +kernel
theorem dL_testify_16 : decode cL_testify 16 = .ok (.astore 5, 2) := by decide +kernel
theorem dL_testify_18 : decode cL_testify 18 = .ok (.sipush (-20000), 3) := by decide +kernel
theorem dL_testify_21 : decode cL_testify 21 = .ok (.ireturn, 1) := by decide +kernel
theorem dL_testify_22 : decode cL_testify 22 = .ok (.astore 5, 2) := by decide +kernel
theorem dL_testify_24 : decode cL_testify 24 = .ok (.sipush (-10000), 3) := by decide +kernel
theorem dL_testify_27 : decode cL_testify 27 = .ok (.ireturn, 1) := by decide +kernel
theorem dL_question_0 : decode cL_question 0 = .ok (.aload_n 0, 1) := by decide +kernel
theorem dL_question_1 : decode cL_question 1 = .ok (.iload_n 1, 1) := by decide +kernel
theorem dL_question_2 : decode cL_question 2 = .ok (.iload_n 2, 1) := by decide +kernel
theorem dL_question_3 : decode cL_question 3 = .ok (.iload_n 3, 1) := by decide +kernel
theorem dL_question_4 : decode cL_question 4 = .ok (.invokevirtual 33, 3) := by decide +kernel
theorem dL_question_7 : decode cL_question 7 = .ok (.ireturn, 1) := by decide +kernel
theorem dL_question_8 : decode cL_question 8 = .ok (.astore 4, 2) := by decide +kernel
theorem dL_question_10 : decode cL_question 10 = .ok (.sipush (-25000), 3) := by decide +kernel
theorem dL_question_13 : decode cL_question 13 = .ok (.ireturn, 1) := by decide +kernel
theorem dL_question_14 : decode cL_question 14 = .ok (.astore 4, 2) := by decide +kernel
theorem dL_question_16 : decode cL_question 16 = .ok (.sipush (-30000), 3) := by decide +kernel
theorem dL_question_19 : decode cL_question 19 = .ok (.ireturn, 1) := by decide +kernel
theorem dL_question_20 : decode cL_question 20 = .ok (.astore 4, 2) := by decide +kernel
theorem dL_question_22 : decode cL_question 22 = .ok (.sipush (-10000), 3) := by decide +kernel
theorem dL_question_25 : decode cL_question 25 = .ok (.ireturn, 1) := by decide +kernel
theorem dL_appeal_0 : decode cL_appeal 0 = .ok (.aload_n 0, 1) := by decide +kernel
theorem dL_appeal_1 : decode cL_appeal 1 = .ok (.iload_n 1, 1) := by decide +kernel
theorem dL_appeal_2 : decode cL_appeal 2 = .ok (.invokevirtual 39, 3) := by decide +kernel
theorem dL_appeal_5 : decode cL_appeal 5 = .ok (.ireturn, 1) := by decide +kernel
theorem dL_appeal_6 : decode cL_appeal 6 = .ok (.astore_n 2, 1) := by decide +kernel
theorem dL_appeal_7 : decode cL_appeal 7 = .ok (.sipush (-25000), 3) := by decide +kernel
theorem dL_appeal_10 : decode cL_appeal 10 = .ok (.ireturn, 1) := by decide +kernel
theorem dL_appeal_11 : decode cL_appeal 11 = .ok (.astore_n 2, 1) := by decide +kernel
theorem dL_appeal_12 : decode cL_appeal 12 = .ok (.sipush (-10000), 3) := by decide +kernel
theorem dL_appeal_15 : decode cL_appeal 15 = .ok (.ireturn, 1) := by decide +kernel
theorem dL_close_0 : decode cL_close 0 = .ok (.aload_n 0, 1) := by decide +kernel
theorem dL_close_1 : decode cL_close 1 = .ok (.iload_n 1, 1) := by decide +kernel
theorem dL_close_2 : decode cL_close 2 = .ok (.invokevirtual 42, 3) := by decide +kernel
theorem dL_close_5 : decode cL_close 5 = .ok (.ireturn, 1) := by decide +kernel
theorem dL_close_6 : decode cL_close 6 = .ok (.astore_n 2, 1) := by decide +kernel
theorem dL_close_7 : decode cL_close 7 = .ok (.sipush (-25000), 3) := by decide +kernel
theorem dL_close_10 : decode cL_close 10 = .ok (.ireturn, 1) := by decide +kernel
theorem dL_close_11 : decode cL_close 11 = .ok (.astore_n 2, 1) := by decide +kernel
theorem dL_close_12 : decode cL_close 12 = .ok (.sipush (-10000), 3) := by decide +kernel
theorem dL_close_15 : decode cL_close 15 = .ok (.ireturn, 1) := by decide +kernel
theorem dL_witnessAt_0 : decode cL_witnessAt 0 = .ok (.aload_n 0, 1) := by decide +kernel
theorem dL_witnessAt_1 : decode cL_witnessAt 1 = .ok (.iload_n 1, 1) := by decide +kernel
theorem dL_witnessAt_2 : decode cL_witnessAt 2 = .ok (.iload_n 2, 1) := by decide +kernel
theorem dL_witnessAt_3 : decode cL_witnessAt 3 = .ok (.invokevirtual 45, 3) := by decide +kernel
theorem dL_witnessAt_6 : decode cL_witnessAt 6 = .ok (.ireturn, 1) := by decide +kernel
theorem dL_witnessAt_7 : decode cL_witnessAt 7 = .ok (.astore_n 3, 1) := by decide +kernel
theorem dL_witnessAt_8 : decode cL_witnessAt 8 = .ok (.sipush (-25000), 3) := by decide +kernel
theorem dL_witnessAt_11 : decode cL_witnessAt 11 = .ok (.ireturn, 1) := by decide +kernel
theorem dL_witnessAt_12 : decode cL_witnessAt 12 = .ok (.astore_n 3, 1) := by decide +kernel
theorem dL_witnessAt_13 : decode cL_witnessAt 13 = .ok (.sipush (-30000), 3) := by decide +kernel
theorem dL_witnessAt_16 : decode cL_witnessAt 16 = .ok (.ireturn, 1) := by decide +kernel
theorem dL_mostCredible_0 : decode cL_mostCredible 0 = .ok (.aload_n 0, 1) := by decide +kernel
theorem dL_mostCredible_1 : decode cL_mostCredible 1 = .ok (.iload_n 1, 1) := by decide +kernel
theorem dL_mostCredible_2 : decode cL_mostCredible 2 = .ok (.invokevirtual 48, 3) := by decide +kernel
theorem dL_mostCredible_5 : decode cL_mostCredible 5 = .ok (.ireturn, 1) := by decide +kernel
theorem dL_mostCredible_6 : decode cL_mostCredible 6 = .ok (.astore_n 2, 1) := by decide +kernel
theorem dL_mostCredible_7 : decode cL_mostCredible 7 = .ok (.sipush (-30000), 3) := by decide +kernel
theorem dL_mostCredible_10 : decode cL_mostCredible 10 = .ok (.ireturn, 1) := by decide +kernel
theorem dL_heaviestWitness_0 : decode cL_heaviestWitness 0 = .ok (.aload_n 0, 1) := by decide +kernel
theorem dL_heaviestWitness_1 : decode cL_heaviestWitness 1 = .ok (.iload_n 1, 1) := by decide +kernel
theorem dL_heaviestWitness_2 : decode cL_heaviestWitness 2 = .ok (.invokevirtual 51, 3) := by decide +kernel
theorem dL_heaviestWitness_5 : decode cL_heaviestWitness 5 = .ok (.ireturn, 1) := by decide +kernel
theorem dL_heaviestWitness_6 : decode cL_heaviestWitness 6 = .ok (.astore_n 2, 1) := by decide +kernel
theorem dL_heaviestWitness_7 : decode cL_heaviestWitness 7 = .ok (.sipush (-25000), 3) := by decide +kernel
theorem dL_heaviestWitness_10 : decode cL_heaviestWitness 10 = .ok (.ireturn, 1) := by decide +kernel
theorem dL_heaviestWitness_11 : decode cL_heaviestWitness 11 = .ok (.astore_n 2, 1) := by decide +kernel
theorem dL_heaviestWitness_12 : decode cL_heaviestWitness 12 = .ok (.sipush (-30000), 3) := by decide +kernel
theorem dL_heaviestWitness_15 : decode cL_heaviestWitness 15 = .ok (.ireturn, 1) := by decide +kernel
theorem dL_nextToDecide_0 : decode cL_nextToDecide 0 = .ok (.aload_n 0, 1) := by decide +kernel
theorem dL_nextToDecide_1 : decode cL_nextToDecide 1 = .ok (.invokevirtual 54, 3) := by decide +kernel
theorem dL_nextToDecide_4 : decode cL_nextToDecide 4 = .ok (.ireturn, 1) := by decide +kernel
theorem dL_nextToDecide_5 : decode cL_nextToDecide 5 = .ok (.astore_n 1, 1) := by decide +kernel
theorem dL_nextToDecide_6 : decode cL_nextToDecide 6 = .ok (.sipush (-30000), 3) := by decide +kernel
theorem dL_nextToDecide_9 : decode cL_nextToDecide 9 = .ok (.ireturn, 1) := by decide +kernel
theorem dL_firmAnswersToGuilty_0 : decode cL_firmAnswersToGuilty 0 = .ok (.aload_n 0, 1) := by decide +kernel
theorem dL_firmAnswersToGuilty_1 : decode cL_firmAnswersToGuilty 1 = .ok (.iload_n 1, 1) := by decide +kernel
theorem dL_firmAnswersToGuilty_2 : decode cL_firmAnswersToGuilty 2 = .ok (.iload_n 2, 1) := by decide +kernel
theorem dL_firmAnswersToGuilty_3 : decode cL_firmAnswersToGuilty 3 = .ok (.invokevirtual 58, 3) := by decide +kernel
theorem dL_firmAnswersToGuilty_6 : decode cL_firmAnswersToGuilty 6 = .ok (.ireturn, 1) := by decide +kernel
theorem dL_firmAnswersToGuilty_7 : decode cL_firmAnswersToGuilty 7 = .ok (.astore_n 3, 1) := by decide +kernel
theorem dL_firmAnswersToGuilty_8 : decode cL_firmAnswersToGuilty 8 = .ok (.sipush (-25000), 3) := by decide +kernel
theorem dL_firmAnswersToGuilty_11 : decode cL_firmAnswersToGuilty 11 = .ok (.ireturn, 1) := by decide +kernel
theorem dL_firmAnswersToGuilty_12 : decode cL_firmAnswersToGuilty 12 = .ok (.astore_n 3, 1) := by decide +kernel
theorem dL_firmAnswersToGuilty_13 : decode cL_firmAnswersToGuilty 13 = .ok (.sipush (-30000), 3) := by decide +kernel
theorem dL_firmAnswersToGuilty_16 : decode cL_firmAnswersToGuilty 16 = .ok (.ireturn, 1) := by decide +kernel
theorem dL_docketAt_0 : decode cL_docketAt 0 = .ok (.aload_n 0, 1) := by decide +kernel
theorem dL_docketAt_1 : decode cL_docketAt 1 = .ok (.iload_n 1, 1) := by decide +kernel
theorem dL_docketAt_2 : decode cL_docketAt 2 = .ok (.invokevirtual 61, 3) := by decide +kernel
theorem dL_docketAt_5 : decode cL_docketAt 5 = .ok (.ireturn, 1) := by decide +kernel
theorem dL_docketAt_6 : decode cL_docketAt 6 = .ok (.astore_n 2, 1) := by decide +kernel
theorem dL_docketAt_7 : decode cL_docketAt 7 = .ok (.sipush (-30000), 3) := by decide +kernel
theorem dL_docketAt_10 : decode cL_docketAt 10 = .ok (.ireturn, 1) := by decide +kernel
theorem dL_docketPosition_0 : decode cL_docketPosition 0 = .ok (.aload_n 0, 1) := by decide +kernel
theorem dL_docketPosition_1 : decode cL_docketPosition 1 = .ok (.iload_n 1, 1) := by decide +kernel
theorem dL_docketPosition_2 : decode cL_docketPosition 2 = .ok (.invokevirtual 64, 3) := by decide +kernel
theorem dL_docketPosition_5 : decode cL_docketPosition 5 = .ok (.ireturn, 1) := by decide +kernel
theorem dL_docketPosition_6 : decode cL_docketPosition 6 = .ok (.astore_n 2, 1) := by decide +kernel
theorem dL_docketPosition_7 : decode cL_docketPosition 7 = .ok (.sipush (-25000), 3) := by decide +kernel
theorem dL_docketPosition_10 : decode cL_docketPosition 10 = .ok (.ireturn, 1) := by decide +kernel
theorem dL_docketPosition_11 : decode cL_docketPosition 11 = .ok (.astore_n 2, 1) := by decide +kernel
theorem dL_docketPosition_12 : decode cL_docketPosition 12 = .ok (.sipush (-10000), 3) := by decide +kernel
theorem dL_docketPosition_15 : decode cL_docketPosition 15 = .ok (.ireturn, 1) := by decide +kernel
theorem dL_decide_0 : decode cL_decide 0 = .ok (.aload_n 0, 1) := by decide +kernel
theorem dL_decide_1 : decode cL_decide 1 = .ok (.iload_n 1, 1) := by decide +kernel
theorem dL_decide_2 : decode cL_decide 2 = .ok (.invokevirtual 67, 3) := by decide +kernel
theorem dL_decide_5 : decode cL_decide 5 = .ok (.ifCond .eq 7, 3) := by decide +kernel
theorem dL_decide_8 : decode cL_decide 8 = .ok (.iconst 1, 1) := by decide +kernel
theorem dL_decide_9 : decode cL_decide 9 = .ok (.goto 4, 3) := by decide +kernel
theorem dL_decide_12 : decode cL_decide 12 = .ok (.iconst 0, 1) := by decide +kernel
theorem dL_decide_13 : decode cL_decide 13 = .ok (.ireturn, 1) := by decide +kernel
theorem dL_decide_14 : decode cL_decide 14 = .ok (.astore_n 2, 1) := by decide +kernel
theorem dL_decide_15 : decode cL_decide 15 = .ok (.sipush (-25000), 3) := by decide +kernel
theorem dL_decide_18 : decode cL_decide 18 = .ok (.ireturn, 1) := by decide +kernel
theorem dL_decide_19 : decode cL_decide 19 = .ok (.astore_n 2, 1) := by decide +kernel
theorem dL_decide_20 : decode cL_decide 20 = .ok (.sipush (-10000), 3) := by decide +kernel
theorem dL_decide_23 : decode cL_decide 23 = .ok (.ireturn, 1) := by decide +kernel
theorem dL_verdict_0 : decode cL_verdict 0 = .ok (.aload_n 0, 1) := by decide +kernel
theorem dL_verdict_1 : decode cL_verdict 1 = .ok (.iload_n 1, 1) := by decide +kernel
theorem dL_verdict_2 : decode cL_verdict 2 = .ok (.invokevirtual 71, 3) := by decide +kernel
theorem dL_verdict_5 : decode cL_verdict 5 = .ok (.ifCond .eq 7, 3) := by decide +kernel
theorem dL_verdict_8 : decode cL_verdict 8 = .ok (.iconst 1, 1) := by decide +kernel
theorem dL_verdict_9 : decode cL_verdict 9 = .ok (.goto 4, 3) := by decide +kernel
theorem dL_verdict_12 : decode cL_verdict 12 = .ok (.iconst 0, 1) := by decide +kernel
theorem dL_verdict_13 : decode cL_verdict 13 = .ok (.ireturn, 1) := by decide +kernel
theorem dL_verdict_14 : decode cL_verdict 14 = .ok (.astore_n 2, 1) := by decide +kernel
theorem dL_verdict_15 : decode cL_verdict 15 = .ok (.sipush (-10000), 3) := by decide +kernel
theorem dL_verdict_18 : decode cL_verdict 18 = .ok (.ireturn, 1) := by decide +kernel
theorem dL_build_0 : decode cL_build 0 = .ok (.iconst 0, 1) := by decide +kernel
theorem dL_build_1 : decode cL_build 1 = .ok (.istore_n 3, 1) := by decide +kernel
theorem dL_build_2 : decode cL_build 2 = .ok (.iload_n 3, 1) := by decide +kernel
theorem dL_build_3 : decode cL_build 3 = .ok (.iconst 4, 1) := by decide +kernel
theorem dL_build_4 : decode cL_build 4 = .ok (.if_icmp .ge 21, 3) := by decide +kernel
theorem dL_build_7 : decode cL_build 7 = .ok (.aload_n 0, 1) := by decide +kernel
theorem dL_build_8 : decode cL_build 8 = .ok (.aload_n 1, 1) := by decide +kernel
theorem dL_build_9 : decode cL_build 9 = .ok (.iload_n 3, 1) := by decide +kernel
theorem dL_build_10 : decode cL_build 10 = .ok (.bipush 10, 2) := by decide +kernel
theorem dL_build_12 : decode cL_build 12 = .ok (.invokestatic 74, 3) := by decide +kernel
theorem dL_build_15 : decode cL_build 15 = .ok (.invokestatic 78, 3) := by decide +kernel
theorem dL_build_18 : decode cL_build 18 = .ok (.istore_n 2, 1) := by decide +kernel
theorem dL_build_19 : decode cL_build 19 = .ok (.iinc 3 1, 3) := by decide +kernel
theorem dL_build_22 : decode cL_build 22 = .ok (.goto (-20), 3) := by decide +kernel
theorem dL_build_25 : decode cL_build 25 = .ok (.iconst 0, 1) := by decide +kernel
theorem dL_build_26 : decode cL_build 26 = .ok (.istore_n 3, 1) := by decide +kernel
theorem dL_build_27 : decode cL_build 27 = .ok (.iload_n 3, 1) := by decide +kernel
theorem dL_build_28 : decode cL_build 28 = .ok (.iconst 4, 1) := by decide +kernel
theorem dL_build_29 : decode cL_build 29 = .ok (.if_icmp .ge 32, 3) := by decide +kernel
theorem dL_build_32 : decode cL_build 32 = .ok (.aload_n 0, 1) := by decide +kernel
theorem dL_build_33 : decode cL_build 33 = .ok (.aload_n 1, 1) := by decide +kernel
theorem dL_build_34 : decode cL_build 34 = .ok (.iconst 5, 1) := by decide +kernel
theorem dL_build_35 : decode cL_build 35 = .ok (.iload_n 3, 1) := by decide +kernel
theorem dL_build_36 : decode cL_build 36 = .ok (.iadd, 1) := by decide +kernel
theorem dL_build_37 : decode cL_build 37 = .ok (.bipush 6, 2) := by decide +kernel
theorem dL_build_39 : decode cL_build 39 = .ok (.invokestatic 74, 3) := by decide +kernel
theorem dL_build_42 : decode cL_build 42 = .ok (.aload_n 1, 1) := by decide +kernel
theorem dL_build_43 : decode cL_build 43 = .ok (.bipush 10, 2) := by decide +kernel
theorem dL_build_45 : decode cL_build 45 = .ok (.iload_n 3, 1) := by decide +kernel
theorem dL_build_46 : decode cL_build 46 = .ok (.iadd, 1) := by decide +kernel
theorem dL_build_47 : decode cL_build 47 = .ok (.iconst 5, 1) := by decide +kernel
theorem dL_build_48 : decode cL_build 48 = .ok (.invokestatic 74, 3) := by decide +kernel
theorem dL_build_51 : decode cL_build 51 = .ok (.invokestatic 81, 3) := by decide +kernel
theorem dL_build_54 : decode cL_build 54 = .ok (.istore_n 2, 1) := by decide +kernel
theorem dL_build_55 : decode cL_build 55 = .ok (.iinc 3 1, 3) := by decide +kernel
theorem dL_build_58 : decode cL_build 58 = .ok (.goto (-31), 3) := by decide +kernel
theorem dL_build_61 : decode cL_build 61 = .ok (.iconst 0, 1) := by decide +kernel
theorem dL_build_62 : decode cL_build 62 = .ok (.istore_n 3, 1) := by decide +kernel
theorem dL_build_63 : decode cL_build 63 = .ok (.iload_n 3, 1) := by decide +kernel
theorem dL_build_64 : decode cL_build 64 = .ok (.bipush 20, 2) := by decide +kernel
theorem dL_build_66 : decode cL_build 66 = .ok (.if_icmp .ge 20, 3) := by decide +kernel
theorem dL_build_69 : decode cL_build 69 = .ok (.aload_n 0, 1) := by decide +kernel
theorem dL_build_70 : decode cL_build 70 = .ok (.aload_n 1, 1) := by decide +kernel
theorem dL_build_71 : decode cL_build 71 = .ok (.bipush 15, 2) := by decide +kernel
theorem dL_build_73 : decode cL_build 73 = .ok (.iconst 4, 1) := by decide +kernel
theorem dL_build_74 : decode cL_build 74 = .ok (.iload_n 3, 1) := by decide +kernel
theorem dL_build_75 : decode cL_build 75 = .ok (.imul, 1) := by decide +kernel
theorem dL_build_76 : decode cL_build 76 = .ok (.iadd, 1) := by decide +kernel
theorem dL_build_77 : decode cL_build 77 = .ok (.invokestatic 84, 3) := by decide +kernel
theorem dL_build_80 : decode cL_build 80 = .ok (.iinc 3 1, 3) := by decide +kernel
theorem dL_build_83 : decode cL_build 83 = .ok (.goto (-20), 3) := by decide +kernel
theorem dL_build_86 : decode cL_build 86 = .ok (.return_, 1) := by decide +kernel
theorem dL_acts_0 : decode cL_acts 0 = .ok (.aload_n 1, 1) := by decide +kernel
theorem dL_acts_1 : decode cL_acts 1 = .ok (.iload_n 2, 1) := by decide +kernel
theorem dL_acts_2 : decode cL_acts 2 = .ok (.iconst 1, 1) := by decide +kernel
theorem dL_acts_3 : decode cL_acts 3 = .ok (.iadd, 1) := by decide +kernel
theorem dL_acts_4 : decode cL_acts 4 = .ok (.bipush 60, 2) := by decide +kernel
theorem dL_acts_6 : decode cL_acts 6 = .ok (.invokestatic 74, 3) := by decide +kernel
theorem dL_acts_9 : decode cL_acts 9 = .ok (.istore_n 3, 1) := by decide +kernel
theorem dL_acts_10 : decode cL_acts 10 = .ok (.aload_n 1, 1) := by decide +kernel
theorem dL_acts_11 : decode cL_acts 11 = .ok (.iload_n 2, 1) := by decide +kernel
theorem dL_acts_12 : decode cL_acts 12 = .ok (.iconst 2, 1) := by decide +kernel
theorem dL_acts_13 : decode cL_acts 13 = .ok (.iadd, 1) := by decide +kernel
theorem dL_acts_14 : decode cL_acts 14 = .ok (.aload_n 0, 1) := by decide +kernel
theorem dL_acts_15 : decode cL_acts 15 = .ok (.invokevirtual 88, 3) := by decide +kernel
theorem dL_acts_18 : decode cL_acts 18 = .ok (.invokestatic 74, 3) := by decide +kernel
theorem dL_acts_21 : decode cL_acts 21 = .ok (.istore 4, 2) := by decide +kernel
theorem dL_acts_23 : decode cL_acts 23 = .ok (.aload_n 1, 1) := by decide +kernel
theorem dL_acts_24 : decode cL_acts 24 = .ok (.iload_n 2, 1) := by decide +kernel
theorem dL_acts_25 : decode cL_acts 25 = .ok (.iconst 3, 1) := by decide +kernel
theorem dL_acts_26 : decode cL_acts 26 = .ok (.iadd, 1) := by decide +kernel
theorem dL_acts_27 : decode cL_acts 27 = .ok (.aload_n 0, 1) := by decide +kernel
theorem dL_acts_28 : decode cL_acts 28 = .ok (.invokevirtual 91, 3) := by decide +kernel
theorem dL_acts_31 : decode cL_acts 31 = .ok (.invokestatic 74, 3) := by decide +kernel
theorem dL_acts_34 : decode cL_acts 34 = .ok (.istore 5, 2) := by decide +kernel
theorem dL_acts_36 : decode cL_acts 36 = .ok (.aload_n 1, 1) := by decide +kernel
theorem dL_acts_37 : decode cL_acts 37 = .ok (.iload_n 2, 1) := by decide +kernel
theorem dL_acts_38 : decode cL_acts 38 = .ok (.bipush 16, 2) := by decide +kernel
theorem dL_acts_40 : decode cL_acts 40 = .ok (.invokestatic 74, 3) := by decide +kernel
theorem dL_acts_43 : decode cL_acts 43 = .ok (.tableswitch 214 0 14 #[73, 102, 128, 128, 128, 128, 128, 128, 157, 157, 181, 181, 192, 192, 203], 73) := by decide +kernel
theorem dL_acts_116 : decode cL_acts 116 = .ok (.aload_n 0, 1) := by decide +kernel
theorem dL_acts_117 : decode cL_acts 117 = .ok (.invokevirtual 88, 3) := by decide +kernel
theorem dL_acts_120 : decode cL_acts 120 = .ok (.bipush 9, 2) := by decide +kernel
theorem dL_acts_122 : decode cL_acts 122 = .ok (.if_icmp .ge 17, 3) := by decide +kernel
theorem dL_acts_125 : decode cL_acts 125 = .ok (.aload_n 0, 1) := by decide +kernel
theorem dL_acts_126 : decode cL_acts 126 = .ok (.iload_n 3, 1) := by decide +kernel
theorem dL_acts_127 : decode cL_acts 127 = .ok (.bipush 6, 2) := by decide +kernel
theorem dL_acts_129 : decode cL_acts 129 = .ok (.irem, 1) := by decide +kernel
theorem dL_acts_130 : decode cL_acts 130 = .ok (.iload_n 3, 1) := by decide +kernel
theorem dL_acts_131 : decode cL_acts 131 = .ok (.iconst 5, 1) := by decide +kernel
theorem dL_acts_132 : decode cL_acts 132 = .ok (.irem, 1) := by decide +kernel
theorem dL_acts_133 : decode cL_acts 133 = .ok (.invokestatic 81, 3) := by decide +kernel
theorem dL_acts_136 : decode cL_acts 136 = .ok (.goto 4, 3) := by decide +kernel
theorem dL_acts_139 : decode cL_acts 139 = .ok (.iconst 0, 1) := by decide +kernel
theorem dL_acts_140 : decode cL_acts 140 = .ok (.istore 6, 2) := by decide +kernel
theorem dL_acts_142 : decode cL_acts 142 = .ok (.goto 138, 3) := by decide +kernel
theorem dL_acts_145 : decode cL_acts 145 = .ok (.aload_n 0, 1) := by decide +kernel
theorem dL_acts_146 : decode cL_acts 146 = .ok (.invokevirtual 91, 3) := by decide +kernel
theorem dL_acts_149 : decode cL_acts 149 = .ok (.bipush 7, 2) := by decide +kernel
theorem dL_acts_151 : decode cL_acts 151 = .ok (.if_icmp .ge 14, 3) := by decide +kernel
theorem dL_acts_154 : decode cL_acts 154 = .ok (.aload_n 0, 1) := by decide +kernel
theorem dL_acts_155 : decode cL_acts 155 = .ok (.iload_n 3, 1) := by decide +kernel
theorem dL_acts_156 : decode cL_acts 156 = .ok (.bipush 10, 2) := by decide +kernel
theorem dL_acts_158 : decode cL_acts 158 = .ok (.irem, 1) := by decide +kernel
theorem dL_acts_159 : decode cL_acts 159 = .ok (.invokestatic 78, 3) := by decide +kernel
theorem dL_acts_162 : decode cL_acts 162 = .ok (.goto 4, 3) := by decide +kernel
theorem dL_acts_165 : decode cL_acts 165 = .ok (.iconst 0, 1) := by decide +kernel
theorem dL_acts_166 : decode cL_acts 166 = .ok (.istore 6, 2) := by decide +kernel
theorem dL_acts_168 : decode cL_acts 168 = .ok (.goto 112, 3) := by decide +kernel
theorem dL_acts_171 : decode cL_acts 171 = .ok (.aload_n 0, 1) := by decide +kernel
theorem dL_acts_172 : decode cL_acts 172 = .ok (.iload 4, 2) := by decide +kernel
theorem dL_acts_174 : decode cL_acts 174 = .ok (.iload 5, 2) := by decide +kernel
theorem dL_acts_176 : decode cL_acts 176 = .ok (.iload_n 3, 1) := by decide +kernel
theorem dL_acts_177 : decode cL_acts 177 = .ok (.iconst 3, 1) := by decide +kernel
theorem dL_acts_178 : decode cL_acts 178 = .ok (.irem, 1) := by decide +kernel
theorem dL_acts_179 : decode cL_acts 179 = .ok (.ifCond .le 7, 3) := by decide +kernel
theorem dL_acts_182 : decode cL_acts 182 = .ok (.iconst 1, 1) := by decide +kernel
theorem dL_acts_183 : decode cL_acts 183 = .ok (.goto 4, 3) := by decide +kernel
theorem dL_acts_186 : decode cL_acts 186 = .ok (.iconst 0, 1) := by decide +kernel
theorem dL_acts_187 : decode cL_acts 187 = .ok (.iconst 1, 1) := by decide +kernel
theorem dL_acts_188 : decode cL_acts 188 = .ok (.iload_n 3, 1) := by decide +kernel
theorem dL_acts_189 : decode cL_acts 189 = .ok (.iconst 5, 1) := by decide +kernel
theorem dL_acts_190 : decode cL_acts 190 = .ok (.irem, 1) := by decide +kernel
theorem dL_acts_191 : decode cL_acts 191 = .ok (.iadd, 1) := by decide +kernel
theorem dL_acts_192 : decode cL_acts 192 = .ok (.invokestatic 94, 3) := by decide +kernel
theorem dL_acts_195 : decode cL_acts 195 = .ok (.istore 6, 2) := by decide +kernel
theorem dL_acts_197 : decode cL_acts 197 = .ok (.goto 83, 3) := by decide +kernel
theorem dL_acts_200 : decode cL_acts 200 = .ok (.aload_n 0, 1) := by decide +kernel
theorem dL_acts_201 : decode cL_acts 201 = .ok (.iload 4, 2) := by decide +kernel
theorem dL_acts_203 : decode cL_acts 203 = .ok (.iload 5, 2) := by decide +kernel
theorem dL_acts_205 : decode cL_acts 205 = .ok (.iload_n 3, 1) := by decide +kernel
theorem dL_acts_206 : decode cL_acts 206 = .ok (.iconst 2, 1) := by decide +kernel
theorem dL_acts_207 : decode cL_acts 207 = .ok (.irem, 1) := by decide +kernel
theorem dL_acts_208 : decode cL_acts 208 = .ok (.ifCond .ne 7, 3) := by decide +kernel
theorem dL_acts_211 : decode cL_acts 211 = .ok (.iconst 1, 1) := by decide +kernel
theorem dL_acts_212 : decode cL_acts 212 = .ok (.goto 4, 3) := by decide +kernel
theorem dL_acts_215 : decode cL_acts 215 = .ok (.iconst 0, 1) := by decide +kernel
theorem dL_acts_216 : decode cL_acts 216 = .ok (.invokestatic 97, 3) := by decide +kernel
theorem dL_acts_219 : decode cL_acts 219 = .ok (.istore 6, 2) := by decide +kernel
theorem dL_acts_221 : decode cL_acts 221 = .ok (.goto 59, 3) := by decide +kernel
theorem dL_acts_224 : decode cL_acts 224 = .ok (.aload_n 0, 1) := by decide +kernel
theorem dL_acts_225 : decode cL_acts 225 = .ok (.iload 4, 2) := by decide +kernel
theorem dL_acts_227 : decode cL_acts 227 = .ok (.invokestatic 100, 3) := by decide +kernel
theorem dL_acts_230 : decode cL_acts 230 = .ok (.istore 6, 2) := by decide +kernel
theorem dL_acts_232 : decode cL_acts 232 = .ok (.goto 48, 3) := by decide +kernel
theorem dL_acts_235 : decode cL_acts 235 = .ok (.aload_n 0, 1) := by decide +kernel
theorem dL_acts_236 : decode cL_acts 236 = .ok (.iload 4, 2) := by decide +kernel
theorem dL_acts_238 : decode cL_acts 238 = .ok (.invokestatic 102, 3) := by decide +kernel
theorem dL_acts_241 : decode cL_acts 241 = .ok (.istore 6, 2) := by decide +kernel
theorem dL_acts_243 : decode cL_acts 243 = .ok (.goto 37, 3) := by decide +kernel
theorem dL_acts_246 : decode cL_acts 246 = .ok (.aload_n 0, 1) := by decide +kernel
theorem dL_acts_247 : decode cL_acts 247 = .ok (.iload 4, 2) := by decide +kernel
theorem dL_acts_249 : decode cL_acts 249 = .ok (.invokestatic 104, 3) := by decide +kernel
theorem dL_acts_252 : decode cL_acts 252 = .ok (.istore 6, 2) := by decide +kernel
theorem dL_acts_254 : decode cL_acts 254 = .ok (.goto 26, 3) := by decide +kernel
theorem dL_acts_257 : decode cL_acts 257 = .ok (.aload_n 0, 1) := by decide +kernel
theorem dL_acts_258 : decode cL_acts 258 = .ok (.aload_n 0, 1) := by decide +kernel
theorem dL_acts_259 : decode cL_acts 259 = .ok (.invokevirtual 106, 3) := by decide +kernel
theorem dL_acts_262 : decode cL_acts 262 = .ok (.ifCond .le 11, 3) := by decide +kernel
theorem dL_acts_265 : decode cL_acts 265 = .ok (.aload_n 0, 1) := by decide +kernel
theorem dL_acts_266 : decode cL_acts 266 = .ok (.iconst 0, 1) := by decide +kernel
theorem dL_acts_267 : decode cL_acts 267 = .ok (.invokevirtual 61, 3) := by decide +kernel
theorem dL_acts_270 : decode cL_acts 270 = .ok (.goto 5, 3) := by decide +kernel
theorem dL_acts_273 : decode cL_acts 273 = .ok (.iload 4, 2) := by decide +kernel
theorem dL_acts_275 : decode cL_acts 275 = .ok (.invokestatic 100, 3) := by decide +kernel
theorem dL_acts_278 : decode cL_acts 278 = .ok (.istore 6, 2) := by decide +kernel
theorem dL_acts_280 : decode cL_acts 280 = .ok (.return_, 1) := by decide +kernel
theorem dL_weight_0 : decode cL_weight 0 = .ok (.iconst 0, 1) := by decide +kernel
theorem dL_weight_1 : decode cL_weight 1 = .ok (.istore_n 3, 1) := by decide +kernel
theorem dL_weight_2 : decode cL_weight 2 = .ok (.iconst 0, 1) := by decide +kernel
theorem dL_weight_3 : decode cL_weight 3 = .ok (.istore 4, 2) := by decide +kernel
theorem dL_weight_5 : decode cL_weight 5 = .ok (.iload 4, 2) := by decide +kernel
theorem dL_weight_7 : decode cL_weight 7 = .ok (.aload_n 0, 1) := by decide +kernel
theorem dL_weight_8 : decode cL_weight 8 = .ok (.iload_n 1, 1) := by decide +kernel
theorem dL_weight_9 : decode cL_weight 9 = .ok (.invokevirtual 109, 3) := by decide +kernel
theorem dL_weight_12 : decode cL_weight 12 = .ok (.if_icmp .ge 50, 3) := by decide +kernel
theorem dL_weight_15 : decode cL_weight 15 = .ok (.aload_n 0, 1) := by decide +kernel
theorem dL_weight_16 : decode cL_weight 16 = .ok (.iload_n 1, 1) := by decide +kernel
theorem dL_weight_17 : decode cL_weight 17 = .ok (.iload 4, 2) := by decide +kernel
theorem dL_weight_19 : decode cL_weight 19 = .ok (.invokevirtual 45, 3) := by decide +kernel
theorem dL_weight_22 : decode cL_weight 22 = .ok (.istore 5, 2) := by decide +kernel
theorem dL_weight_24 : decode cL_weight 24 = .ok (.iload_n 3, 1) := by decide +kernel
theorem dL_weight_25 : decode cL_weight 25 = .ok (.aload_n 0, 1) := by decide +kernel
theorem dL_weight_26 : decode cL_weight 26 = .ok (.iload_n 1, 1) := by decide +kernel
theorem dL_weight_27 : decode cL_weight 27 = .ok (.iload 5, 2) := by decide +kernel
theorem dL_weight_29 : decode cL_weight 29 = .ok (.invokevirtual 112, 3) := by decide +kernel
theorem dL_weight_32 : decode cL_weight 32 = .ok (.iload_n 2, 1) := by decide +kernel
theorem dL_weight_33 : decode cL_weight 33 = .ok (.if_icmp .ne 20, 3) := by decide +kernel
theorem dL_weight_36 : decode cL_weight 36 = .ok (.aload_n 0, 1) := by decide +kernel
theorem dL_weight_37 : decode cL_weight 37 = .ok (.iload_n 1, 1) := by decide +kernel
theorem dL_weight_38 : decode cL_weight 38 = .ok (.iload 5, 2) := by decide +kernel
theorem dL_weight_40 : decode cL_weight 40 = .ok (.invokevirtual 116, 3) := by decide +kernel
theorem dL_weight_43 : decode cL_weight 43 = .ok (.aload_n 0, 1) := by decide +kernel
theorem dL_weight_44 : decode cL_weight 44 = .ok (.iload 5, 2) := by decide +kernel
theorem dL_weight_46 : decode cL_weight 46 = .ok (.invokevirtual 119, 3) := by decide +kernel
theorem dL_weight_49 : decode cL_weight 49 = .ok (.imul, 1) := by decide +kernel
theorem dL_weight_50 : decode cL_weight 50 = .ok (.goto 4, 3) := by decide +kernel
theorem dL_weight_53 : decode cL_weight 53 = .ok (.iconst 0, 1) := by decide +kernel
theorem dL_weight_54 : decode cL_weight 54 = .ok (.iadd, 1) := by decide +kernel
theorem dL_weight_55 : decode cL_weight 55 = .ok (.istore_n 3, 1) := by decide +kernel
theorem dL_weight_56 : decode cL_weight 56 = .ok (.iinc 4 1, 3) := by decide +kernel
theorem dL_weight_59 : decode cL_weight 59 = .ok (.goto (-54), 3) := by decide +kernel
theorem dL_weight_62 : decode cL_weight 62 = .ok (.iload_n 3, 1) := by decide +kernel
theorem dL_weight_63 : decode cL_weight 63 = .ok (.ireturn, 1) := by decide +kernel
theorem dL_isLine_0 : decode cL_isLine 0 = .ok (.iload_n 1, 1) := by decide +kernel
theorem dL_isLine_1 : decode cL_isLine 1 = .ok (.aload_n 2, 1) := by decide +kernel
theorem dL_isLine_2 : decode cL_isLine 2 = .ok (.invokevirtual 122, 3) := by decide +kernel
theorem dL_isLine_5 : decode cL_isLine 5 = .ok (.if_icmp .eq 5, 3) := by decide +kernel
theorem dL_isLine_8 : decode cL_isLine 8 = .ok (.iconst 0, 1) := by decide +kernel
theorem dL_isLine_9 : decode cL_isLine 9 = .ok (.ireturn, 1) := by decide +kernel
theorem dL_isLine_10 : decode cL_isLine 10 = .ok (.iconst 0, 1) := by decide +kernel
theorem dL_isLine_11 : decode cL_isLine 11 = .ok (.istore_n 3, 1) := by decide +kernel
theorem dL_isLine_12 : decode cL_isLine 12 = .ok (.iload_n 3, 1) := by decide +kernel
theorem dL_isLine_13 : decode cL_isLine 13 = .ok (.iload_n 1, 1) := by decide +kernel
theorem dL_isLine_14 : decode cL_isLine 14 = .ok (.if_icmp .ge 24, 3) := by decide +kernel
theorem dL_isLine_17 : decode cL_isLine 17 = .ok (.aload_n 0, 1) := by decide +kernel
theorem dL_isLine_18 : decode cL_isLine 18 = .ok (.iload_n 3, 1) := by decide +kernel
theorem dL_isLine_19 : decode cL_isLine 19 = .ok (.invokevirtual 127, 3) := by decide +kernel
theorem dL_isLine_22 : decode cL_isLine 22 = .ok (.aload_n 2, 1) := by decide +kernel
theorem dL_isLine_23 : decode cL_isLine 23 = .ok (.iload_n 3, 1) := by decide +kernel
theorem dL_isLine_24 : decode cL_isLine 24 = .ok (.invokevirtual 131, 3) := by decide +kernel
theorem dL_isLine_27 : decode cL_isLine 27 = .ok (.if_icmp .eq 5, 3) := by decide +kernel
theorem dL_isLine_30 : decode cL_isLine 30 = .ok (.iconst 0, 1) := by decide +kernel
theorem dL_isLine_31 : decode cL_isLine 31 = .ok (.ireturn, 1) := by decide +kernel
theorem dL_isLine_32 : decode cL_isLine 32 = .ok (.iinc 3 1, 3) := by decide +kernel
theorem dL_isLine_35 : decode cL_isLine 35 = .ok (.goto (-23), 3) := by decide +kernel
theorem dL_isLine_38 : decode cL_isLine 38 = .ok (.iconst 1, 1) := by decide +kernel
theorem dL_isLine_39 : decode cL_isLine 39 = .ok (.ireturn, 1) := by decide +kernel
theorem dL_law_0 : decode cL_law 0 = .ok (.new 14, 3) := by decide +kernel
theorem dL_law_3 : decode cL_law 3 = .ok (.dup, 1) := by decide +kernel
theorem dL_law_4 : decode cL_law 4 = .ok (.invokespecial 134, 3) := by decide +kernel
theorem dL_law_7 : decode cL_law 7 = .ok (.astore_n 1, 1) := by decide +kernel
theorem dL_law_8 : decode cL_law 8 = .ok (.aload_n 1, 1) := by decide +kernel
theorem dL_law_9 : decode cL_law 9 = .ok (.aload_n 0, 1) := by decide +kernel
theorem dL_law_10 : decode cL_law 10 = .ok (.invokestatic 135, 3) := by decide +kernel
theorem dL_law_13 : decode cL_law 13 = .ok (.iconst 0, 1) := by decide +kernel
theorem dL_law_14 : decode cL_law 14 = .ok (.istore_n 2, 1) := by decide +kernel
theorem dL_law_15 : decode cL_law 15 = .ok (.iload_n 2, 1) := by decide +kernel
theorem dL_law_16 : decode cL_law 16 = .ok (.iconst 4, 1) := by decide +kernel
theorem dL_law_17 : decode cL_law 17 = .ok (.if_icmp .ge 1763, 3) := by decide +kernel
theorem dL_law_20 : decode cL_law 20 = .ok (.aload_n 1, 1) := by decide +kernel
theorem dL_law_21 : decode cL_law 21 = .ok (.invokevirtual 88, 3) := by decide +kernel
theorem dL_law_24 : decode cL_law 24 = .ok (.istore_n 3, 1) := by decide +kernel
theorem dL_law_25 : decode cL_law 25 = .ok (.aload_n 1, 1) := by decide +kernel
theorem dL_law_26 : decode cL_law 26 = .ok (.invokevirtual 91, 3) := by decide +kernel
theorem dL_law_29 : decode cL_law 29 = .ok (.istore 4, 2) := by decide +kernel
theorem dL_law_31 : decode cL_law 31 = .ok (.iconst 0, 1) := by decide +kernel
theorem dL_law_32 : decode cL_law 32 = .ok (.istore 5, 2) := by decide +kernel
theorem dL_law_34 : decode cL_law 34 = .ok (.iconst 0, 1) := by decide +kernel
theorem dL_law_35 : decode cL_law 35 = .ok (.istore 6, 2) := by decide +kernel
theorem dL_law_37 : decode cL_law 37 = .ok (.iconst 0, 1) := by decide +kernel
theorem dL_law_38 : decode cL_law 38 = .ok (.istore 7, 2) := by decide +kernel
theorem dL_law_40 : decode cL_law 40 = .ok (.iconst 0, 1) := by decide +kernel
theorem dL_law_41 : decode cL_law 41 = .ok (.istore 8, 2) := by decide +kernel
theorem dL_law_43 : decode cL_law 43 = .ok (.sipush (-30000), 3) := by decide +kernel
theorem dL_law_46 : decode cL_law 46 = .ok (.istore 9, 2) := by decide +kernel
theorem dL_law_48 : decode cL_law 48 = .ok (.iconst 0, 1) := by decide +kernel
theorem dL_law_49 : decode cL_law 49 = .ok (.istore 10, 2) := by decide +kernel
theorem dL_law_51 : decode cL_law 51 = .ok (.bipush 6, 2) := by decide +kernel
theorem dL_law_53 : decode cL_law 53 = .ok (.newarray .int, 2) := by decide +kernel
theorem dL_law_55 : decode cL_law 55 = .ok (.astore 11, 2) := by decide +kernel
theorem dL_law_57 : decode cL_law 57 = .ok (.bipush 8, 2) := by decide +kernel
theorem dL_law_59 : decode cL_law 59 = .ok (.newarray .int, 2) := by decide +kernel
theorem dL_law_61 : decode cL_law 61 = .ok (.astore 12, 2) := by decide +kernel
theorem dL_law_63 : decode cL_law 63 = .ok (.bipush 8, 2) := by decide +kernel
theorem dL_law_65 : decode cL_law 65 = .ok (.newarray .int, 2) := by decide +kernel
theorem dL_law_67 : decode cL_law 67 = .ok (.astore 13, 2) := by decide +kernel
theorem dL_law_69 : decode cL_law 69 = .ok (.iconst 0, 1) := by decide +kernel
theorem dL_law_70 : decode cL_law 70 = .ok (.istore 14, 2) := by decide +kernel
theorem dL_law_72 : decode cL_law 72 = .ok (.iload 14, 2) := by decide +kernel
theorem dL_law_74 : decode cL_law 74 = .ok (.iload 4, 2) := by decide +kernel
theorem dL_law_76 : decode cL_law 76 = .ok (.if_icmp .ge 18, 3) := by decide +kernel
theorem dL_law_79 : decode cL_law 79 = .ok (.aload 12, 2) := by decide +kernel
theorem dL_law_81 : decode cL_law 81 = .ok (.iload 14, 2) := by decide +kernel
theorem dL_law_83 : decode cL_law 83 = .ok (.iconst 1, 1) := by decide +kernel
theorem dL_law_84 : decode cL_law 84 = .ok (.iload 14, 2) := by decide +kernel
theorem dL_law_86 : decode cL_law 86 = .ok (.ishl, 1) := by decide +kernel
theorem dL_law_87 : decode cL_law 87 = .ok (.iastore, 1) := by decide +kernel
theorem dL_law_88 : decode cL_law 88 = .ok (.iinc 14 1, 3) := by decide +kernel
theorem dL_law_91 : decode cL_law 91 = .ok (.goto (-19), 3) := by decide +kernel
theorem dL_law_94 : decode cL_law 94 = .ok (.iconst 0, 1) := by decide +kernel
theorem dL_law_95 : decode cL_law 95 = .ok (.istore 14, 2) := by decide +kernel
theorem dL_law_97 : decode cL_law 97 = .ok (.iload 14, 2) := by decide +kernel
theorem dL_law_99 : decode cL_law 99 = .ok (.iload_n 3, 1) := by decide +kernel
theorem dL_law_100 : decode cL_law 100 = .ok (.if_icmp .ge 989, 3) := by decide +kernel
theorem dL_law_103 : decode cL_law 103 = .ok (.aload_n 1, 1) := by decide +kernel
theorem dL_law_104 : decode cL_law 104 = .ok (.iload 14, 2) := by decide +kernel
theorem dL_law_106 : decode cL_law 106 = .ok (.invokevirtual 139, 3) := by decide +kernel
theorem dL_law_109 : decode cL_law 109 = .ok (.istore 15, 2) := by decide +kernel
theorem dL_law_111 : decode cL_law 111 = .ok (.aload_n 1, 1) := by decide +kernel
theorem dL_law_112 : decode cL_law 112 = .ok (.iload 14, 2) := by decide +kernel
theorem dL_law_114 : decode cL_law 114 = .ok (.invokevirtual 142, 3) := by decide +kernel
theorem dL_law_117 : decode cL_law 117 = .ok (.istore 16, 2) := by decide +kernel
theorem dL_law_119 : decode cL_law 119 = .ok (.aload_n 1, 1) := by decide +kernel
theorem dL_law_120 : decode cL_law 120 = .ok (.iload 14, 2) := by decide +kernel
theorem dL_law_122 : decode cL_law 122 = .ok (.invokevirtual 109, 3) := by decide +kernel
theorem dL_law_125 : decode cL_law 125 = .ok (.istore 17, 2) := by decide +kernel
theorem dL_law_127 : decode cL_law 127 = .ok (.aload_n 1, 1) := by decide +kernel
theorem dL_law_128 : decode cL_law 128 = .ok (.iload 14, 2) := by decide +kernel
theorem dL_law_130 : decode cL_law 130 = .ok (.invokestatic 145, 3) := by decide +kernel
theorem dL_law_133 : decode cL_law 133 = .ok (.istore 18, 2) := by decide +kernel
theorem dL_law_135 : decode cL_law 135 = .ok (.aload_n 1, 1) := by decide +kernel
theorem dL_law_136 : decode cL_law 136 = .ok (.iload 14, 2) := by decide +kernel
theorem dL_law_138 : decode cL_law 138 = .ok (.iconst 1, 1) := by decide +kernel
theorem dL_law_139 : decode cL_law 139 = .ok (.invokestatic 148, 3) := by decide +kernel
theorem dL_law_142 : decode cL_law 142 = .ok (.istore 19, 2) := by decide +kernel
theorem dL_law_144 : decode cL_law 144 = .ok (.aload_n 1, 1) := by decide +kernel
theorem dL_law_145 : decode cL_law 145 = .ok (.iload 14, 2) := by decide +kernel
theorem dL_law_147 : decode cL_law 147 = .ok (.iconst 0, 1) := by decide +kernel
theorem dL_law_148 : decode cL_law 148 = .ok (.invokestatic 148, 3) := by decide +kernel
theorem dL_law_151 : decode cL_law 151 = .ok (.istore 20, 2) := by decide +kernel
theorem dL_law_153 : decode cL_law 153 = .ok (.iload 19, 2) := by decide +kernel
theorem dL_law_155 : decode cL_law 155 = .ok (.iload 20, 2) := by decide +kernel
theorem dL_law_157 : decode cL_law 157 = .ok (.isub, 1) := by decide +kernel
theorem dL_law_158 : decode cL_law 158 = .ok (.iconst 2, 1) := by decide +kernel
theorem dL_law_159 : decode cL_law 159 = .ok (.iload 16, 2) := by decide +kernel
theorem dL_law_161 : decode cL_law 161 = .ok (.iconst 1, 1) := by decide +kernel
theorem dL_law_162 : decode cL_law 162 = .ok (.iadd, 1) := by decide +kernel
theorem dL_law_163 : decode cL_law 163 = .ok (.imul, 1) := by decide +kernel
theorem dL_law_164 : decode cL_law 164 = .ok (.isub, 1) := by decide +kernel
theorem dL_law_165 : decode cL_law 165 = .ok (.istore 21, 2) := by decide +kernel
theorem dL_law_167 : decode cL_law 167 = .ok (.iconst 0, 1) := by decide +kernel
theorem dL_law_168 : decode cL_law 168 = .ok (.istore 22, 2) := by decide +kernel
theorem dL_law_170 : decode cL_law 170 = .ok (.sipush (-30000), 3) := by decide +kernel
theorem dL_law_173 : decode cL_law 173 = .ok (.istore 23, 2) := by decide +kernel
theorem dL_law_175 : decode cL_law 175 = .ok (.iconst 0, 1) := by decide +kernel
theorem dL_law_176 : decode cL_law 176 = .ok (.istore 24, 2) := by decide +kernel
theorem dL_law_178 : decode cL_law 178 = .ok (.new 152, 3) := by decide +kernel
theorem dL_law_181 : decode cL_law 181 = .ok (.dup, 1) := by decide +kernel
theorem dL_law_182 : decode cL_law 182 = .ok (.invokespecial 154, 3) := by decide +kernel
theorem dL_law_185 : decode cL_law 185 = .ok (.iload 14, 2) := by decide +kernel
theorem dL_law_187 : decode cL_law 187 = .ok (.invokevirtual 155, 3) := by decide +kernel
theorem dL_law_190 : decode cL_law 190 = .ok (.ldc 159, 2) := by decide +kernel
theorem dL_law_192 : decode cL_law 192 = .ok (.invokevirtual 161, 3) := by decide +kernel
theorem dL_law_195 : decode cL_law 195 = .ok (.iload 15, 2) := by decide +kernel
theorem dL_law_197 : decode cL_law 197 = .ok (.invokevirtual 155, 3) := by decide +kernel
theorem dL_law_200 : decode cL_law 200 = .ok (.ldc 164, 2) := by decide +kernel
theorem dL_law_202 : decode cL_law 202 = .ok (.invokevirtual 161, 3) := by decide +kernel
theorem dL_law_205 : decode cL_law 205 = .ok (.iload 16, 2) := by decide +kernel
theorem dL_law_207 : decode cL_law 207 = .ok (.invokevirtual 155, 3) := by decide +kernel
theorem dL_law_210 : decode cL_law 210 = .ok (.iload 18, 2) := by decide +kernel
theorem dL_law_212 : decode cL_law 212 = .ok (.sipush (-10000), 3) := by decide +kernel
theorem dL_law_215 : decode cL_law 215 = .ok (.if_icmp .ne 8, 3) := by decide +kernel
theorem dL_law_218 : decode cL_law 218 = .ok (.ldc 166, 2) := by decide +kernel
theorem dL_law_220 : decode cL_law 220 = .ok (.goto 16, 3) := by decide +kernel
theorem dL_law_223 : decode cL_law 223 = .ok (.iload 18, 2) := by decide +kernel
theorem dL_law_225 : decode cL_law 225 = .ok (.iconst 1, 1) := by decide +kernel
theorem dL_law_226 : decode cL_law 226 = .ok (.if_icmp .ne 8, 3) := by decide +kernel
theorem dL_law_229 : decode cL_law 229 = .ok (.ldc 168, 2) := by decide +kernel
theorem dL_law_231 : decode cL_law 231 = .ok (.goto 5, 3) := by decide +kernel
theorem dL_law_234 : decode cL_law 234 = .ok (.ldc 170, 2) := by decide +kernel
theorem dL_law_236 : decode cL_law 236 = .ok (.invokevirtual 161, 3) := by decide +kernel
theorem dL_law_239 : decode cL_law 239 = .ok (.aload_n 1, 1) := by decide +kernel
theorem dL_law_240 : decode cL_law 240 = .ok (.iload 14, 2) := by decide +kernel
theorem dL_law_242 : decode cL_law 242 = .ok (.invokevirtual 172, 3) := by decide +kernel
theorem dL_law_245 : decode cL_law 245 = .ok (.ifCond .eq 8, 3) := by decide +kernel
theorem dL_law_248 : decode cL_law 248 = .ok (.ldc 175, 2) := by decide +kernel
theorem dL_law_250 : decode cL_law 250 = .ok (.goto 5, 3) := by decide +kernel
theorem dL_law_253 : decode cL_law 253 = .ok (.ldc 177, 2) := by decide +kernel
theorem dL_law_255 : decode cL_law 255 = .ok (.invokevirtual 161, 3) := by decide +kernel
theorem dL_law_258 : decode cL_law 258 = .ok (.invokevirtual 179, 3) := by decide +kernel
theorem dL_law_261 : decode cL_law 261 = .ok (.astore 25, 2) := by decide +kernel
theorem dL_law_263 : decode cL_law 263 = .ok (.iconst 0, 1) := by decide +kernel
theorem dL_law_264 : decode cL_law 264 = .ok (.istore 26, 2) := by decide +kernel
theorem dL_law_266 : decode cL_law 266 = .ok (.iload 26, 2) := by decide +kernel
theorem dL_law_268 : decode cL_law 268 = .ok (.iload 14, 2) := by decide +kernel
theorem dL_law_270 : decode cL_law 270 = .ok (.if_icmp .ge 33, 3) := by decide +kernel
theorem dL_law_273 : decode cL_law 273 = .ok (.aload_n 1, 1) := by decide +kernel
theorem dL_law_274 : decode cL_law 274 = .ok (.iload 26, 2) := by decide +kernel
theorem dL_law_276 : decode cL_law 276 = .ok (.invokevirtual 139, 3) := by decide +kernel
theorem dL_law_279 : decode cL_law 279 = .ok (.iload 15, 2) := by decide +kernel
theorem dL_law_281 : decode cL_law 281 = .ok (.if_icmp .ne 16, 3) := by decide +kernel
theorem dL_law_284 : decode cL_law 284 = .ok (.aload_n 1, 1) := by decide +kernel
theorem dL_law_285 : decode cL_law 285 = .ok (.iload 26, 2) := by decide +kernel
theorem dL_law_287 : decode cL_law 287 = .ok (.invokevirtual 142, 3) := by decide +kernel
theorem dL_law_290 : decode cL_law 290 = .ok (.iload 16, 2) := by decide +kernel
theorem dL_law_292 : decode cL_law 292 = .ok (.if_icmp .ne 5, 3) := by decide +kernel
theorem dL_law_295 : decode cL_law 295 = .ok (.iconst 0, 1) := by decide +kernel
theorem dL_law_296 : decode cL_law 296 = .ok (.ireturn, 1) := by decide +kernel
theorem dL_law_297 : decode cL_law 297 = .ok (.iinc 26 1, 3) := by decide +kernel
theorem dL_law_300 : decode cL_law 300 = .ok (.goto (-34), 3) := by decide +kernel
theorem dL_law_303 : decode cL_law 303 = .ok (.aload_n 1, 1) := by decide +kernel
theorem dL_law_304 : decode cL_law 304 = .ok (.iload 15, 2) := by decide +kernel
theorem dL_law_306 : decode cL_law 306 = .ok (.iload 16, 2) := by decide +kernel
theorem dL_law_308 : decode cL_law 308 = .ok (.invokevirtual 183, 3) := by decide +kernel
theorem dL_law_311 : decode cL_law 311 = .ok (.iload 14, 2) := by decide +kernel
theorem dL_law_313 : decode cL_law 313 = .ok (.if_icmp .ne 167, 3) := by decide +kernel
theorem dL_law_316 : decode cL_law 316 = .ok (.aload_n 1, 1) := by decide +kernel
theorem dL_law_317 : decode cL_law 317 = .ok (.iload 14, 2) := by decide +kernel
theorem dL_law_319 : decode cL_law 319 = .ok (.invokevirtual 186, 3) := by decide +kernel
theorem dL_law_322 : decode cL_law 322 = .ok (.ifCond .eq 7, 3) := by decide +kernel
theorem dL_law_325 : decode cL_law 325 = .ok (.iconst 1, 1) := by decide +kernel
theorem dL_law_326 : decode cL_law 326 = .ok (.goto 4, 3) := by decide +kernel
theorem dL_law_329 : decode cL_law 329 = .ok (.iconst 0, 1) := by decide +kernel
theorem dL_law_330 : decode cL_law 330 = .ok (.aload_n 1, 1) := by decide +kernel
theorem dL_law_331 : decode cL_law 331 = .ok (.iload 14, 2) := by decide +kernel
theorem dL_law_333 : decode cL_law 333 = .ok (.invokevirtual 189, 3) := by decide +kernel
theorem dL_law_336 : decode cL_law 336 = .ok (.ifCond .eq 7, 3) := by decide +kernel
theorem dL_law_339 : decode cL_law 339 = .ok (.iconst 1, 1) := by decide +kernel
theorem dL_law_340 : decode cL_law 340 = .ok (.goto 4, 3) := by decide +kernel
theorem dL_law_343 : decode cL_law 343 = .ok (.iconst 0, 1) := by decide +kernel
theorem dL_law_344 : decode cL_law 344 = .ok (.iadd, 1) := by decide +kernel
theorem dL_law_345 : decode cL_law 345 = .ok (.aload_n 1, 1) := by decide +kernel
theorem dL_law_346 : decode cL_law 346 = .ok (.iload 14, 2) := by decide +kernel
theorem dL_law_348 : decode cL_law 348 = .ok (.invokevirtual 172, 3) := by decide +kernel
theorem dL_law_351 : decode cL_law 351 = .ok (.ifCond .eq 7, 3) := by decide +kernel
theorem dL_law_354 : decode cL_law 354 = .ok (.iconst 1, 1) := by decide +kernel
theorem dL_law_355 : decode cL_law 355 = .ok (.goto 4, 3) := by decide +kernel
theorem dL_law_358 : decode cL_law 358 = .ok (.iconst 0, 1) := by decide +kernel
theorem dL_law_359 : decode cL_law 359 = .ok (.iadd, 1) := by decide +kernel
theorem dL_law_360 : decode cL_law 360 = .ok (.iconst 1, 1) := by decide +kernel
theorem dL_law_361 : decode cL_law 361 = .ok (.if_icmp .ne 119, 3) := by decide +kernel
theorem dL_law_364 : decode cL_law 364 = .ok (.aload_n 1, 1) := by decide +kernel
theorem dL_law_365 : decode cL_law 365 = .ok (.iload 14, 2) := by decide +kernel
theorem dL_law_367 : decode cL_law 367 = .ok (.invokevirtual 186, 3) := by decide +kernel
theorem dL_law_370 : decode cL_law 370 = .ok (.iload 18, 2) := by decide +kernel
theorem dL_law_372 : decode cL_law 372 = .ok (.sipush (-10000), 3) := by decide +kernel
theorem dL_law_375 : decode cL_law 375 = .ok (.if_icmp .ne 7, 3) := by decide +kernel
theorem dL_law_378 : decode cL_law 378 = .ok (.iconst 1, 1) := by decide +kernel
theorem dL_law_379 : decode cL_law 379 = .ok (.goto 4, 3) := by decide +kernel
theorem dL_law_382 : decode cL_law 382 = .ok (.iconst 0, 1) := by decide +kernel
theorem dL_law_383 : decode cL_law 383 = .ok (.if_icmp .ne 97, 3) := by decide +kernel
theorem dL_law_386 : decode cL_law 386 = .ok (.iload 17, 2) := by decide +kernel
theorem dL_law_388 : decode cL_law 388 = .ok (.bipush 6, 2) := by decide +kernel
theorem dL_law_390 : decode cL_law 390 = .ok (.if_icmp .gt 90, 3) := by decide +kernel
theorem dL_law_393 : decode cL_law 393 = .ok (.aload_n 1, 1) := by decide +kernel
theorem dL_law_394 : decode cL_law 394 = .ok (.iload 14, 2) := by decide +kernel
theorem dL_law_396 : decode cL_law 396 = .ok (.invokevirtual 192, 3) := by decide +kernel
theorem dL_law_399 : decode cL_law 399 = .ok (.iconst 2, 1) := by decide +kernel
theorem dL_law_400 : decode cL_law 400 = .ok (.if_icmp .gt 80, 3) := by decide +kernel
theorem dL_law_403 : decode cL_law 403 = .ok (.aload_n 1, 1) := by decide +kernel
theorem dL_law_404 : decode cL_law 404 = .ok (.iload 14, 2) := by decide +kernel
theorem dL_law_406 : decode cL_law 406 = .ok (.invokevirtual 192, 3) := by decide +kernel
theorem dL_law_409 : decode cL_law 409 = .ok (.iconst 2, 1) := by decide +kernel
theorem dL_law_410 : decode cL_law 410 = .ok (.if_icmp .ne 12, 3) := by decide +kernel
theorem dL_law_413 : decode cL_law 413 = .ok (.aload_n 1, 1) := by decide +kernel
theorem dL_law_414 : decode cL_law 414 = .ok (.iload 14, 2) := by decide +kernel
theorem dL_law_416 : decode cL_law 416 = .ok (.invokevirtual 189, 3) := by decide +kernel
theorem dL_law_419 : decode cL_law 419 = .ok (.ifCond .ne 61, 3) := by decide +kernel
theorem dL_law_422 : decode cL_law 422 = .ok (.aload_n 1, 1) := by decide +kernel
theorem dL_law_423 : decode cL_law 423 = .ok (.iload 14, 2) := by decide +kernel
theorem dL_law_425 : decode cL_law 425 = .ok (.iload 17, 2) := by decide +kernel
theorem dL_law_427 : decode cL_law 427 = .ok (.invokestatic 195, 3) := by decide +kernel
theorem dL_law_430 : decode cL_law 430 = .ok (.sipush (-30000), 3) := by decide +kernel
theorem dL_law_433 : decode cL_law 433 = .ok (.if_icmp .ne 47, 3) := by decide +kernel
theorem dL_law_436 : decode cL_law 436 = .ok (.aload_n 1, 1) := by decide +kernel
theorem dL_law_437 : decode cL_law 437 = .ok (.iload 14, 2) := by decide +kernel
theorem dL_law_439 : decode cL_law 439 = .ok (.invokevirtual 197, 3) := by decide +kernel
theorem dL_law_442 : decode cL_law 442 = .ok (.iload 19, 2) := by decide +kernel
theorem dL_law_444 : decode cL_law 444 = .ok (.if_icmp .ne 36, 3) := by decide +kernel
theorem dL_law_447 : decode cL_law 447 = .ok (.aload_n 1, 1) := by decide +kernel
theorem dL_law_448 : decode cL_law 448 = .ok (.iload 14, 2) := by decide +kernel
theorem dL_law_450 : decode cL_law 450 = .ok (.invokevirtual 200, 3) := by decide +kernel
theorem dL_law_453 : decode cL_law 453 = .ok (.iload 20, 2) := by decide +kernel
theorem dL_law_455 : decode cL_law 455 = .ok (.if_icmp .ne 25, 3) := by decide +kernel
theorem dL_law_458 : decode cL_law 458 = .ok (.aload_n 1, 1) := by decide +kernel
theorem dL_law_459 : decode cL_law 459 = .ok (.iload 14, 2) := by decide +kernel
theorem dL_law_461 : decode cL_law 461 = .ok (.invokevirtual 203, 3) := by decide +kernel
theorem dL_law_464 : decode cL_law 464 = .ok (.iload 21, 2) := by decide +kernel
theorem dL_law_466 : decode cL_law 466 = .ok (.if_icmp .ne 14, 3) := by decide +kernel
theorem dL_law_469 : decode cL_law 469 = .ok (.aload_n 1, 1) := by decide +kernel
theorem dL_law_470 : decode cL_law 470 = .ok (.iload 14, 2) := by decide +kernel
theorem dL_law_472 : decode cL_law 472 = .ok (.invokevirtual 206, 3) := by decide +kernel
theorem dL_law_475 : decode cL_law 475 = .ok (.iload 21, 2) := by decide +kernel
theorem dL_law_477 : decode cL_law 477 = .ok (.if_icmp .eq 5, 3) := by decide +kernel
theorem dL_law_480 : decode cL_law 480 = .ok (.iconst 0, 1) := by decide +kernel
theorem dL_law_481 : decode cL_law 481 = .ok (.ireturn, 1) := by decide +kernel
theorem dL_law_482 : decode cL_law 482 = .ok (.iconst 0, 1) := by decide +kernel
theorem dL_law_483 : decode cL_law 483 = .ok (.istore 26, 2) := by decide +kernel
theorem dL_law_485 : decode cL_law 485 = .ok (.iload 26, 2) := by decide +kernel
theorem dL_law_487 : decode cL_law 487 = .ok (.iload 17, 2) := by decide +kernel
theorem dL_law_489 : decode cL_law 489 = .ok (.if_icmp .ge 273, 3) := by decide +kernel
theorem dL_law_492 : decode cL_law 492 = .ok (.aload_n 1, 1) := by decide +kernel
theorem dL_law_493 : decode cL_law 493 = .ok (.iload 14, 2) := by decide +kernel
theorem dL_law_495 : decode cL_law 495 = .ok (.iload 26, 2) := by decide +kernel
theorem dL_law_497 : decode cL_law 497 = .ok (.invokevirtual 45, 3) := by decide +kernel
theorem dL_law_500 : decode cL_law 500 = .ok (.istore 27, 2) := by decide +kernel
theorem dL_law_502 : decode cL_law 502 = .ok (.aload_n 1, 1) := by decide +kernel
theorem dL_law_503 : decode cL_law 503 = .ok (.iload 14, 2) := by decide +kernel
theorem dL_law_505 : decode cL_law 505 = .ok (.iload 27, 2) := by decide +kernel
theorem dL_law_507 : decode cL_law 507 = .ok (.invokevirtual 116, 3) := by decide +kernel
theorem dL_law_510 : decode cL_law 510 = .ok (.istore 28, 2) := by decide +kernel
theorem dL_law_512 : decode cL_law 512 = .ok (.aload_n 1, 1) := by decide +kernel
theorem dL_law_513 : decode cL_law 513 = .ok (.iload 14, 2) := by decide +kernel
theorem dL_law_515 : decode cL_law 515 = .ok (.iload 27, 2) := by decide +kernel
theorem dL_law_517 : decode cL_law 517 = .ok (.invokevirtual 112, 3) := by decide +kernel
theorem dL_law_520 : decode cL_law 520 = .ok (.ifCond .eq 7, 3) := by decide +kernel
theorem dL_law_523 : decode cL_law 523 = .ok (.iconst 1, 1) := by decide +kernel
theorem dL_law_524 : decode cL_law 524 = .ok (.goto 4, 3) := by decide +kernel
theorem dL_law_527 : decode cL_law 527 = .ok (.iconst (-1), 1) := by decide +kernel
theorem dL_law_528 : decode cL_law 528 = .ok (.istore 29, 2) := by decide +kernel
theorem dL_law_530 : decode cL_law 530 = .ok (.sipush (-30000), 3) := by decide +kernel
theorem dL_law_533 : decode cL_law 533 = .ok (.istore 30, 2) := by decide +kernel
theorem dL_law_535 : decode cL_law 535 = .ok (.bipush 9, 2) := by decide +kernel
theorem dL_law_537 : decode cL_law 537 = .ok (.aload_n 1, 1) := by decide +kernel
theorem dL_law_538 : decode cL_law 538 = .ok (.iload 27, 2) := by decide +kernel
theorem dL_law_540 : decode cL_law 540 = .ok (.invokevirtual 119, 3) := by decide +kernel
theorem dL_law_543 : decode cL_law 543 = .ok (.isub, 1) := by decide +kernel
theorem dL_law_544 : decode cL_law 544 = .ok (.istore 31, 2) := by decide +kernel
theorem dL_law_546 : decode cL_law 546 = .ok (.iload 31, 2) := by decide +kernel
theorem dL_law_548 : decode cL_law 548 = .ok (.ifCond .lt 32, 3) := by decide +kernel
theorem dL_law_551 : decode cL_law 551 = .ok (.iload 21, 2) := by decide +kernel
theorem dL_law_553 : decode cL_law 553 = .ok (.iload 31, 2) := by decide +kernel
theorem dL_law_555 : decode cL_law 555 = .ok (.iload 28, 2) := by decide +kernel
theorem dL_law_557 : decode cL_law 557 = .ok (.imul, 1) := by decide +kernel
theorem dL_law_558 : decode cL_law 558 = .ok (.iload 29, 2) := by decide +kernel
theorem dL_law_560 : decode cL_law 560 = .ok (.imul, 1) := by decide +kernel
theorem dL_law_561 : decode cL_law 561 = .ok (.iadd, 1) := by decide +kernel
theorem dL_law_562 : decode cL_law 562 = .ok (.ifCond .le 8, 3) := by decide +kernel
theorem dL_law_565 : decode cL_law 565 = .ok (.iload 31, 2) := by decide +kernel
theorem dL_law_567 : decode cL_law 567 = .ok (.goto 5, 3) := by decide +kernel
theorem dL_law_570 : decode cL_law 570 = .ok (.iload 30, 2) := by decide +kernel
theorem dL_law_572 : decode cL_law 572 = .ok (.istore 30, 2) := by decide +kernel
theorem dL_law_574 : decode cL_law 574 = .ok (.iinc 31 (-1), 3) := by decide +kernel
theorem dL_law_577 : decode cL_law 577 = .ok (.goto (-31), 3) := by decide +kernel
theorem dL_law_580 : decode cL_law 580 = .ok (.aload_n 1, 1) := by decide +kernel
theorem dL_law_581 : decode cL_law 581 = .ok (.iload 14, 2) := by decide +kernel
theorem dL_law_583 : decode cL_law 583 = .ok (.iload 27, 2) := by decide +kernel
theorem dL_law_585 : decode cL_law 585 = .ok (.invokevirtual 209, 3) := by decide +kernel
theorem dL_law_588 : decode cL_law 588 = .ok (.ifCond .eq 51, 3) := by decide +kernel
theorem dL_law_591 : decode cL_law 591 = .ok (.iload 22, 2) := by decide +kernel
theorem dL_law_593 : decode cL_law 593 = .ok (.iload 27, 2) := by decide +kernel
theorem dL_law_595 : decode cL_law 595 = .ok (.ishr, 1) := by decide +kernel
theorem dL_law_596 : decode cL_law 596 = .ok (.iconst 1, 1) := by decide +kernel
theorem dL_law_597 : decode cL_law 597 = .ok (.iand, 1) := by decide +kernel
