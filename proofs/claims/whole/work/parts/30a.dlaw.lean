theorem dL_setPlan_0 : decode cL_setPlan 0 = .ok (.aload_n 0, 1) := by decide +kernel
theorem dL_setPlan_1 : decode cL_setPlan 1 = .ok (.iload_n 1, 1) := by decide +kernel
theorem dL_setPlan_2 : decode cL_setPlan 2 = .ok (.iload_n 2, 1) := by decide +kernel
theorem dL_setPlan_3 : decode cL_setPlan 3 = .ok (.invokevirtual 7, 3) := by decide +kernel
theorem dL_setPlan_6 : decode cL_setPlan 6 = .ok (.goto 6, 3) := by decide +kernel
theorem dL_setPlan_9 : decode cL_setPlan 9 = .ok (.astore_n 3, 1) := by decide +kernel
theorem dL_setPlan_10 : decode cL_setPlan 10 = .ok (.iconst 1, 1) := by decide +kernel
theorem dL_setPlan_11 : decode cL_setPlan 11 = .ok (.ireturn, 1) := by decide +kernel
theorem dL_setPlan_12 : decode cL_setPlan 12 = .ok (.iconst 0, 1) := by decide +kernel
theorem dL_setPlan_13 : decode cL_setPlan 13 = .ok (.ireturn, 1) := by decide +kernel
theorem dL_setWays_0 : decode cL_setWays 0 = .ok (.aload_n 0, 1) := by decide +kernel
theorem dL_setWays_1 : decode cL_setWays 1 = .ok (.iload_n 1, 1) := by decide +kernel
theorem dL_setWays_2 : decode cL_setWays 2 = .ok (.iload_n 2, 1) := by decide +kernel
theorem dL_setWays_3 : decode cL_setWays 3 = .ok (.iload_n 3, 1) := by decide +kernel
theorem dL_setWays_4 : decode cL_setWays 4 = .ok (.invokevirtual 15, 3) := by decide +kernel
theorem dL_setWays_7 : decode cL_setWays 7 = .ok (.goto 7, 3) := by decide +kernel
theorem dL_setWays_10 : decode cL_setWays 10 = .ok (.astore 4, 2) := by decide +kernel
theorem dL_setWays_12 : decode cL_setWays 12 = .ok (.iconst 1, 1) := by decide +kernel
theorem dL_setWays_13 : decode cL_setWays 13 = .ok (.ireturn, 1) := by decide +kernel
theorem dL_setWays_14 : decode cL_setWays 14 = .ok (.iconst 0, 1) := by decide +kernel
theorem dL_setWays_15 : decode cL_setWays 15 = .ok (.ireturn, 1) := by decide +kernel
theorem dL_toggleMark_0 : decode cL_toggleMark 0 = .ok (.aload_n 2, 1) := by decide +kernel
theorem dL_toggleMark_1 : decode cL_toggleMark 1 = .ok (.iconst 0, 1) := by decide +kernel
theorem dL_toggleMark_2 : decode cL_toggleMark 2 = .ok (.aload_n 0, 1) := by decide +kernel
theorem dL_toggleMark_3 : decode cL_toggleMark 3 = .ok (.iload_n 1, 1) := by decide +kernel
theorem dL_toggleMark_4 : decode cL_toggleMark 4 = .ok (.invokevirtual 19, 3) := by decide +kernel
theorem dL_toggleMark_7 : decode cL_toggleMark 7 = .ok (.ifCond .eq 7, 3) := by decide +kernel
theorem dL_toggleMark_10 : decode cL_toggleMark 10 = .ok (.lconst 1, 1) := by decide +kernel
theorem dL_toggleMark_11 : decode cL_toggleMark 11 = .ok (.goto 4, 3) := by decide +kernel
theorem dL_toggleMark_14 : decode cL_toggleMark 14 = .ok (.lconst 0, 1) := by decide +kernel
theorem dL_toggleMark_15 : decode cL_toggleMark 15 = .ok (.lastore, 1) := by decide +kernel
theorem dL_toggleMark_16 : decode cL_toggleMark 16 = .ok (.goto 6, 3) := by decide +kernel
theorem dL_toggleMark_19 : decode cL_toggleMark 19 = .ok (.astore_n 3, 1) := by decide +kernel
theorem dL_toggleMark_20 : decode cL_toggleMark 20 = .ok (.iconst 1, 1) := by decide +kernel
theorem dL_toggleMark_21 : decode cL_toggleMark 21 = .ok (.ireturn, 1) := by decide +kernel
theorem dL_toggleMark_22 : decode cL_toggleMark 22 = .ok (.iconst 0, 1) := by decide +kernel
theorem dL_toggleMark_23 : decode cL_toggleMark 23 = .ok (.ireturn, 1) := by decide +kernel
theorem dL_record_0 : decode cL_record 0 = .ok (.aload 5, 2) := by decide +kernel
theorem dL_record_2 : decode cL_record 2 = .ok (.iconst 0, 1) := by decide +kernel
theorem dL_record_3 : decode cL_record 3 = .ok (.aload_n 0, 1) := by decide +kernel
theorem dL_record_4 : decode cL_record 4 = .ok (.iload_n 1, 1) := by decide +kernel
theorem dL_record_5 : decode cL_record 5 = .ok (.iload_n 2, 1) := by decide +kernel
theorem dL_record_6 : decode cL_record 6 = .ok (.lload_n 3, 1) := by decide +kernel
theorem dL_record_7 : decode cL_record 7 = .ok (.invokevirtual 23, 3) := by decide +kernel
theorem dL_record_10 : decode cL_record 10 = .ok (.i2l, 1) := by decide +kernel
theorem dL_record_11 : decode cL_record 11 = .ok (.lastore, 1) := by decide +kernel
theorem dL_record_12 : decode cL_record 12 = .ok (.goto 11, 3) := by decide +kernel
theorem dL_record_15 : decode cL_record 15 = .ok (.astore 6, 2) := by decide +kernel
theorem dL_record_17 : decode cL_record 17 = .ok (.iconst 1, 1) := by decide +kernel
theorem dL_record_18 : decode cL_record 18 = .ok (.ireturn, 1) := by decide +kernel
theorem dL_record_19 : decode cL_record 19 = .ok (.astore 6, 2) := by decide +kernel
theorem dL_record_21 : decode cL_record 21 = .ok (.iconst 2, 1) := by decide +kernel
theorem dL_record_22 : decode cL_record 22 = .ok (.ireturn, 1) := by decide +kernel
theorem dL_record_23 : decode cL_record 23 = .ok (.iconst 0, 1) := by decide +kernel
theorem dL_record_24 : decode cL_record 24 = .ok (.ireturn, 1) := by decide +kernel
theorem dL_correct_0 : decode cL_correct 0 = .ok (.aload 4, 2) := by decide +kernel
theorem dL_correct_2 : decode cL_correct 2 = .ok (.iconst 0, 1) := by decide +kernel
theorem dL_correct_3 : decode cL_correct 3 = .ok (.aload_n 0, 1) := by decide +kernel
theorem dL_correct_4 : decode cL_correct 4 = .ok (.iload_n 1, 1) := by decide +kernel
theorem dL_correct_5 : decode cL_correct 5 = .ok (.lload_n 2, 1) := by decide +kernel
theorem dL_correct_6 : decode cL_correct 6 = .ok (.invokevirtual 29, 3) := by decide +kernel
theorem dL_correct_9 : decode cL_correct 9 = .ok (.lastore, 1) := by decide +kernel
theorem dL_correct_10 : decode cL_correct 10 = .ok (.goto 11, 3) := by decide +kernel
theorem dL_correct_13 : decode cL_correct 13 = .ok (.astore 5, 2) := by decide +kernel
theorem dL_correct_15 : decode cL_correct 15 = .ok (.iconst 1, 1) := by decide +kernel
theorem dL_correct_16 : decode cL_correct 16 = .ok (.ireturn, 1) := by decide +kernel
theorem dL_correct_17 : decode cL_correct 17 = .ok (.astore 5, 2) := by decide +kernel
theorem dL_correct_19 : decode cL_correct 19 = .ok (.iconst 2, 1) := by decide +kernel
theorem dL_correct_20 : decode cL_correct 20 = .ok (.ireturn, 1) := by decide +kernel
theorem dL_correct_21 : decode cL_correct 21 = .ok (.iconst 0, 1) := by decide +kernel
theorem dL_correct_22 : decode cL_correct 22 = .ok (.ireturn, 1) := by decide +kernel
theorem dL_strike_0 : decode cL_strike 0 = .ok (.aload_n 2, 1) := by decide +kernel
theorem dL_strike_1 : decode cL_strike 1 = .ok (.iconst 0, 1) := by decide +kernel
theorem dL_strike_2 : decode cL_strike 2 = .ok (.aload_n 0, 1) := by decide +kernel
theorem dL_strike_3 : decode cL_strike 3 = .ok (.iload_n 1, 1) := by decide +kernel
theorem dL_strike_4 : decode cL_strike 4 = .ok (.invokevirtual 33, 3) := by decide +kernel
theorem dL_strike_7 : decode cL_strike 7 = .ok (.i2l, 1) := by decide +kernel
theorem dL_strike_8 : decode cL_strike 8 = .ok (.lastore, 1) := by decide +kernel
theorem dL_strike_9 : decode cL_strike 9 = .ok (.goto 6, 3) := by decide +kernel
theorem dL_strike_12 : decode cL_strike 12 = .ok (.astore_n 3, 1) := by decide +kernel
theorem dL_strike_13 : decode cL_strike 13 = .ok (.iconst 1, 1) := by decide +kernel
theorem dL_strike_14 : decode cL_strike 14 = .ok (.ireturn, 1) := by decide +kernel
theorem dL_strike_15 : decode cL_strike 15 = .ok (.iconst 0, 1) := by decide +kernel
theorem dL_strike_16 : decode cL_strike 16 = .ok (.ireturn, 1) := by decide +kernel
theorem dL_orderAt_0 : decode cL_orderAt 0 = .ok (.aload_n 2, 1) := by decide +kernel
theorem dL_orderAt_1 : decode cL_orderAt 1 = .ok (.iconst 0, 1) := by decide +kernel
theorem dL_orderAt_2 : decode cL_orderAt 2 = .ok (.aload_n 0, 1) := by decide +kernel
theorem dL_orderAt_3 : decode cL_orderAt 3 = .ok (.iload_n 1, 1) := by decide +kernel
theorem dL_orderAt_4 : decode cL_orderAt 4 = .ok (.invokevirtual 37, 3) := by decide +kernel
theorem dL_orderAt_7 : decode cL_orderAt 7 = .ok (.i2l, 1) := by decide +kernel
theorem dL_orderAt_8 : decode cL_orderAt 8 = .ok (.lastore, 1) := by decide +kernel
theorem dL_orderAt_9 : decode cL_orderAt 9 = .ok (.goto 6, 3) := by decide +kernel
theorem dL_orderAt_12 : decode cL_orderAt 12 = .ok (.astore_n 3, 1) := by decide +kernel
theorem dL_orderAt_13 : decode cL_orderAt 13 = .ok (.iconst 1, 1) := by decide +kernel
theorem dL_orderAt_14 : decode cL_orderAt 14 = .ok (.ireturn, 1) := by decide +kernel
theorem dL_orderAt_15 : decode cL_orderAt 15 = .ok (.iconst 0, 1) := by decide +kernel
theorem dL_orderAt_16 : decode cL_orderAt 16 = .ok (.ireturn, 1) := by decide +kernel
theorem dL_verdict_0 : decode cL_verdict 0 = .ok (.aload_n 2, 1) := by decide +kernel
theorem dL_verdict_1 : decode cL_verdict 1 = .ok (.iconst 0, 1) := by decide +kernel
theorem dL_verdict_2 : decode cL_verdict 2 = .ok (.aload_n 0, 1) := by decide +kernel
theorem dL_verdict_3 : decode cL_verdict 3 = .ok (.iload_n 1, 1) := by decide +kernel
theorem dL_verdict_4 : decode cL_verdict 4 = .ok (.invokevirtual 42, 3) := by decide +kernel
theorem dL_verdict_7 : decode cL_verdict 7 = .ok (.i2l, 1) := by decide +kernel
theorem dL_verdict_8 : decode cL_verdict 8 = .ok (.lastore, 1) := by decide +kernel
theorem dL_verdict_9 : decode cL_verdict 9 = .ok (.goto 6, 3) := by decide +kernel
theorem dL_verdict_12 : decode cL_verdict 12 = .ok (.astore_n 3, 1) := by decide +kernel
theorem dL_verdict_13 : decode cL_verdict 13 = .ok (.iconst 1, 1) := by decide +kernel
theorem dL_verdict_14 : decode cL_verdict 14 = .ok (.ireturn, 1) := by decide +kernel
theorem dL_verdict_15 : decode cL_verdict 15 = .ok (.iconst 0, 1) := by decide +kernel
theorem dL_verdict_16 : decode cL_verdict 16 = .ok (.ireturn, 1) := by decide +kernel
theorem dL_stateAt_0 : decode cL_stateAt 0 = .ok (.aload_n 2, 1) := by decide +kernel
theorem dL_stateAt_1 : decode cL_stateAt 1 = .ok (.iconst 0, 1) := by decide +kernel
theorem dL_stateAt_2 : decode cL_stateAt 2 = .ok (.aload_n 0, 1) := by decide +kernel
theorem dL_stateAt_3 : decode cL_stateAt 3 = .ok (.iload_n 1, 1) := by decide +kernel
theorem dL_stateAt_4 : decode cL_stateAt 4 = .ok (.invokevirtual 45, 3) := by decide +kernel
theorem dL_stateAt_7 : decode cL_stateAt 7 = .ok (.i2l, 1) := by decide +kernel
theorem dL_stateAt_8 : decode cL_stateAt 8 = .ok (.lastore, 1) := by decide +kernel
theorem dL_stateAt_9 : decode cL_stateAt 9 = .ok (.goto 6, 3) := by decide +kernel
theorem dL_stateAt_12 : decode cL_stateAt 12 = .ok (.astore_n 3, 1) := by decide +kernel
theorem dL_stateAt_13 : decode cL_stateAt 13 = .ok (.iconst 1, 1) := by decide +kernel
theorem dL_stateAt_14 : decode cL_stateAt 14 = .ok (.ireturn, 1) := by decide +kernel
theorem dL_stateAt_15 : decode cL_stateAt 15 = .ok (.iconst 0, 1) := by decide +kernel
theorem dL_stateAt_16 : decode cL_stateAt 16 = .ok (.ireturn, 1) := by decide +kernel
theorem dL_inspected_0 : decode cL_inspected 0 = .ok (.aload_n 2, 1) := by decide +kernel
theorem dL_inspected_1 : decode cL_inspected 1 = .ok (.iconst 0, 1) := by decide +kernel
theorem dL_inspected_2 : decode cL_inspected 2 = .ok (.aload_n 0, 1) := by decide +kernel
theorem dL_inspected_3 : decode cL_inspected 3 = .ok (.iload_n 1, 1) := by decide +kernel
theorem dL_inspected_4 : decode cL_inspected 4 = .ok (.invokevirtual 48, 3) := by decide +kernel
theorem dL_inspected_7 : decode cL_inspected 7 = .ok (.i2l, 1) := by decide +kernel
theorem dL_inspected_8 : decode cL_inspected 8 = .ok (.lastore, 1) := by decide +kernel
theorem dL_inspected_9 : decode cL_inspected 9 = .ok (.goto 6, 3) := by decide +kernel
theorem dL_inspected_12 : decode cL_inspected 12 = .ok (.astore_n 3, 1) := by decide +kernel
theorem dL_inspected_13 : decode cL_inspected 13 = .ok (.iconst 1, 1) := by decide +kernel
theorem dL_inspected_14 : decode cL_inspected 14 = .ok (.ireturn, 1) := by decide +kernel
theorem dL_inspected_15 : decode cL_inspected 15 = .ok (.iconst 0, 1) := by decide +kernel
theorem dL_inspected_16 : decode cL_inspected 16 = .ok (.ireturn, 1) := by decide +kernel
theorem dL_badIn_0 : decode cL_badIn 0 = .ok (.aload_n 2, 1) := by decide +kernel
theorem dL_badIn_1 : decode cL_badIn 1 = .ok (.iconst 0, 1) := by decide +kernel
theorem dL_badIn_2 : decode cL_badIn 2 = .ok (.aload_n 0, 1) := by decide +kernel
theorem dL_badIn_3 : decode cL_badIn 3 = .ok (.iload_n 1, 1) := by decide +kernel
theorem dL_badIn_4 : decode cL_badIn 4 = .ok (.invokevirtual 51, 3) := by decide +kernel
theorem dL_badIn_7 : decode cL_badIn 7 = .ok (.i2l, 1) := by decide +kernel
theorem dL_badIn_8 : decode cL_badIn 8 = .ok (.lastore, 1) := by decide +kernel
theorem dL_badIn_9 : decode cL_badIn 9 = .ok (.goto 6, 3) := by decide +kernel
theorem dL_badIn_12 : decode cL_badIn 12 = .ok (.astore_n 3, 1) := by decide +kernel
theorem dL_badIn_13 : decode cL_badIn 13 = .ok (.iconst 1, 1) := by decide +kernel
theorem dL_badIn_14 : decode cL_badIn 14 = .ok (.ireturn, 1) := by decide +kernel
theorem dL_badIn_15 : decode cL_badIn 15 = .ok (.iconst 0, 1) := by decide +kernel
theorem dL_badIn_16 : decode cL_badIn 16 = .ok (.ireturn, 1) := by decide +kernel
theorem dL_count_0 : decode cL_count 0 = .ok (.aload_n 2, 1) := by decide +kernel
theorem dL_count_1 : decode cL_count 1 = .ok (.iconst 0, 1) := by decide +kernel
theorem dL_count_2 : decode cL_count 2 = .ok (.aload_n 0, 1) := by decide +kernel
theorem dL_count_3 : decode cL_count 3 = .ok (.iload_n 1, 1) := by decide +kernel
theorem dL_count_4 : decode cL_count 4 = .ok (.invokevirtual 54, 3) := by decide +kernel
theorem dL_count_7 : decode cL_count 7 = .ok (.i2l, 1) := by decide +kernel
theorem dL_count_8 : decode cL_count 8 = .ok (.lastore, 1) := by decide +kernel
theorem dL_count_9 : decode cL_count 9 = .ok (.goto 6, 3) := by decide +kernel
theorem dL_count_12 : decode cL_count 12 = .ok (.astore_n 3, 1) := by decide +kernel
theorem dL_count_13 : decode cL_count 13 = .ok (.iconst 1, 1) := by decide +kernel
theorem dL_count_14 : decode cL_count 14 = .ok (.ireturn, 1) := by decide +kernel
theorem dL_count_15 : decode cL_count 15 = .ok (.iconst 0, 1) := by decide +kernel
theorem dL_count_16 : decode cL_count 16 = .ok (.ireturn, 1) := by decide +kernel
theorem dL_letter_0 : decode cL_letter 0 = .ok (.aload_n 2, 1) := by decide +kernel
theorem dL_letter_1 : decode cL_letter 1 = .ok (.iconst 0, 1) := by decide +kernel
theorem dL_letter_2 : decode cL_letter 2 = .ok (.aload_n 0, 1) := by decide +kernel
theorem dL_letter_3 : decode cL_letter 3 = .ok (.iload_n 1, 1) := by decide +kernel
theorem dL_letter_4 : decode cL_letter 4 = .ok (.invokevirtual 57, 3) := by decide +kernel
theorem dL_letter_7 : decode cL_letter 7 = .ok (.i2l, 1) := by decide +kernel
theorem dL_letter_8 : decode cL_letter 8 = .ok (.lastore, 1) := by decide +kernel
theorem dL_letter_9 : decode cL_letter 9 = .ok (.goto 6, 3) := by decide +kernel
theorem dL_letter_12 : decode cL_letter 12 = .ok (.astore_n 3, 1) := by decide +kernel
theorem dL_letter_13 : decode cL_letter 13 = .ok (.iconst 1, 1) := by decide +kernel
theorem dL_letter_14 : decode cL_letter 14 = .ok (.ireturn, 1) := by decide +kernel
theorem dL_letter_15 : decode cL_letter 15 = .ok (.iconst 0, 1) := by decide +kernel
theorem dL_letter_16 : decode cL_letter 16 = .ok (.ireturn, 1) := by decide +kernel
theorem dL_sample_0 : decode cL_sample 0 = .ok (.aload_n 3, 1) := by decide +kernel
theorem dL_sample_1 : decode cL_sample 1 = .ok (.iconst 0, 1) := by decide +kernel
theorem dL_sample_2 : decode cL_sample 2 = .ok (.aload_n 0, 1) := by decide +kernel
theorem dL_sample_3 : decode cL_sample 3 = .ok (.iload_n 1, 1) := by decide +kernel
theorem dL_sample_4 : decode cL_sample 4 = .ok (.iload_n 2, 1) := by decide +kernel
theorem dL_sample_5 : decode cL_sample 5 = .ok (.invokevirtual 60, 3) := by decide +kernel
theorem dL_sample_8 : decode cL_sample 8 = .ok (.i2l, 1) := by decide +kernel
theorem dL_sample_9 : decode cL_sample 9 = .ok (.lastore, 1) := by decide +kernel
theorem dL_sample_10 : decode cL_sample 10 = .ok (.goto 7, 3) := by decide +kernel
theorem dL_sample_13 : decode cL_sample 13 = .ok (.astore 4, 2) := by decide +kernel
theorem dL_sample_15 : decode cL_sample 15 = .ok (.iconst 1, 1) := by decide +kernel
theorem dL_sample_16 : decode cL_sample 16 = .ok (.ireturn, 1) := by decide +kernel
theorem dL_sample_17 : decode cL_sample 17 = .ok (.iconst 0, 1) := by decide +kernel
theorem dL_sample_18 : decode cL_sample 18 = .ok (.ireturn, 1) := by decide +kernel
theorem dL_accepting_0 : decode cL_accepting 0 = .ok (.aload_n 3, 1) := by decide +kernel
theorem dL_accepting_1 : decode cL_accepting 1 = .ok (.iconst 0, 1) := by decide +kernel
theorem dL_accepting_2 : decode cL_accepting 2 = .ok (.aload_n 0, 1) := by decide +kernel
theorem dL_accepting_3 : decode cL_accepting 3 = .ok (.iload_n 1, 1) := by decide +kernel
theorem dL_accepting_4 : decode cL_accepting 4 = .ok (.iload_n 2, 1) := by decide +kernel
theorem dL_accepting_5 : decode cL_accepting 5 = .ok (.invokevirtual 64, 3) := by decide +kernel
theorem dL_accepting_8 : decode cL_accepting 8 = .ok (.i2l, 1) := by decide +kernel
theorem dL_accepting_9 : decode cL_accepting 9 = .ok (.lastore, 1) := by decide +kernel
theorem dL_accepting_10 : decode cL_accepting 10 = .ok (.goto 7, 3) := by decide +kernel
theorem dL_accepting_13 : decode cL_accepting 13 = .ok (.astore 4, 2) := by decide +kernel
theorem dL_accepting_15 : decode cL_accepting 15 = .ok (.iconst 1, 1) := by decide +kernel
theorem dL_accepting_16 : decode cL_accepting 16 = .ok (.ireturn, 1) := by decide +kernel
theorem dL_accepting_17 : decode cL_accepting 17 = .ok (.iconst 0, 1) := by decide +kernel
theorem dL_accepting_18 : decode cL_accepting 18 = .ok (.ireturn, 1) := by decide +kernel
theorem dL_samples_0 : decode cL_samples 0 = .ok (.aload_n 3, 1) := by decide +kernel
theorem dL_samples_1 : decode cL_samples 1 = .ok (.iconst 0, 1) := by decide +kernel
theorem dL_samples_2 : decode cL_samples 2 = .ok (.aload_n 0, 1) := by decide +kernel
theorem dL_samples_3 : decode cL_samples 3 = .ok (.iload_n 1, 1) := by decide +kernel
theorem dL_samples_4 : decode cL_samples 4 = .ok (.iload_n 2, 1) := by decide +kernel
theorem dL_samples_5 : decode cL_samples 5 = .ok (.invokevirtual 67, 3) := by decide +kernel
theorem dL_samples_8 : decode cL_samples 8 = .ok (.lastore, 1) := by decide +kernel
theorem dL_samples_9 : decode cL_samples 9 = .ok (.goto 7, 3) := by decide +kernel
theorem dL_samples_12 : decode cL_samples 12 = .ok (.astore 4, 2) := by decide +kernel
theorem dL_samples_14 : decode cL_samples 14 = .ok (.iconst 1, 1) := by decide +kernel
theorem dL_samples_15 : decode cL_samples 15 = .ok (.ireturn, 1) := by decide +kernel
theorem dL_samples_16 : decode cL_samples 16 = .ok (.iconst 0, 1) := by decide +kernel
theorem dL_samples_17 : decode cL_samples 17 = .ok (.ireturn, 1) := by decide +kernel
theorem dL_accepted_0 : decode cL_accepted 0 = .ok (.aload 5, 2) := by decide +kernel
theorem dL_accepted_2 : decode cL_accepted 2 = .ok (.iconst 0, 1) := by decide +kernel
theorem dL_accepted_3 : decode cL_accepted 3 = .ok (.aload_n 0, 1) := by decide +kernel
theorem dL_accepted_4 : decode cL_accepted 4 = .ok (.iload_n 1, 1) := by decide +kernel
theorem dL_accepted_5 : decode cL_accepted 5 = .ok (.iload_n 2, 1) := by decide +kernel
theorem dL_accepted_6 : decode cL_accepted 6 = .ok (.iload_n 3, 1) := by decide +kernel
theorem dL_accepted_7 : decode cL_accepted 7 = .ok (.iload 4, 2) := by decide +kernel
theorem dL_accepted_9 : decode cL_accepted 9 = .ok (.invokevirtual 71, 3) := by decide +kernel
theorem dL_accepted_12 : decode cL_accepted 12 = .ok (.lastore, 1) := by decide +kernel
theorem dL_accepted_13 : decode cL_accepted 13 = .ok (.goto 7, 3) := by decide +kernel
theorem dL_accepted_16 : decode cL_accepted 16 = .ok (.astore 6, 2) := by decide +kernel
theorem dL_accepted_18 : decode cL_accepted 18 = .ok (.iconst 1, 1) := by decide +kernel
theorem dL_accepted_19 : decode cL_accepted 19 = .ok (.ireturn, 1) := by decide +kernel
theorem dL_accepted_20 : decode cL_accepted 20 = .ok (.iconst 0, 1) := by decide +kernel
theorem dL_accepted_21 : decode cL_accepted 21 = .ok (.ireturn, 1) := by decide +kernel
theorem dL_acceptedByListing_0 : decode cL_acceptedByListing 0 = .ok (.aload 5, 2) := by decide +kernel
theorem dL_acceptedByListing_2 : decode cL_acceptedByListing 2 = .ok (.iconst 0, 1) := by decide +kernel
theorem dL_acceptedByListing_3 : decode cL_acceptedByListing 3 = .ok (.aload_n 0, 1) := by decide +kernel
theorem dL_acceptedByListing_4 : decode cL_acceptedByListing 4 = .ok (.iload_n 1, 1) := by decide +kernel
theorem dL_acceptedByListing_5 : decode cL_acceptedByListing 5 = .ok (.iload_n 2, 1) := by decide +kernel
theorem dL_acceptedByListing_6 : decode cL_acceptedByListing 6 = .ok (.iload_n 3, 1) := by decide +kernel
theorem dL_acceptedByListing_7 : decode cL_acceptedByListing 7 = .ok (.iload 4, 2) := by decide +kernel
theorem dL_acceptedByListing_9 : decode cL_acceptedByListing 9 = .ok (.invokevirtual 75, 3) := by decide +kernel
theorem dL_acceptedByListing_12 : decode cL_acceptedByListing 12 = .ok (.lastore, 1) := by decide +kernel
theorem dL_acceptedByListing_13 : decode cL_acceptedByListing 13 = .ok (.goto 7, 3) := by decide +kernel
theorem dL_acceptedByListing_16 : decode cL_acceptedByListing 16 = .ok (.astore 6, 2) := by decide +kernel
theorem dL_acceptedByListing_18 : decode cL_acceptedByListing 18 = .ok (.iconst 1, 1) := by decide +kernel
theorem dL_acceptedByListing_19 : decode cL_acceptedByListing 19 = .ok (.ireturn, 1) := by decide +kernel
theorem dL_acceptedByListing_20 : decode cL_acceptedByListing 20 = .ok (.iconst 0, 1) := by decide +kernel
theorem dL_acceptedByListing_21 : decode cL_acceptedByListing 21 = .ok (.ireturn, 1) := by decide +kernel
theorem dL_acceptedTwice_0 : decode cL_acceptedTwice 0 = .ok (.aload 5, 2) := by decide +kernel
theorem dL_acceptedTwice_2 : decode cL_acceptedTwice 2 = .ok (.iconst 0, 1) := by decide +kernel
theorem dL_acceptedTwice_3 : decode cL_acceptedTwice 3 = .ok (.aload_n 0, 1) := by decide +kernel
theorem dL_acceptedTwice_4 : decode cL_acceptedTwice 4 = .ok (.iload_n 1, 1) := by decide +kernel
theorem dL_acceptedTwice_5 : decode cL_acceptedTwice 5 = .ok (.iload_n 2, 1) := by decide +kernel
theorem dL_acceptedTwice_6 : decode cL_acceptedTwice 6 = .ok (.iload_n 3, 1) := by decide +kernel
theorem dL_acceptedTwice_7 : decode cL_acceptedTwice 7 = .ok (.iload 4, 2) := by decide +kernel
theorem dL_acceptedTwice_9 : decode cL_acceptedTwice 9 = .ok (.invokevirtual 78, 3) := by decide +kernel
theorem dL_acceptedTwice_12 : decode cL_acceptedTwice 12 = .ok (.lastore, 1) := by decide +kernel
theorem dL_acceptedTwice_13 : decode cL_acceptedTwice 13 = .ok (.goto 7, 3) := by decide +kernel
theorem dL_acceptedTwice_16 : decode cL_acceptedTwice 16 = .ok (.astore 6, 2) := by decide +kernel
theorem dL_acceptedTwice_18 : decode cL_acceptedTwice 18 = .ok (.iconst 1, 1) := by decide +kernel
theorem dL_acceptedTwice_19 : decode cL_acceptedTwice 19 = .ok (.ireturn, 1) := by decide +kernel
theorem dL_acceptedTwice_20 : decode cL_acceptedTwice 20 = .ok (.iconst 0, 1) := by decide +kernel
theorem dL_acceptedTwice_21 : decode cL_acceptedTwice 21 = .ok (.ireturn, 1) := by decide +kernel
set_option maxRecDepth 20000 in
theorem ggL_setPlan_X5_setPlan : GoodIn wsL_setPlan wsX5_setPlan := goodIn_ca (goodIn_r _ [6, 7, 8, 9, 10, 11, 12, 13, 5, 14, 15, 16, 17, 18, 19, 20, 21, 22, 23, 24, 25, 26, 27, 28, 29, 30, 31, 32, 33, 34, 35, 36, 37, 38, 39, 40, 41, 42, 43, 44, 45, 46, 47, 48, 49, 50, 51, 52, 53, 54, 55, 56, 57, 58, 59, 60, 61, 62, 63, 64, 65, 66, 67, 68, 69, 70, 71, 72, 73, 74, 75, 76, 77, 78, 79, 80, 81, 82, 83, 84, 85, 86, 87, 88, 89, 90, 91, 92, 93, 94, 95, 96, 97, 98, 99, 100, 101, 102, 103, 104, 105, 106, 107, 108, 109, 110, 111, 112, 113, 114, 115, 116, 117, 118, 119, 120, 121, 122, 123, 124, 125, 126, 127, 128, 129, 130, 131, 132, 133, 134, 135, 136, 137, 138, 139, 140, 141, 142, 143, 144, 145, 146, 147, 148, 149, 150, 151, 152, 153, 154, 155, 156, 157, 158, 159, 160, 161, 162, 163, 164, 165, 166, 167, 168, 169, 170, 171, 172, 173, 174, 175, 176, 177, 178, 179] (by decide +kernel) (by decide +kernel)) (goodIn_sub (fun _ h => List.mem_cons_of_mem _ (List.mem_append_right _ h)) (by decide +kernel))
set_option maxRecDepth 20000 in
theorem gL_setPlan_X5_setPlan : GoodIn wsL_setPlan (wsV RL 7 RX5 yX5_setPlan wsX5_setPlan) := goodIn_app (goodIn_of _ (by decide +kernel)) ggL_setPlan_X5_setPlan
set_option maxRecDepth 20000 in
theorem ggL_setWays_X5_setWays : GoodIn wsL_setWays wsX5_setWays := goodIn_ca (goodIn_r _ [6, 7, 8, 9, 10, 11, 12, 13, 14, 15, 5, 16, 17, 18, 19, 20, 21, 22, 23, 24, 25, 26, 27, 28, 29, 30, 31, 32, 33, 34, 35, 36, 37, 38, 39, 40, 41, 42, 43, 44, 45, 46, 47, 48, 49, 50, 51, 52, 53, 54, 55, 56, 57, 58, 59, 60, 61, 62, 63, 64, 65, 66, 67, 68, 69, 70, 71, 72, 73, 74, 75, 76, 77, 78, 79, 80, 81, 82, 83, 84, 85, 86, 87, 88, 89, 90, 91, 92, 93, 94, 95, 96, 97, 98, 99, 100, 101, 102, 103, 104, 105, 106, 107, 108, 109, 110, 111, 112, 113, 114, 115, 116, 117, 118, 119, 120, 121, 122, 123, 124, 125, 126, 127, 128, 129, 130, 131, 132, 133, 134, 135, 136, 137, 138, 139, 140, 141, 142, 143, 144, 145, 146, 147, 148, 149, 150, 151, 152, 153, 154, 155, 156, 157, 158, 159, 160, 161, 162, 163, 164, 165, 166, 167, 168, 169, 170, 171, 172, 173, 174, 175, 176, 177, 178, 179, 180] (by decide +kernel) (by decide +kernel)) (goodIn_sub (fun _ h => List.mem_cons_of_mem _ (List.mem_append_right _ h)) (by decide +kernel))
set_option maxRecDepth 20000 in
theorem gL_setWays_X5_setWays : GoodIn wsL_setWays (wsV RL 15 RX5 yX5_setWays wsX5_setWays) := goodIn_app (goodIn_of _ (by decide +kernel)) ggL_setWays_X5_setWays
set_option maxRecDepth 20000 in
theorem ggL_toggleMark_X5_toggleMark : GoodIn wsL_toggleMark wsX5_toggleMark := goodIn_ca (goodIn_r _ [6, 7, 8, 9, 10, 11, 5, 12, 13, 14, 15, 16, 17, 18, 19, 20, 21, 22, 23, 24, 25, 26, 27, 28, 29, 30, 31, 32, 33, 34, 35, 36, 37, 38, 39, 40, 41, 42, 43, 44, 45, 46, 47, 48, 49, 50, 51, 52, 53, 54, 55, 56, 57, 58, 59, 60, 61, 62, 63, 64, 65, 66, 67, 68, 69, 70, 71, 72, 73, 74, 75, 76, 77, 78, 79, 80, 81, 82, 83, 84, 85, 86, 87, 88, 89, 90, 91, 92, 93, 94, 95, 96, 97, 98, 99, 100, 101, 102, 103, 104, 105, 106, 107, 108, 109, 110, 111, 112, 113, 114, 115, 116, 117, 118, 119, 120, 121, 122, 123, 124, 125, 126, 127, 128, 129, 130, 131, 132, 133, 134, 135, 136, 137, 138, 139, 140, 141, 142, 143, 144, 145, 146, 147, 148, 149, 150, 151, 152, 153, 154, 155, 156, 157, 158, 159, 160, 161, 162, 163, 164, 165, 166, 167, 168, 169, 170, 171, 172, 173, 174, 175, 176, 177] (by decide +kernel) (by decide +kernel)) (goodIn_sub (fun _ h => List.mem_cons_of_mem _ (List.mem_append_right _ h)) (by decide +kernel))
set_option maxRecDepth 20000 in
theorem gL_toggleMark_X5_toggleMark : GoodIn wsL_toggleMark (wsV RL 19 RX5 yX5_toggleMark wsX5_toggleMark) := goodIn_app (goodIn_of _ (by decide +kernel)) ggL_toggleMark_X5_toggleMark
set_option maxRecDepth 20000 in
theorem ggL_record_X5_record : GoodIn wsL_record wsX5_record := goodIn_ca (goodIn_ca (goodIn_r _ [7, 8, 9, 10, 11, 12, 13, 14, 15, 16, 17, 18, 6, 19, 20, 21, 22, 23, 24, 25, 26, 27, 28, 29, 30, 31, 32, 33, 34, 35, 36, 37, 38, 39, 40, 41, 42, 43, 44, 45, 46, 47, 48, 49, 50, 51, 52, 53, 54, 55, 56, 57, 58, 59, 60, 61, 62, 63, 64, 65, 66, 67, 68, 69, 70, 71, 72, 73, 74, 75, 76, 77, 78, 79, 80, 81, 82, 83, 84, 85, 86, 87, 88, 89, 90, 91, 92, 93, 94, 95, 96, 97, 98, 99, 100, 101, 102, 103, 104, 105, 106, 107, 108, 109, 110, 111, 112, 113, 114, 115, 116, 117, 118, 119, 120, 121, 122, 123, 124, 125, 126, 127, 128, 129, 130, 131, 132, 133, 134, 135, 136, 137, 138, 139, 140, 141, 142, 143, 144, 145, 146, 147, 148, 149, 150, 151, 152, 153, 154, 155, 156, 157, 158, 159, 160, 161, 162, 163, 164, 165, 166, 167, 168, 169, 170, 171, 172, 173, 174, 175, 176, 177, 178, 179, 180, 181, 182, 183, 184, 185, 186, 187, 188, 189, 190, 191, 192, 193, 194, 195, 196, 197, 198, 199, 200, 201] (by decide +kernel) (by decide +kernel)) (goodIn_sub (fun _ h => List.mem_cons_of_mem _ (List.mem_append_left _ (List.mem_append_right _ h))) (by decide +kernel))) (goodIn_sub (fun _ h => List.mem_cons_of_mem _ (List.mem_append_right _ h)) (by decide +kernel))
set_option maxRecDepth 20000 in
theorem gL_record_X5_record : GoodIn wsL_record (wsV RL 23 RX5 yX5_record wsX5_record) := goodIn_app (goodIn_of _ (by decide +kernel)) ggL_record_X5_record
set_option maxRecDepth 20000 in
theorem ggL_correct_X5_correct : GoodIn wsL_correct wsX5_correct := goodIn_ca (goodIn_ca (goodIn_r _ [7, 8, 9, 10, 11, 12, 13, 14, 6, 15, 16, 17, 18, 19, 20, 21, 22, 23, 24, 25, 26, 27, 28, 29, 30, 31, 32, 33, 34, 35, 36, 37, 38, 39, 40, 41, 42, 43, 44, 45, 46, 47, 48, 49, 50, 51, 52, 53, 54, 55, 56, 57, 58, 59, 60, 61, 62, 63, 64, 65, 66, 67, 68, 69, 70, 71, 72, 73, 74, 75, 76, 77, 78, 79, 80, 81, 82, 83, 84, 85, 86, 87, 88, 89, 90, 91, 92, 93, 94, 95, 96, 97, 98, 99, 100, 101, 102, 103, 104, 105, 106, 107, 108, 109, 110, 111, 112, 113, 114, 115, 116, 117, 118, 119, 120, 121, 122, 123, 124, 125, 126, 127, 128, 129, 130, 131, 132, 133, 134, 135, 136, 137, 138, 139, 140, 141, 142, 143, 144, 145, 146, 147, 148, 149, 150, 151, 152, 153, 154, 155, 156, 157, 158, 159, 160, 161, 162, 163, 164, 165, 166, 167, 168, 169, 170, 171, 172, 173, 174, 175, 176, 177, 178, 179, 180, 181, 182, 183, 184, 185, 186, 187, 188, 189] (by decide +kernel) (by decide +kernel)) (goodIn_sub (fun _ h => List.mem_cons_of_mem _ (List.mem_append_left _ (List.mem_append_right _ h))) (by decide +kernel))) (goodIn_sub (fun _ h => List.mem_cons_of_mem _ (List.mem_append_right _ h)) (by decide +kernel))
set_option maxRecDepth 20000 in
theorem gL_correct_X5_correct : GoodIn wsL_correct (wsV RL 29 RX5 yX5_correct wsX5_correct) := goodIn_app (goodIn_of _ (by decide +kernel)) ggL_correct_X5_correct
set_option maxRecDepth 20000 in
theorem ggL_strike_X5_strike : GoodIn wsL_strike wsX5_strike := goodIn_ca (goodIn_r _ [6, 7, 8, 9, 10, 11, 12, 5, 13, 14, 15, 16, 17, 18, 19, 20, 21, 22, 23, 24, 25, 26, 27, 28, 29, 30, 31, 32, 33, 34, 35, 36, 37, 38, 39, 40, 41, 42, 43, 44, 45, 46, 47, 48, 49, 50, 51, 52, 53, 54, 55, 56, 57, 58, 59, 60, 61, 62, 63, 64, 65, 66, 67, 68, 69, 70, 71, 72, 73, 74, 75, 76, 77, 78, 79, 80, 81, 82, 83, 84, 85, 86, 87, 88, 89, 90, 91, 92, 93, 94, 95, 96, 97, 98, 99, 100, 101, 102, 103, 104, 105, 106, 107, 108, 109, 110, 111, 112, 113, 114, 115, 116, 117, 118, 119, 120, 121, 122, 123, 124, 125, 126, 127, 128, 129, 130, 131, 132, 133, 134, 135, 136, 137, 138, 139, 140, 141, 142, 143, 144, 145, 146, 147, 148, 149, 150, 151, 152, 153, 154, 155, 156, 157, 158, 159, 160, 161, 162, 163, 164, 165, 166, 167, 168, 169, 170, 171, 172, 173, 174, 175, 176, 177, 178] (by decide +kernel) (by decide +kernel)) (goodIn_sub (fun _ h => List.mem_cons_of_mem _ (List.mem_append_right _ h)) (by decide +kernel))
set_option maxRecDepth 20000 in
theorem gL_strike_X5_strike : GoodIn wsL_strike (wsV RL 33 RX5 yX5_strike wsX5_strike) := goodIn_app (goodIn_of _ (by decide +kernel)) ggL_strike_X5_strike
set_option maxRecDepth 20000 in
theorem ggL_orderAt_X5_orderAt : GoodIn wsL_orderAt wsX5_orderAt := goodIn_ca (goodIn_r _ [6, 7, 8, 9, 10, 11, 12, 13, 14] (by decide +kernel) (by decide +kernel)) (goodIn_sub (fun _ h => List.mem_cons_of_mem _ (List.mem_append_right _ h)) (by decide +kernel))
set_option maxRecDepth 20000 in
theorem gL_orderAt_X5_orderAt : GoodIn wsL_orderAt (wsV RL 37 RX5 yX5_orderAt wsX5_orderAt) := goodIn_app (goodIn_of _ (by decide +kernel)) ggL_orderAt_X5_orderAt
set_option maxRecDepth 20000 in
theorem ggL_verdict_X5_verdict : GoodIn wsL_verdict wsX5_verdict := goodIn_ca (goodIn_r _ [6, 7, 8, 9, 10, 11, 12, 5, 13, 14, 15, 16, 17, 18, 19, 20, 21, 22, 23, 24, 25, 26, 27, 28, 29] (by decide +kernel) (by decide +kernel)) (goodIn_sub (fun _ h => List.mem_cons_of_mem _ (List.mem_append_right _ h)) (by decide +kernel))
set_option maxRecDepth 20000 in
theorem gL_verdict_X5_verdict : GoodIn wsL_verdict (wsV RL 42 RX5 yX5_verdict wsX5_verdict) := goodIn_app (goodIn_of _ (by decide +kernel)) ggL_verdict_X5_verdict
set_option maxRecDepth 20000 in
theorem ggL_stateAt_X5_stateAt : GoodIn wsL_stateAt wsX5_stateAt := goodIn_ca (goodIn_r _ [6, 7, 8, 9, 10, 11, 12, 5, 13, 14, 15, 16, 17, 18, 19, 20, 21, 22, 23, 24, 25, 26, 27, 28, 29] (by decide +kernel) (by decide +kernel)) (goodIn_sub (fun _ h => List.mem_cons_of_mem _ (List.mem_append_right _ h)) (by decide +kernel))
set_option maxRecDepth 20000 in
theorem gL_stateAt_X5_stateAt : GoodIn wsL_stateAt (wsV RL 45 RX5 yX5_stateAt wsX5_stateAt) := goodIn_app (goodIn_of _ (by decide +kernel)) ggL_stateAt_X5_stateAt
set_option maxRecDepth 20000 in
theorem ggL_inspected_X5_inspected : GoodIn wsL_inspected wsX5_inspected := goodIn_ca (goodIn_r _ [6, 7, 8, 9, 10, 11, 12, 5, 13, 14, 15, 16, 17, 18, 19, 20, 21, 22, 23, 24, 25, 26, 27, 28, 29] (by decide +kernel) (by decide +kernel)) (goodIn_sub (fun _ h => List.mem_cons_of_mem _ (List.mem_append_right _ h)) (by decide +kernel))
set_option maxRecDepth 20000 in
theorem gL_inspected_X5_inspected : GoodIn wsL_inspected (wsV RL 48 RX5 yX5_inspected wsX5_inspected) := goodIn_app (goodIn_of _ (by decide +kernel)) ggL_inspected_X5_inspected
set_option maxRecDepth 20000 in
theorem ggL_badIn_X5_badIn : GoodIn wsL_badIn wsX5_badIn := goodIn_ca (goodIn_r _ [6, 7, 8, 9, 10, 11, 12, 5, 13, 14, 15, 16, 17, 18, 19, 20, 21, 22, 23, 24, 25, 26, 27, 28, 29] (by decide +kernel) (by decide +kernel)) (goodIn_sub (fun _ h => List.mem_cons_of_mem _ (List.mem_append_right _ h)) (by decide +kernel))
set_option maxRecDepth 20000 in
theorem gL_badIn_X5_badIn : GoodIn wsL_badIn (wsV RL 51 RX5 yX5_badIn wsX5_badIn) := goodIn_app (goodIn_of _ (by decide +kernel)) ggL_badIn_X5_badIn
set_option maxRecDepth 20000 in
theorem ggL_count_X5_count : GoodIn wsL_count wsX5_count := goodIn_ca (goodIn_r _ [6, 7, 8, 9, 10, 11, 12, 5, 13, 14, 15, 16, 17, 18, 19, 20, 21, 22, 23, 24, 25] (by decide +kernel) (by decide +kernel)) (goodIn_sub (fun _ h => List.mem_cons_of_mem _ (List.mem_append_right _ h)) (by decide +kernel))
set_option maxRecDepth 20000 in
theorem gL_count_X5_count : GoodIn wsL_count (wsV RL 54 RX5 yX5_count wsX5_count) := goodIn_app (goodIn_of _ (by decide +kernel)) ggL_count_X5_count
set_option maxRecDepth 20000 in
theorem ggL_letter_X5_letter : GoodIn wsL_letter wsX5_letter := goodIn_ca (goodIn_r _ [6, 7, 8, 9, 10, 11, 5, 12, 13, 14, 15, 16, 17, 18, 19, 20, 21, 22, 23, 24, 25, 26, 27, 28, 29, 30, 31, 32, 33, 34] (by decide +kernel) (by decide +kernel)) (goodIn_sub (fun _ h => List.mem_cons_of_mem _ (List.mem_append_right _ h)) (by decide +kernel))
set_option maxRecDepth 20000 in
theorem gL_letter_X5_letter : GoodIn wsL_letter (wsV RL 57 RX5 yX5_letter wsX5_letter) := goodIn_app (goodIn_of _ (by decide +kernel)) ggL_letter_X5_letter
set_option maxRecDepth 20000 in
theorem ggL_sample_X5_sample : GoodIn wsL_sample wsX5_sample := goodIn_ca (goodIn_r _ [6, 7, 8, 9, 10, 11, 5, 12, 13, 14, 15, 16, 17, 18, 19, 20, 21, 22, 23, 24, 25, 26, 27, 28, 29, 30, 31, 32, 33, 34, 35, 36, 37, 38] (by decide +kernel) (by decide +kernel)) (goodIn_sub (fun _ h => List.mem_cons_of_mem _ (List.mem_append_right _ h)) (by decide +kernel))
set_option maxRecDepth 20000 in
theorem gL_sample_X5_sample : GoodIn wsL_sample (wsV RL 60 RX5 yX5_sample wsX5_sample) := goodIn_app (goodIn_of _ (by decide +kernel)) ggL_sample_X5_sample
set_option maxRecDepth 20000 in
theorem ggL_accepting_X5_accepting : GoodIn wsL_accepting wsX5_accepting := goodIn_ca (goodIn_r _ [6, 7, 8, 9, 10, 11, 5, 12, 13, 14, 15, 16, 17, 18, 19, 20, 21, 22, 23, 24, 25, 26, 27, 28, 29, 30, 31, 32, 33, 34, 35, 36, 37, 38, 39] (by decide +kernel) (by decide +kernel)) (goodIn_sub (fun _ h => List.mem_cons_of_mem _ (List.mem_append_right _ h)) (by decide +kernel))
set_option maxRecDepth 20000 in
theorem gL_accepting_X5_accepting : GoodIn wsL_accepting (wsV RL 64 RX5 yX5_accepting wsX5_accepting) := goodIn_app (goodIn_of _ (by decide +kernel)) ggL_accepting_X5_accepting
set_option maxRecDepth 20000 in
theorem ggL_samples_X5_samples : GoodIn wsL_samples wsX5_samples := goodIn_ca (goodIn_r _ [6, 7, 8, 9, 10, 5, 11, 12, 13, 14, 15] (by decide +kernel) (by decide +kernel)) (goodIn_sub (fun _ h => List.mem_cons_of_mem _ (List.mem_append_right _ h)) (by decide +kernel))
set_option maxRecDepth 20000 in
theorem gL_samples_X5_samples : GoodIn wsL_samples (wsV RL 67 RX5 yX5_samples wsX5_samples) := goodIn_app (goodIn_of _ (by decide +kernel)) ggL_samples_X5_samples
set_option maxRecDepth 20000 in
theorem ggL_accepted_X5_accepted : GoodIn wsL_accepted wsX5_accepted := goodIn_ca (goodIn_r _ [6, 7, 8, 9, 10, 5, 11, 12, 13, 14, 15, 16, 17, 18, 19, 20, 21] (by decide +kernel) (by decide +kernel)) (goodIn_sub (fun _ h => List.mem_cons_of_mem _ (List.mem_append_right _ h)) (by decide +kernel))
set_option maxRecDepth 20000 in
theorem gL_accepted_X5_accepted : GoodIn wsL_accepted (wsV RL 71 RX5 yX5_accepted wsX5_accepted) := goodIn_app (goodIn_of _ (by decide +kernel)) ggL_accepted_X5_accepted
set_option maxRecDepth 20000 in
theorem ggL_acceptedByListing_X5_acceptedByListing : GoodIn wsL_acceptedByListing wsX5_acceptedByListing := goodIn_ca (goodIn_r _ [6, 7, 8, 9, 10, 5, 11, 12, 13, 14, 15, 16, 17, 18, 19, 20, 21, 22, 23, 24, 25, 26] (by decide +kernel) (by decide +kernel)) (goodIn_sub (fun _ h => List.mem_cons_of_mem _ (List.mem_append_right _ h)) (by decide +kernel))
set_option maxRecDepth 20000 in
theorem gL_acceptedByListing_X5_acceptedByListing : GoodIn wsL_acceptedByListing (wsV RL 75 RX5 yX5_acceptedByListing wsX5_acceptedByListing) := goodIn_app (goodIn_of _ (by decide +kernel)) ggL_acceptedByListing_X5_acceptedByListing
set_option maxRecDepth 20000 in
theorem ggL_acceptedTwice_X5_acceptedTwice : GoodIn wsL_acceptedTwice wsX5_acceptedTwice := goodIn_ca (goodIn_r _ [6, 7, 8, 9, 10, 5, 11, 12, 13, 14, 15, 16, 17, 18, 19, 20, 21, 22, 23, 24] (by decide +kernel) (by decide +kernel)) (goodIn_sub (fun _ h => List.mem_cons_of_mem _ (List.mem_append_right _ h)) (by decide +kernel))
set_option maxRecDepth 20000 in
theorem gL_acceptedTwice_X5_acceptedTwice : GoodIn wsL_acceptedTwice (wsV RL 78 RX5 yX5_acceptedTwice wsX5_acceptedTwice) := goodIn_app (goodIn_of _ (by decide +kernel)) ggL_acceptedTwice_X5_acceptedTwice
