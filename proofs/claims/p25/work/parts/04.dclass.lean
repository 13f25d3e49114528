theorem dX0_init_0 : decode cX0_init 0 = .ok (.aload_n 0, 1) := by decide +kernel
theorem dX0_init_1 : decode cX0_init 1 = .ok (.invokespecial 3, 3) := by decide +kernel
theorem dX0_init_4 : decode cX0_init 4 = .ok (.aload_n 0, 1) := by decide +kernel
theorem dX0_init_5 : decode cX0_init 5 = .ok (.new 9, 3) := by decide +kernel
theorem dX0_init_8 : decode cX0_init 8 = .ok (.dup, 1) := by decide +kernel
theorem dX0_init_9 : decode cX0_init 9 = .ok (.invokespecial 11, 3) := by decide +kernel
theorem dX0_init_12 : decode cX0_init 12 = .ok (.putfield 12, 3) := by decide +kernel
theorem dX0_init_15 : decode cX0_init 15 = .ok (.return_, 1) := by decide +kernel
theorem dX0_restart_0 : decode cX0_restart 0 = .ok (.aload_n 0, 1) := by decide +kernel
theorem dX0_restart_1 : decode cX0_restart 1 = .ok (.iconst 0, 1) := by decide +kernel
theorem dX0_restart_2 : decode cX0_restart 2 = .ok (.invokevirtual 18, 3) := by decide +kernel
theorem dX0_restart_5 : decode cX0_restart 5 = .ok (.aload_n 0, 1) := by decide +kernel
theorem dX0_restart_6 : decode cX0_restart 6 = .ok (.iconst 0, 1) := by decide +kernel
theorem dX0_restart_7 : decode cX0_restart 7 = .ok (.putfield 22, 3) := by decide +kernel
theorem dX0_restart_10 : decode cX0_restart 10 = .ok (.aload_n 0, 1) := by decide +kernel
theorem dX0_restart_11 : decode cX0_restart 11 = .ok (.iconst 0, 1) := by decide +kernel
theorem dX0_restart_12 : decode cX0_restart 12 = .ok (.putfield 26, 3) := by decide +kernel
theorem dX0_restart_15 : decode cX0_restart 15 = .ok (.return_, 1) := by decide +kernel
theorem dX0_pass_0 : decode cX0_pass 0 = .ok (.aload_n 0, 1) := by decide +kernel
theorem dX0_pass_1 : decode cX0_pass 1 = .ok (.getfield 30, 3) := by decide +kernel
theorem dX0_pass_4 : decode cX0_pass 4 = .ok (.iconst 3, 1) := by decide +kernel
theorem dX0_pass_5 : decode cX0_pass 5 = .ok (.if_icmp .ne 16, 3) := by decide +kernel
theorem dX0_pass_8 : decode cX0_pass 8 = .ok (.iload_n 2, 1) := by decide +kernel
theorem dX0_pass_9 : decode cX0_pass 9 = .ok (.aload_n 0, 1) := by decide +kernel
theorem dX0_pass_10 : decode cX0_pass 10 = .ok (.getfield 33, 3) := by decide +kernel
theorem dX0_pass_13 : decode cX0_pass 13 = .ok (.if_icmp .le 8, 3) := by decide +kernel
theorem dX0_pass_16 : decode cX0_pass 16 = .ok (.aload_n 0, 1) := by decide +kernel
theorem dX0_pass_17 : decode cX0_pass 17 = .ok (.iconst 1, 1) := by decide +kernel
theorem dX0_pass_18 : decode cX0_pass 18 = .ok (.invokevirtual 18, 3) := by decide +kernel
theorem dX0_pass_21 : decode cX0_pass 21 = .ok (.aload_n 1, 1) := by decide +kernel
theorem dX0_pass_22 : decode cX0_pass 22 = .ok (.aload_n 0, 1) := by decide +kernel
theorem dX0_pass_23 : decode cX0_pass 23 = .ok (.getfield 30, 3) := by decide +kernel
theorem dX0_pass_26 : decode cX0_pass 26 = .ok (.putfield 36, 3) := by decide +kernel
theorem dX0_pass_29 : decode cX0_pass 29 = .ok (.aload_n 0, 1) := by decide +kernel
theorem dX0_pass_30 : decode cX0_pass 30 = .ok (.getfield 30, 3) := by decide +kernel
theorem dX0_pass_33 : decode cX0_pass 33 = .ok (.iconst 3, 1) := by decide +kernel
theorem dX0_pass_34 : decode cX0_pass 34 = .ok (.if_icmp .ne 11, 3) := by decide +kernel
theorem dX0_pass_37 : decode cX0_pass 37 = .ok (.aload_n 1, 1) := by decide +kernel
theorem dX0_pass_38 : decode cX0_pass 38 = .ok (.iconst 3, 1) := by decide +kernel
theorem dX0_pass_39 : decode cX0_pass 39 = .ok (.invokevirtual 39, 3) := by decide +kernel
theorem dX0_pass_42 : decode cX0_pass 42 = .ok (.goto 71, 3) := by decide +kernel
theorem dX0_pass_45 : decode cX0_pass 45 = .ok (.aload_n 0, 1) := by decide +kernel
theorem dX0_pass_46 : decode cX0_pass 46 = .ok (.invokevirtual 42, 3) := by decide +kernel
theorem dX0_pass_49 : decode cX0_pass 49 = .ok (.ifCond .eq 11, 3) := by decide +kernel
theorem dX0_pass_52 : decode cX0_pass 52 = .ok (.aload_n 1, 1) := by decide +kernel
theorem dX0_pass_53 : decode cX0_pass 53 = .ok (.iconst 2, 1) := by decide +kernel
theorem dX0_pass_54 : decode cX0_pass 54 = .ok (.invokevirtual 39, 3) := by decide +kernel
theorem dX0_pass_57 : decode cX0_pass 57 = .ok (.goto 56, 3) := by decide +kernel
theorem dX0_pass_60 : decode cX0_pass 60 = .ok (.aload_n 3, 1) := by decide +kernel
theorem dX0_pass_61 : decode cX0_pass 61 = .ok (.aload_n 1, 1) := by decide +kernel
theorem dX0_pass_62 : decode cX0_pass 62 = .ok (.aload_n 0, 1) := by decide +kernel
theorem dX0_pass_63 : decode cX0_pass 63 = .ok (.getfield 30, 3) := by decide +kernel
theorem dX0_pass_66 : decode cX0_pass 66 = .ok (.invokevirtual 46, 3) := by decide +kernel
theorem dX0_pass_69 : decode cX0_pass 69 = .ok (.aload_n 0, 1) := by decide +kernel
theorem dX0_pass_70 : decode cX0_pass 70 = .ok (.getfield 12, 3) := by decide +kernel
theorem dX0_pass_73 : decode cX0_pass 73 = .ok (.aload_n 1, 1) := by decide +kernel
theorem dX0_pass_74 : decode cX0_pass 74 = .ok (.invokevirtual 52, 3) := by decide +kernel
theorem dX0_pass_77 : decode cX0_pass 77 = .ok (.aload_n 0, 1) := by decide +kernel
theorem dX0_pass_78 : decode cX0_pass 78 = .ok (.aload_n 1, 1) := by decide +kernel
theorem dX0_pass_79 : decode cX0_pass 79 = .ok (.aload_n 3, 1) := by decide +kernel
theorem dX0_pass_80 : decode cX0_pass 80 = .ok (.invokevirtual 56, 3) := by decide +kernel
theorem dX0_pass_83 : decode cX0_pass 83 = .ok (.istore 4, 2) := by decide +kernel
theorem dX0_pass_85 : decode cX0_pass 85 = .ok (.iload 4, 2) := by decide +kernel
theorem dX0_pass_87 : decode cX0_pass 87 = .ok (.aload_n 0, 1) := by decide +kernel
theorem dX0_pass_88 : decode cX0_pass 88 = .ok (.getfield 30, 3) := by decide +kernel
theorem dX0_pass_91 : decode cX0_pass 91 = .ok (.if_icmp .eq 17, 3) := by decide +kernel
theorem dX0_pass_94 : decode cX0_pass 94 = .ok (.aload_n 0, 1) := by decide +kernel
theorem dX0_pass_95 : decode cX0_pass 95 = .ok (.iload 4, 2) := by decide +kernel
theorem dX0_pass_97 : decode cX0_pass 97 = .ok (.invokevirtual 18, 3) := by decide +kernel
theorem dX0_pass_100 : decode cX0_pass 100 = .ok (.aload_n 0, 1) := by decide +kernel
theorem dX0_pass_101 : decode cX0_pass 101 = .ok (.aload_n 1, 1) := by decide +kernel
theorem dX0_pass_102 : decode cX0_pass 102 = .ok (.getfield 60, 3) := by decide +kernel
theorem dX0_pass_105 : decode cX0_pass 105 = .ok (.putfield 33, 3) := by decide +kernel
theorem dX0_pass_108 : decode cX0_pass 108 = .ok (.aload_n 0, 1) := by decide +kernel
theorem dX0_pass_109 : decode cX0_pass 109 = .ok (.aload_n 1, 1) := by decide +kernel
theorem dX0_pass_110 : decode cX0_pass 110 = .ok (.invokevirtual 63, 3) := by decide +kernel
theorem dX0_pass_113 : decode cX0_pass 113 = .ok (.return_, 1) := by decide +kernel
theorem dX0_begin_0 : decode cX0_begin 0 = .ok (.aload_n 0, 1) := by decide +kernel
theorem dX0_begin_1 : decode cX0_begin 1 = .ok (.iload_n 1, 1) := by decide +kernel
theorem dX0_begin_2 : decode cX0_begin 2 = .ok (.putfield 30, 3) := by decide +kernel
theorem dX0_begin_5 : decode cX0_begin 5 = .ok (.aload_n 0, 1) := by decide +kernel
theorem dX0_begin_6 : decode cX0_begin 6 = .ok (.getfield 12, 3) := by decide +kernel
theorem dX0_begin_9 : decode cX0_begin 9 = .ok (.invokevirtual 66, 3) := by decide +kernel
theorem dX0_begin_12 : decode cX0_begin 12 = .ok (.return_, 1) := by decide +kernel
theorem dX0_nextBehind_0 : decode cX0_nextBehind 0 = .ok (.aload_n 0, 1) := by decide +kernel
theorem dX0_nextBehind_1 : decode cX0_nextBehind 1 = .ok (.getfield 30, 3) := by decide +kernel
theorem dX0_nextBehind_4 : decode cX0_nextBehind 4 = .ok (.ifCond .ne 8, 3) := by decide +kernel
theorem dX0_nextBehind_7 : decode cX0_nextBehind 7 = .ok (.aload_n 0, 1) := by decide +kernel
theorem dX0_nextBehind_8 : decode cX0_nextBehind 8 = .ok (.invokevirtual 69, 3) := by decide +kernel
theorem dX0_nextBehind_11 : decode cX0_nextBehind 11 = .ok (.ireturn, 1) := by decide +kernel
theorem dX0_nextBehind_12 : decode cX0_nextBehind 12 = .ok (.aload_n 0, 1) := by decide +kernel
theorem dX0_nextBehind_13 : decode cX0_nextBehind 13 = .ok (.getfield 30, 3) := by decide +kernel
theorem dX0_nextBehind_16 : decode cX0_nextBehind 16 = .ok (.iconst 1, 1) := by decide +kernel
theorem dX0_nextBehind_17 : decode cX0_nextBehind 17 = .ok (.if_icmp .ne 8, 3) := by decide +kernel
theorem dX0_nextBehind_20 : decode cX0_nextBehind 20 = .ok (.aload_n 0, 1) := by decide +kernel
theorem dX0_nextBehind_21 : decode cX0_nextBehind 21 = .ok (.invokevirtual 73, 3) := by decide +kernel
theorem dX0_nextBehind_24 : decode cX0_nextBehind 24 = .ok (.ireturn, 1) := by decide +kernel
theorem dX0_nextBehind_25 : decode cX0_nextBehind 25 = .ok (.aload_n 1, 1) := by decide +kernel
theorem dX0_nextBehind_26 : decode cX0_nextBehind 26 = .ok (.getfield 76, 3) := by decide +kernel
theorem dX0_nextBehind_29 : decode cX0_nextBehind 29 = .ok (.aload_n 2, 1) := by decide +kernel
theorem dX0_nextBehind_30 : decode cX0_nextBehind 30 = .ok (.aload_n 1, 1) := by decide +kernel
theorem dX0_nextBehind_31 : decode cX0_nextBehind 31 = .ok (.getfield 79, 3) := by decide +kernel
theorem dX0_nextBehind_34 : decode cX0_nextBehind 34 = .ok (.iconst 2, 1) := by decide +kernel
theorem dX0_nextBehind_35 : decode cX0_nextBehind 35 = .ok (.invokevirtual 82, 3) := by decide +kernel
theorem dX0_nextBehind_38 : decode cX0_nextBehind 38 = .ok (.if_icmp .le 7, 3) := by decide +kernel
theorem dX0_nextBehind_41 : decode cX0_nextBehind 41 = .ok (.iconst 1, 1) := by decide +kernel
theorem dX0_nextBehind_42 : decode cX0_nextBehind 42 = .ok (.goto 4, 3) := by decide +kernel
theorem dX0_nextBehind_45 : decode cX0_nextBehind 45 = .ok (.iconst 0, 1) := by decide +kernel
theorem dX0_nextBehind_46 : decode cX0_nextBehind 46 = .ok (.istore_n 3, 1) := by decide +kernel
theorem dX0_nextBehind_47 : decode cX0_nextBehind 47 = .ok (.iload_n 3, 1) := by decide +kernel
theorem dX0_nextBehind_48 : decode cX0_nextBehind 48 = .ok (.ifCond .eq 7, 3) := by decide +kernel
theorem dX0_nextBehind_51 : decode cX0_nextBehind 51 = .ok (.iconst 0, 1) := by decide +kernel
theorem dX0_nextBehind_52 : decode cX0_nextBehind 52 = .ok (.goto 4, 3) := by decide +kernel
theorem dX0_nextBehind_55 : decode cX0_nextBehind 55 = .ok (.iconst 2, 1) := by decide +kernel
theorem dX0_nextBehind_56 : decode cX0_nextBehind 56 = .ok (.ireturn, 1) := by decide +kernel
theorem dX0_behindNormal_0 : decode cX0_behindNormal 0 = .ok (.aload_n 0, 1) := by decide +kernel
theorem dX0_behindNormal_1 : decode cX0_behindNormal 1 = .ok (.getfield 12, 3) := by decide +kernel
theorem dX0_behindNormal_4 : decode cX0_behindNormal 4 = .ok (.iconst 5, 1) := by decide +kernel
theorem dX0_behindNormal_5 : decode cX0_behindNormal 5 = .ok (.invokevirtual 86, 3) := by decide +kernel
theorem dX0_behindNormal_8 : decode cX0_behindNormal 8 = .ok (.iconst 2, 1) := by decide +kernel
theorem dX0_behindNormal_9 : decode cX0_behindNormal 9 = .ok (.if_icmp .lt 5, 3) := by decide +kernel
theorem dX0_behindNormal_12 : decode cX0_behindNormal 12 = .ok (.iconst 1, 1) := by decide +kernel
theorem dX0_behindNormal_13 : decode cX0_behindNormal 13 = .ok (.ireturn, 1) := by decide +kernel
theorem dX0_behindNormal_14 : decode cX0_behindNormal 14 = .ok (.aload_n 0, 1) := by decide +kernel
theorem dX0_behindNormal_15 : decode cX0_behindNormal 15 = .ok (.getfield 12, 3) := by decide +kernel
theorem dX0_behindNormal_18 : decode cX0_behindNormal 18 = .ok (.bipush 10, 2) := by decide +kernel
theorem dX0_behindNormal_20 : decode cX0_behindNormal 20 = .ok (.invokevirtual 90, 3) := by decide +kernel
theorem dX0_behindNormal_23 : decode cX0_behindNormal 23 = .ok (.ifCond .eq 20, 3) := by decide +kernel
theorem dX0_behindNormal_26 : decode cX0_behindNormal 26 = .ok (.aload_n 0, 1) := by decide +kernel
theorem dX0_behindNormal_27 : decode cX0_behindNormal 27 = .ok (.getfield 12, 3) := by decide +kernel
theorem dX0_behindNormal_30 : decode cX0_behindNormal 30 = .ok (.bipush 10, 2) := by decide +kernel
theorem dX0_behindNormal_32 : decode cX0_behindNormal 32 = .ok (.invokevirtual 94, 3) := by decide +kernel
theorem dX0_behindNormal_35 : decode cX0_behindNormal 35 = .ok (.iconst 4, 1) := by decide +kernel
theorem dX0_behindNormal_36 : decode cX0_behindNormal 36 = .ok (.if_icmp .gt 7, 3) := by decide +kernel
theorem dX0_behindNormal_39 : decode cX0_behindNormal 39 = .ok (.iconst 1, 1) := by decide +kernel
theorem dX0_behindNormal_40 : decode cX0_behindNormal 40 = .ok (.goto 4, 3) := by decide +kernel
theorem dX0_behindNormal_43 : decode cX0_behindNormal 43 = .ok (.iconst 0, 1) := by decide +kernel
theorem dX0_behindNormal_44 : decode cX0_behindNormal 44 = .ok (.istore_n 1, 1) := by decide +kernel
theorem dX0_behindNormal_45 : decode cX0_behindNormal 45 = .ok (.iload_n 1, 1) := by decide +kernel
theorem dX0_behindNormal_46 : decode cX0_behindNormal 46 = .ok (.ifCond .eq 14, 3) := by decide +kernel
theorem dX0_behindNormal_49 : decode cX0_behindNormal 49 = .ok (.aload_n 0, 1) := by decide +kernel
theorem dX0_behindNormal_50 : decode cX0_behindNormal 50 = .ok (.getfield 97, 3) := by decide +kernel
theorem dX0_behindNormal_53 : decode cX0_behindNormal 53 = .ok (.ifCond .eq 7, 3) := by decide +kernel
theorem dX0_behindNormal_56 : decode cX0_behindNormal 56 = .ok (.iconst 2, 1) := by decide +kernel
theorem dX0_behindNormal_57 : decode cX0_behindNormal 57 = .ok (.goto 4, 3) := by decide +kernel
theorem dX0_behindNormal_60 : decode cX0_behindNormal 60 = .ok (.iconst 0, 1) := by decide +kernel
theorem dX0_behindNormal_61 : decode cX0_behindNormal 61 = .ok (.ireturn, 1) := by decide +kernel
theorem dX0_behindTightened_0 : decode cX0_behindTightened 0 = .ok (.aload_n 0, 1) := by decide +kernel
theorem dX0_behindTightened_1 : decode cX0_behindTightened 1 = .ok (.getfield 12, 3) := by decide +kernel
theorem dX0_behindTightened_4 : decode cX0_behindTightened 4 = .ok (.iconst 5, 1) := by decide +kernel
theorem dX0_behindTightened_5 : decode cX0_behindTightened 5 = .ok (.invokevirtual 90, 3) := by decide +kernel
theorem dX0_behindTightened_8 : decode cX0_behindTightened 8 = .ok (.ifCond .eq 5, 3) := by decide +kernel
theorem dX0_behindTightened_11 : decode cX0_behindTightened 11 = .ok (.iconst 0, 1) := by decide +kernel
theorem dX0_behindTightened_12 : decode cX0_behindTightened 12 = .ok (.ireturn, 1) := by decide +kernel
theorem dX0_behindTightened_13 : decode cX0_behindTightened 13 = .ok (.aload_n 0, 1) := by decide +kernel
theorem dX0_behindTightened_14 : decode cX0_behindTightened 14 = .ok (.getfield 12, 3) := by decide +kernel
theorem dX0_behindTightened_17 : decode cX0_behindTightened 17 = .ok (.bipush 60, 2) := by decide +kernel
theorem dX0_behindTightened_19 : decode cX0_behindTightened 19 = .ok (.invokevirtual 86, 3) := by decide +kernel
theorem dX0_behindTightened_22 : decode cX0_behindTightened 22 = .ok (.iconst 5, 1) := by decide +kernel
theorem dX0_behindTightened_23 : decode cX0_behindTightened 23 = .ok (.if_icmp .lt 7, 3) := by decide +kernel
theorem dX0_behindTightened_26 : decode cX0_behindTightened 26 = .ok (.iconst 3, 1) := by decide +kernel
theorem dX0_behindTightened_27 : decode cX0_behindTightened 27 = .ok (.goto 4, 3) := by decide +kernel
theorem dX0_behindTightened_30 : decode cX0_behindTightened 30 = .ok (.iconst 1, 1) := by decide +kernel
theorem dX0_behindTightened_31 : decode cX0_behindTightened 31 = .ok (.ireturn, 1) := by decide +kernel
theorem dX0_isPassedOver_0 : decode cX0_isPassedOver 0 = .ok (.aload_n 0, 1) := by decide +kernel
theorem dX0_isPassedOver_1 : decode cX0_isPassedOver 1 = .ok (.getfield 22, 3) := by decide +kernel
theorem dX0_isPassedOver_4 : decode cX0_isPassedOver 4 = .ok (.ifCond .ne 5, 3) := by decide +kernel
theorem dX0_isPassedOver_7 : decode cX0_isPassedOver 7 = .ok (.iconst 0, 1) := by decide +kernel
theorem dX0_isPassedOver_8 : decode cX0_isPassedOver 8 = .ok (.ireturn, 1) := by decide +kernel
theorem dX0_isPassedOver_9 : decode cX0_isPassedOver 9 = .ok (.aload_n 0, 1) := by decide +kernel
theorem dX0_isPassedOver_10 : decode cX0_isPassedOver 10 = .ok (.dup, 1) := by decide +kernel
theorem dX0_isPassedOver_11 : decode cX0_isPassedOver 11 = .ok (.getfield 100, 3) := by decide +kernel
theorem dX0_isPassedOver_14 : decode cX0_isPassedOver 14 = .ok (.iconst 1, 1) := by decide +kernel
theorem dX0_isPassedOver_15 : decode cX0_isPassedOver 15 = .ok (.iadd, 1) := by decide +kernel
theorem dX0_isPassedOver_16 : decode cX0_isPassedOver 16 = .ok (.putfield 100, 3) := by decide +kernel
theorem dX0_isPassedOver_19 : decode cX0_isPassedOver 19 = .ok (.aload_n 0, 1) := by decide +kernel
theorem dX0_isPassedOver_20 : decode cX0_isPassedOver 20 = .ok (.getfield 100, 3) := by decide +kernel
theorem dX0_isPassedOver_23 : decode cX0_isPassedOver 23 = .ok (.aload_n 0, 1) := by decide +kernel
theorem dX0_isPassedOver_24 : decode cX0_isPassedOver 24 = .ok (.getfield 103, 3) := by decide +kernel
theorem dX0_isPassedOver_27 : decode cX0_isPassedOver 27 = .ok (.if_icmp .ge 5, 3) := by decide +kernel
theorem dX0_isPassedOver_30 : decode cX0_isPassedOver 30 = .ok (.iconst 1, 1) := by decide +kernel
theorem dX0_isPassedOver_31 : decode cX0_isPassedOver 31 = .ok (.ireturn, 1) := by decide +kernel
theorem dX0_isPassedOver_32 : decode cX0_isPassedOver 32 = .ok (.aload_n 0, 1) := by decide +kernel
theorem dX0_isPassedOver_33 : decode cX0_isPassedOver 33 = .ok (.iconst 0, 1) := by decide +kernel
theorem dX0_isPassedOver_34 : decode cX0_isPassedOver 34 = .ok (.putfield 100, 3) := by decide +kernel
theorem dX0_isPassedOver_37 : decode cX0_isPassedOver 37 = .ok (.iconst 0, 1) := by decide +kernel
theorem dX0_isPassedOver_38 : decode cX0_isPassedOver 38 = .ok (.ireturn, 1) := by decide +kernel
theorem dX0_countForSkipping_0 : decode cX0_countForSkipping 0 = .ok (.aload_n 1, 1) := by decide +kernel
theorem dX0_countForSkipping_1 : decode cX0_countForSkipping 1 = .ok (.getfield 106, 3) := by decide +kernel
theorem dX0_countForSkipping_4 : decode cX0_countForSkipping 4 = .ok (.ifCond .eq 19, 3) := by decide +kernel
theorem dX0_countForSkipping_7 : decode cX0_countForSkipping 7 = .ok (.aload_n 1, 1) := by decide +kernel
theorem dX0_countForSkipping_8 : decode cX0_countForSkipping 8 = .ok (.getfield 36, 3) := by decide +kernel
theorem dX0_countForSkipping_11 : decode cX0_countForSkipping 11 = .ok (.iconst 1, 1) := by decide +kernel
theorem dX0_countForSkipping_12 : decode cX0_countForSkipping 12 = .ok (.if_icmp .eq 11, 3) := by decide +kernel
theorem dX0_countForSkipping_15 : decode cX0_countForSkipping 15 = .ok (.aload_n 0, 1) := by decide +kernel
theorem dX0_countForSkipping_16 : decode cX0_countForSkipping 16 = .ok (.getfield 30, 3) := by decide +kernel
theorem dX0_countForSkipping_19 : decode cX0_countForSkipping 19 = .ok (.iconst 1, 1) := by decide +kernel
theorem dX0_countForSkipping_20 : decode cX0_countForSkipping 20 = .ok (.if_icmp .ne 14, 3) := by decide +kernel
theorem dX0_countForSkipping_23 : decode cX0_countForSkipping 23 = .ok (.aload_n 0, 1) := by decide +kernel
theorem dX0_countForSkipping_24 : decode cX0_countForSkipping 24 = .ok (.iconst 0, 1) := by decide +kernel
theorem dX0_countForSkipping_25 : decode cX0_countForSkipping 25 = .ok (.putfield 22, 3) := by decide +kernel
theorem dX0_countForSkipping_28 : decode cX0_countForSkipping 28 = .ok (.aload_n 0, 1) := by decide +kernel
theorem dX0_countForSkipping_29 : decode cX0_countForSkipping 29 = .ok (.iconst 0, 1) := by decide +kernel
theorem dX0_countForSkipping_30 : decode cX0_countForSkipping 30 = .ok (.putfield 26, 3) := by decide +kernel
theorem dX0_countForSkipping_33 : decode cX0_countForSkipping 33 = .ok (.return_, 1) := by decide +kernel
theorem dX0_countForSkipping_34 : decode cX0_countForSkipping 34 = .ok (.aload_n 0, 1) := by decide +kernel
theorem dX0_countForSkipping_35 : decode cX0_countForSkipping 35 = .ok (.dup, 1) := by decide +kernel
theorem dX0_countForSkipping_36 : decode cX0_countForSkipping 36 = .ok (.getfield 26, 3) := by decide +kernel
theorem dX0_countForSkipping_39 : decode cX0_countForSkipping 39 = .ok (.iconst 1, 1) := by decide +kernel
theorem dX0_countForSkipping_40 : decode cX0_countForSkipping 40 = .ok (.iadd, 1) := by decide +kernel
theorem dX0_countForSkipping_41 : decode cX0_countForSkipping 41 = .ok (.putfield 26, 3) := by decide +kernel
theorem dX0_countForSkipping_44 : decode cX0_countForSkipping 44 = .ok (.aload_n 0, 1) := by decide +kernel
theorem dX0_countForSkipping_45 : decode cX0_countForSkipping 45 = .ok (.getfield 22, 3) := by decide +kernel
theorem dX0_countForSkipping_48 : decode cX0_countForSkipping 48 = .ok (.ifCond .ne 29, 3) := by decide +kernel
theorem dX0_countForSkipping_51 : decode cX0_countForSkipping 51 = .ok (.aload_n 0, 1) := by decide +kernel
theorem dX0_countForSkipping_52 : decode cX0_countForSkipping 52 = .ok (.getfield 103, 3) := by decide +kernel
theorem dX0_countForSkipping_55 : decode cX0_countForSkipping 55 = .ok (.ifCond .le 22, 3) := by decide +kernel
theorem dX0_countForSkipping_58 : decode cX0_countForSkipping 58 = .ok (.aload_n 0, 1) := by decide +kernel
theorem dX0_countForSkipping_59 : decode cX0_countForSkipping 59 = .ok (.getfield 26, 3) := by decide +kernel
theorem dX0_countForSkipping_62 : decode cX0_countForSkipping 62 = .ok (.bipush 8, 2) := by decide +kernel
theorem dX0_countForSkipping_64 : decode cX0_countForSkipping 64 = .ok (.if_icmp .lt 13, 3) := by decide +kernel
theorem dX0_countForSkipping_67 : decode cX0_countForSkipping 67 = .ok (.aload_n 0, 1) := by decide +kernel
theorem dX0_countForSkipping_68 : decode cX0_countForSkipping 68 = .ok (.iconst 1, 1) := by decide +kernel
theorem dX0_countForSkipping_69 : decode cX0_countForSkipping 69 = .ok (.putfield 22, 3) := by decide +kernel
theorem dX0_countForSkipping_72 : decode cX0_countForSkipping 72 = .ok (.aload_n 0, 1) := by decide +kernel
theorem dX0_countForSkipping_73 : decode cX0_countForSkipping 73 = .ok (.iconst 0, 1) := by decide +kernel
theorem dX0_countForSkipping_74 : decode cX0_countForSkipping 74 = .ok (.putfield 100, 3) := by decide +kernel
theorem dX0_countForSkipping_77 : decode cX0_countForSkipping 77 = .ok (.return_, 1) := by decide +kernel
theorem dX1_choices_0 : decode cX1_choices 0 = .ok (.iload_n 1, 1) := by decide +kernel
theorem dX1_choices_1 : decode cX1_choices 1 = .ok (.ifCond .lt 8, 3) := by decide +kernel
theorem dX1_choices_4 : decode cX1_choices 4 = .ok (.iload_n 1, 1) := by decide +kernel
theorem dX1_choices_5 : decode cX1_choices 5 = .ok (.iload_n 0, 1) := by decide +kernel
theorem dX1_choices_6 : decode cX1_choices 6 = .ok (.if_icmp .le 5, 3) := by decide +kernel
theorem dX1_choices_9 : decode cX1_choices 9 = .ok (.lconst 0, 1) := by decide +kernel
theorem dX1_choices_10 : decode cX1_choices 10 = .ok (.lreturn, 1) := by decide +kernel
theorem dX1_choices_11 : decode cX1_choices 11 = .ok (.lconst 1, 1) := by decide +kernel
theorem dX1_choices_12 : decode cX1_choices 12 = .ok (.lstore_n 2, 1) := by decide +kernel
theorem dX1_choices_13 : decode cX1_choices 13 = .ok (.iconst 1, 1) := by decide +kernel
theorem dX1_choices_14 : decode cX1_choices 14 = .ok (.istore 4, 2) := by decide +kernel
theorem dX1_choices_16 : decode cX1_choices 16 = .ok (.iload 4, 2) := by decide +kernel
theorem dX1_choices_18 : decode cX1_choices 18 = .ok (.iload_n 1, 1) := by decide +kernel
theorem dX1_choices_19 : decode cX1_choices 19 = .ok (.if_icmp .gt 23, 3) := by decide +kernel
theorem dX1_choices_22 : decode cX1_choices 22 = .ok (.lload_n 2, 1) := by decide +kernel
theorem dX1_choices_23 : decode cX1_choices 23 = .ok (.iload_n 0, 1) := by decide +kernel
theorem dX1_choices_24 : decode cX1_choices 24 = .ok (.iload_n 1, 1) := by decide +kernel
theorem dX1_choices_25 : decode cX1_choices 25 = .ok (.isub, 1) := by decide +kernel
theorem dX1_choices_26 : decode cX1_choices 26 = .ok (.iload 4, 2) := by decide +kernel
theorem dX1_choices_28 : decode cX1_choices 28 = .ok (.iadd, 1) := by decide +kernel
theorem dX1_choices_29 : decode cX1_choices 29 = .ok (.i2l, 1) := by decide +kernel
theorem dX1_choices_30 : decode cX1_choices 30 = .ok (.lmul, 1) := by decide +kernel
theorem dX1_choices_31 : decode cX1_choices 31 = .ok (.iload 4, 2) := by decide +kernel
theorem dX1_choices_33 : decode cX1_choices 33 = .ok (.i2l, 1) := by decide +kernel
theorem dX1_choices_34 : decode cX1_choices 34 = .ok (.ldiv, 1) := by decide +kernel
theorem dX1_choices_35 : decode cX1_choices 35 = .ok (.lstore_n 2, 1) := by decide +kernel
theorem dX1_choices_36 : decode cX1_choices 36 = .ok (.iinc 4 1, 3) := by decide +kernel
theorem dX1_choices_39 : decode cX1_choices 39 = .ok (.goto (-23), 3) := by decide +kernel
theorem dX1_choices_42 : decode cX1_choices 42 = .ok (.lload_n 2, 1) := by decide +kernel
theorem dX1_choices_43 : decode cX1_choices 43 = .ok (.lreturn, 1) := by decide +kernel
theorem dX1_withExactly_0 : decode cX1_withExactly 0 = .ok (.iload_n 1, 1) := by decide +kernel
theorem dX1_withExactly_1 : decode cX1_withExactly 1 = .ok (.iload_n 3, 1) := by decide +kernel
theorem dX1_withExactly_2 : decode cX1_withExactly 2 = .ok (.invokestatic 7, 3) := by decide +kernel
theorem dX1_withExactly_5 : decode cX1_withExactly 5 = .ok (.iload_n 0, 1) := by decide +kernel
theorem dX1_withExactly_6 : decode cX1_withExactly 6 = .ok (.iload_n 1, 1) := by decide +kernel
theorem dX1_withExactly_7 : decode cX1_withExactly 7 = .ok (.isub, 1) := by decide +kernel
theorem dX1_withExactly_8 : decode cX1_withExactly 8 = .ok (.iload_n 2, 1) := by decide +kernel
theorem dX1_withExactly_9 : decode cX1_withExactly 9 = .ok (.iload_n 3, 1) := by decide +kernel
theorem dX1_withExactly_10 : decode cX1_withExactly 10 = .ok (.isub, 1) := by decide +kernel
theorem dX1_withExactly_11 : decode cX1_withExactly 11 = .ok (.invokestatic 7, 3) := by decide +kernel
theorem dX1_withExactly_14 : decode cX1_withExactly 14 = .ok (.lmul, 1) := by decide +kernel
theorem dX1_withExactly_15 : decode cX1_withExactly 15 = .ok (.lreturn, 1) := by decide +kernel
theorem dX1_withAtMost_0 : decode cX1_withAtMost 0 = .ok (.lconst 0, 1) := by decide +kernel
theorem dX1_withAtMost_1 : decode cX1_withAtMost 1 = .ok (.lstore 4, 2) := by decide +kernel
theorem dX1_withAtMost_3 : decode cX1_withAtMost 3 = .ok (.iconst 0, 1) := by decide +kernel
theorem dX1_withAtMost_4 : decode cX1_withAtMost 4 = .ok (.istore 6, 2) := by decide +kernel
theorem dX1_withAtMost_6 : decode cX1_withAtMost 6 = .ok (.iload 6, 2) := by decide +kernel
theorem dX1_withAtMost_8 : decode cX1_withAtMost 8 = .ok (.iload_n 3, 1) := by decide +kernel
theorem dX1_withAtMost_9 : decode cX1_withAtMost 9 = .ok (.if_icmp .gt 28, 3) := by decide +kernel
theorem dX1_withAtMost_12 : decode cX1_withAtMost 12 = .ok (.iload 6, 2) := by decide +kernel
theorem dX1_withAtMost_14 : decode cX1_withAtMost 14 = .ok (.iload_n 2, 1) := by decide +kernel
theorem dX1_withAtMost_15 : decode cX1_withAtMost 15 = .ok (.if_icmp .gt 22, 3) := by decide +kernel
theorem dX1_withAtMost_18 : decode cX1_withAtMost 18 = .ok (.lload 4, 2) := by decide +kernel
theorem dX1_withAtMost_20 : decode cX1_withAtMost 20 = .ok (.iload_n 0, 1) := by decide +kernel
theorem dX1_withAtMost_21 : decode cX1_withAtMost 21 = .ok (.iload_n 1, 1) := by decide +kernel
theorem dX1_withAtMost_22 : decode cX1_withAtMost 22 = .ok (.iload_n 2, 1) := by decide +kernel
theorem dX1_withAtMost_23 : decode cX1_withAtMost 23 = .ok (.iload 6, 2) := by decide +kernel
theorem dX1_withAtMost_25 : decode cX1_withAtMost 25 = .ok (.invokestatic 13, 3) := by decide +kernel
theorem dX1_withAtMost_28 : decode cX1_withAtMost 28 = .ok (.ladd, 1) := by decide +kernel
theorem dX1_withAtMost_29 : decode cX1_withAtMost 29 = .ok (.lstore 4, 2) := by decide +kernel
theorem dX1_withAtMost_31 : decode cX1_withAtMost 31 = .ok (.iinc 6 1, 3) := by decide +kernel
theorem dX1_withAtMost_34 : decode cX1_withAtMost 34 = .ok (.goto (-28), 3) := by decide +kernel
theorem dX1_withAtMost_37 : decode cX1_withAtMost 37 = .ok (.lload 4, 2) := by decide +kernel
theorem dX1_withAtMost_39 : decode cX1_withAtMost 39 = .ok (.lreturn, 1) := by decide +kernel
theorem dX1_listedWithAtMost_0 : decode cX1_listedWithAtMost 0 = .ok (.iconst 1, 1) := by decide +kernel
theorem dX1_listedWithAtMost_1 : decode cX1_listedWithAtMost 1 = .ok (.iload_n 1, 1) := by decide +kernel
theorem dX1_listedWithAtMost_2 : decode cX1_listedWithAtMost 2 = .ok (.ishl, 1) := by decide +kernel
theorem dX1_listedWithAtMost_3 : decode cX1_listedWithAtMost 3 = .ok (.iconst 1, 1) := by decide +kernel
theorem dX1_listedWithAtMost_4 : decode cX1_listedWithAtMost 4 = .ok (.isub, 1) := by decide +kernel
theorem dX1_listedWithAtMost_5 : decode cX1_listedWithAtMost 5 = .ok (.istore 4, 2) := by decide +kernel
theorem dX1_listedWithAtMost_7 : decode cX1_listedWithAtMost 7 = .ok (.iconst 1, 1) := by decide +kernel
theorem dX1_listedWithAtMost_8 : decode cX1_listedWithAtMost 8 = .ok (.iload_n 0, 1) := by decide +kernel
theorem dX1_listedWithAtMost_9 : decode cX1_listedWithAtMost 9 = .ok (.ishl, 1) := by decide +kernel
theorem dX1_listedWithAtMost_10 : decode cX1_listedWithAtMost 10 = .ok (.istore 5, 2) := by decide +kernel
theorem dX1_listedWithAtMost_12 : decode cX1_listedWithAtMost 12 = .ok (.iconst 1, 1) := by decide +kernel
theorem dX1_listedWithAtMost_13 : decode cX1_listedWithAtMost 13 = .ok (.iload_n 2, 1) := by decide +kernel
theorem dX1_listedWithAtMost_14 : decode cX1_listedWithAtMost 14 = .ok (.ishl, 1) := by decide +kernel
theorem dX1_listedWithAtMost_15 : decode cX1_listedWithAtMost 15 = .ok (.iconst 1, 1) := by decide +kernel
theorem dX1_listedWithAtMost_16 : decode cX1_listedWithAtMost 16 = .ok (.isub, 1) := by decide +kernel
theorem dX1_listedWithAtMost_17 : decode cX1_listedWithAtMost 17 = .ok (.istore 6, 2) := by decide +kernel
theorem dX1_listedWithAtMost_19 : decode cX1_listedWithAtMost 19 = .ok (.lconst 0, 1) := by decide +kernel
theorem dX1_listedWithAtMost_20 : decode cX1_listedWithAtMost 20 = .ok (.lstore 7, 2) := by decide +kernel
theorem dX1_listedWithAtMost_22 : decode cX1_listedWithAtMost 22 = .ok (.iconst 0, 1) := by decide +kernel
theorem dX1_listedWithAtMost_23 : decode cX1_listedWithAtMost 23 = .ok (.istore 9, 2) := by decide +kernel
theorem dX1_listedWithAtMost_25 : decode cX1_listedWithAtMost 25 = .ok (.iload 9, 2) := by decide +kernel
theorem dX1_listedWithAtMost_27 : decode cX1_listedWithAtMost 27 = .ok (.iload 5, 2) := by decide +kernel
theorem dX1_listedWithAtMost_29 : decode cX1_listedWithAtMost 29 = .ok (.if_icmp .ge 41, 3) := by decide +kernel
theorem dX1_listedWithAtMost_32 : decode cX1_listedWithAtMost 32 = .ok (.iload 6, 2) := by decide +kernel
theorem dX1_listedWithAtMost_34 : decode cX1_listedWithAtMost 34 = .ok (.iload 5, 2) := by decide +kernel
theorem dX1_listedWithAtMost_36 : decode cX1_listedWithAtMost 36 = .ok (.if_icmp .ge 34, 3) := by decide +kernel
theorem dX1_listedWithAtMost_39 : decode cX1_listedWithAtMost 39 = .ok (.iload 6, 2) := by decide +kernel
theorem dX1_listedWithAtMost_41 : decode cX1_listedWithAtMost 41 = .ok (.iload 4, 2) := by decide +kernel
theorem dX1_listedWithAtMost_43 : decode cX1_listedWithAtMost 43 = .ok (.iand, 1) := by decide +kernel
theorem dX1_listedWithAtMost_44 : decode cX1_listedWithAtMost 44 = .ok (.invokestatic 17, 3) := by decide +kernel
theorem dX1_listedWithAtMost_47 : decode cX1_listedWithAtMost 47 = .ok (.iload_n 3, 1) := by decide +kernel
theorem dX1_listedWithAtMost_48 : decode cX1_listedWithAtMost 48 = .ok (.if_icmp .gt 9, 3) := by decide +kernel
theorem dX1_listedWithAtMost_51 : decode cX1_listedWithAtMost 51 = .ok (.lload 7, 2) := by decide +kernel
theorem dX1_listedWithAtMost_53 : decode cX1_listedWithAtMost 53 = .ok (.lconst 1, 1) := by decide +kernel
theorem dX1_listedWithAtMost_54 : decode cX1_listedWithAtMost 54 = .ok (.ladd, 1) := by decide +kernel
theorem dX1_listedWithAtMost_55 : decode cX1_listedWithAtMost 55 = .ok (.lstore 7, 2) := by decide +kernel
theorem dX1_listedWithAtMost_57 : decode cX1_listedWithAtMost 57 = .ok (.iload 6, 2) := by decide +kernel
theorem dX1_listedWithAtMost_59 : decode cX1_listedWithAtMost 59 = .ok (.invokestatic 23, 3) := by decide +kernel
theorem dX1_listedWithAtMost_62 : decode cX1_listedWithAtMost 62 = .ok (.istore 6, 2) := by decide +kernel
theorem dX1_listedWithAtMost_64 : decode cX1_listedWithAtMost 64 = .ok (.iinc 9 1, 3) := by decide +kernel
theorem dX1_listedWithAtMost_67 : decode cX1_listedWithAtMost 67 = .ok (.goto (-42), 3) := by decide +kernel
theorem dX1_listedWithAtMost_70 : decode cX1_listedWithAtMost 70 = .ok (.lload 7, 2) := by decide +kernel
theorem dX1_listedWithAtMost_72 : decode cX1_listedWithAtMost 72 = .ok (.lreturn, 1) := by decide +kernel
theorem dX1_nextWithAsManyBits_0 : decode cX1_nextWithAsManyBits 0 = .ok (.iload_n 0, 1) := by decide +kernel
theorem dX1_nextWithAsManyBits_1 : decode cX1_nextWithAsManyBits 1 = .ok (.iload_n 0, 1) := by decide +kernel
theorem dX1_nextWithAsManyBits_2 : decode cX1_nextWithAsManyBits 2 = .ok (.ineg, 1) := by decide +kernel
theorem dX1_nextWithAsManyBits_3 : decode cX1_nextWithAsManyBits 3 = .ok (.iand, 1) := by decide +kernel
theorem dX1_nextWithAsManyBits_4 : decode cX1_nextWithAsManyBits 4 = .ok (.istore_n 1, 1) := by decide +kernel
theorem dX1_nextWithAsManyBits_5 : decode cX1_nextWithAsManyBits 5 = .ok (.iload_n 1, 1) := by decide +kernel
theorem dX1_nextWithAsManyBits_6 : decode cX1_nextWithAsManyBits 6 = .ok (.ifCond .gt 6, 3) := by decide +kernel
theorem dX1_nextWithAsManyBits_9 : decode cX1_nextWithAsManyBits 9 = .ok (.ldc 26, 2) := by decide +kernel
theorem dX1_nextWithAsManyBits_11 : decode cX1_nextWithAsManyBits 11 = .ok (.ireturn, 1) := by decide +kernel
theorem dX1_nextWithAsManyBits_12 : decode cX1_nextWithAsManyBits 12 = .ok (.iload_n 0, 1) := by decide +kernel
theorem dX1_nextWithAsManyBits_13 : decode cX1_nextWithAsManyBits 13 = .ok (.iload_n 1, 1) := by decide +kernel
theorem dX1_nextWithAsManyBits_14 : decode cX1_nextWithAsManyBits 14 = .ok (.iadd, 1) := by decide +kernel
theorem dX1_nextWithAsManyBits_15 : decode cX1_nextWithAsManyBits 15 = .ok (.istore_n 2, 1) := by decide +kernel
theorem dX1_nextWithAsManyBits_16 : decode cX1_nextWithAsManyBits 16 = .ok (.iload_n 2, 1) := by decide +kernel
theorem dX1_nextWithAsManyBits_17 : decode cX1_nextWithAsManyBits 17 = .ok (.iload_n 2, 1) := by decide +kernel
theorem dX1_nextWithAsManyBits_18 : decode cX1_nextWithAsManyBits 18 = .ok (.iload_n 0, 1) := by decide +kernel
theorem dX1_nextWithAsManyBits_19 : decode cX1_nextWithAsManyBits 19 = .ok (.ixor, 1) := by decide +kernel
theorem dX1_nextWithAsManyBits_20 : decode cX1_nextWithAsManyBits 20 = .ok (.iconst 2, 1) := by decide +kernel
theorem dX1_nextWithAsManyBits_21 : decode cX1_nextWithAsManyBits 21 = .ok (.iushr, 1) := by decide +kernel
theorem dX1_nextWithAsManyBits_22 : decode cX1_nextWithAsManyBits 22 = .ok (.iload_n 1, 1) := by decide +kernel
theorem dX1_nextWithAsManyBits_23 : decode cX1_nextWithAsManyBits 23 = .ok (.idiv, 1) := by decide +kernel
theorem dX1_nextWithAsManyBits_24 : decode cX1_nextWithAsManyBits 24 = .ok (.ior, 1) := by decide +kernel
theorem dX1_nextWithAsManyBits_25 : decode cX1_nextWithAsManyBits 25 = .ok (.ireturn, 1) := by decide +kernel
theorem dX2_init_0 : decode cX2_init 0 = .ok (.aload_n 0, 1) := by decide +kernel
theorem dX2_init_1 : decode cX2_init 1 = .ok (.invokespecial 3, 3) := by decide +kernel
theorem dX2_init_4 : decode cX2_init 4 = .ok (.aload_n 0, 1) := by decide +kernel
theorem dX2_init_5 : decode cX2_init 5 = .ok (.bipush 60, 2) := by decide +kernel
theorem dX2_init_7 : decode cX2_init 7 = .ok (.newarray .boolean, 2) := by decide +kernel
theorem dX2_init_9 : decode cX2_init 9 = .ok (.putfield 9, 3) := by decide +kernel
theorem dX2_init_12 : decode cX2_init 12 = .ok (.aload_n 0, 1) := by decide +kernel
theorem dX2_init_13 : decode cX2_init 13 = .ok (.bipush 60, 2) := by decide +kernel
theorem dX2_init_15 : decode cX2_init 15 = .ok (.newarray .int, 2) := by decide +kernel
theorem dX2_init_17 : decode cX2_init 17 = .ok (.putfield 15, 3) := by decide +kernel
theorem dX2_init_20 : decode cX2_init 20 = .ok (.return_, 1) := by decide +kernel
theorem dX2_clear_0 : decode cX2_clear 0 = .ok (.aload_n 0, 1) := by decide +kernel
theorem dX2_clear_1 : decode cX2_clear 1 = .ok (.iconst 0, 1) := by decide +kernel
theorem dX2_clear_2 : decode cX2_clear 2 = .ok (.putfield 19, 3) := by decide +kernel
theorem dX2_clear_5 : decode cX2_clear 5 = .ok (.return_, 1) := by decide +kernel
theorem dX2_add_0 : decode cX2_add 0 = .ok (.aload_n 0, 1) := by decide +kernel
theorem dX2_add_1 : decode cX2_add 1 = .ok (.getfield 19, 3) := by decide +kernel
theorem dX2_add_4 : decode cX2_add 4 = .ok (.ifCond .lt 12, 3) := by decide +kernel
theorem dX2_add_7 : decode cX2_add 7 = .ok (.aload_n 0, 1) := by decide +kernel
theorem dX2_add_8 : decode cX2_add 8 = .ok (.getfield 19, 3) := by decide +kernel
theorem dX2_add_11 : decode cX2_add 11 = .ok (.bipush 60, 2) := by decide +kernel
theorem dX2_add_13 : decode cX2_add 13 = .ok (.if_icmp .lt 4, 3) := by decide +kernel
theorem dX2_add_16 : decode cX2_add 16 = .ok (.return_, 1) := by decide +kernel
theorem dX2_add_17 : decode cX2_add 17 = .ok (.aload_n 0, 1) := by decide +kernel
theorem dX2_add_18 : decode cX2_add 18 = .ok (.getfield 9, 3) := by decide +kernel
theorem dX2_add_21 : decode cX2_add 21 = .ok (.aload_n 0, 1) := by decide +kernel
theorem dX2_add_22 : decode cX2_add 22 = .ok (.getfield 19, 3) := by decide +kernel
theorem dX2_add_25 : decode cX2_add 25 = .ok (.aload_n 1, 1) := by decide +kernel
theorem dX2_add_26 : decode cX2_add 26 = .ok (.getfield 23, 3) := by decide +kernel
theorem dX2_add_29 : decode cX2_add 29 = .ok (.ifCond .ne 7, 3) := by decide +kernel
theorem dX2_add_32 : decode cX2_add 32 = .ok (.iconst 1, 1) := by decide +kernel
theorem dX2_add_33 : decode cX2_add 33 = .ok (.goto 4, 3) := by decide +kernel
theorem dX2_add_36 : decode cX2_add 36 = .ok (.iconst 0, 1) := by decide +kernel
theorem dX2_add_37 : decode cX2_add 37 = .ok (.bastore, 1) := by decide +kernel
theorem dX2_add_38 : decode cX2_add 38 = .ok (.aload_n 0, 1) := by decide +kernel
theorem dX2_add_39 : decode cX2_add 39 = .ok (.getfield 15, 3) := by decide +kernel
theorem dX2_add_42 : decode cX2_add 42 = .ok (.aload_n 0, 1) := by decide +kernel
theorem dX2_add_43 : decode cX2_add 43 = .ok (.getfield 19, 3) := by decide +kernel
theorem dX2_add_46 : decode cX2_add 46 = .ok (.aload_n 1, 1) := by decide +kernel
theorem dX2_add_47 : decode cX2_add 47 = .ok (.getfield 28, 3) := by decide +kernel
theorem dX2_add_50 : decode cX2_add 50 = .ok (.iastore, 1) := by decide +kernel
theorem dX2_add_51 : decode cX2_add 51 = .ok (.aload_n 0, 1) := by decide +kernel
theorem dX2_add_52 : decode cX2_add 52 = .ok (.dup, 1) := by decide +kernel
theorem dX2_add_53 : decode cX2_add 53 = .ok (.getfield 19, 3) := by decide +kernel
theorem dX2_add_56 : decode cX2_add 56 = .ok (.iconst 1, 1) := by decide +kernel
theorem dX2_add_57 : decode cX2_add 57 = .ok (.iadd, 1) := by decide +kernel
theorem dX2_add_58 : decode cX2_add 58 = .ok (.putfield 19, 3) := by decide +kernel
theorem dX2_add_61 : decode cX2_add 61 = .ok (.return_, 1) := by decide +kernel
theorem dX2_refusedInLast_0 : decode cX2_refusedInLast 0 = .ok (.iconst 0, 1) := by decide +kernel
theorem dX2_refusedInLast_1 : decode cX2_refusedInLast 1 = .ok (.istore_n 2, 1) := by decide +kernel
theorem dX2_refusedInLast_2 : decode cX2_refusedInLast 2 = .ok (.aload_n 0, 1) := by decide +kernel
theorem dX2_refusedInLast_3 : decode cX2_refusedInLast 3 = .ok (.getfield 19, 3) := by decide +kernel
theorem dX2_refusedInLast_6 : decode cX2_refusedInLast 6 = .ok (.iload_n 1, 1) := by decide +kernel
theorem dX2_refusedInLast_7 : decode cX2_refusedInLast 7 = .ok (.if_icmp .le 12, 3) := by decide +kernel
theorem dX2_refusedInLast_10 : decode cX2_refusedInLast 10 = .ok (.aload_n 0, 1) := by decide +kernel
theorem dX2_refusedInLast_11 : decode cX2_refusedInLast 11 = .ok (.getfield 19, 3) := by decide +kernel
theorem dX2_refusedInLast_14 : decode cX2_refusedInLast 14 = .ok (.iload_n 1, 1) := by decide +kernel
theorem dX2_refusedInLast_15 : decode cX2_refusedInLast 15 = .ok (.isub, 1) := by decide +kernel
theorem dX2_refusedInLast_16 : decode cX2_refusedInLast 16 = .ok (.goto 4, 3) := by decide +kernel
theorem dX2_refusedInLast_19 : decode cX2_refusedInLast 19 = .ok (.iconst 0, 1) := by decide +kernel
theorem dX2_refusedInLast_20 : decode cX2_refusedInLast 20 = .ok (.istore_n 3, 1) := by decide +kernel
theorem dX2_refusedInLast_21 : decode cX2_refusedInLast 21 = .ok (.iload_n 3, 1) := by decide +kernel
theorem dX2_refusedInLast_22 : decode cX2_refusedInLast 22 = .ok (.istore 4, 2) := by decide +kernel
theorem dX2_refusedInLast_24 : decode cX2_refusedInLast 24 = .ok (.iload 4, 2) := by decide +kernel
theorem dX2_refusedInLast_26 : decode cX2_refusedInLast 26 = .ok (.ifCond .lt 38, 3) := by decide +kernel
theorem dX2_refusedInLast_29 : decode cX2_refusedInLast 29 = .ok (.iload 4, 2) := by decide +kernel
theorem dX2_refusedInLast_31 : decode cX2_refusedInLast 31 = .ok (.aload_n 0, 1) := by decide +kernel
theorem dX2_refusedInLast_32 : decode cX2_refusedInLast 32 = .ok (.getfield 19, 3) := by decide +kernel
theorem dX2_refusedInLast_35 : decode cX2_refusedInLast 35 = .ok (.if_icmp .ge 29, 3) := by decide +kernel
theorem dX2_refusedInLast_38 : decode cX2_refusedInLast 38 = .ok (.iload 4, 2) := by decide +kernel
theorem dX2_refusedInLast_40 : decode cX2_refusedInLast 40 = .ok (.bipush 60, 2) := by decide +kernel
theorem dX2_refusedInLast_42 : decode cX2_refusedInLast 42 = .ok (.if_icmp .ge 22, 3) := by decide +kernel
theorem dX2_refusedInLast_45 : decode cX2_refusedInLast 45 = .ok (.aload_n 0, 1) := by decide +kernel
theorem dX2_refusedInLast_46 : decode cX2_refusedInLast 46 = .ok (.getfield 9, 3) := by decide +kernel
theorem dX2_refusedInLast_49 : decode cX2_refusedInLast 49 = .ok (.iload 4, 2) := by decide +kernel
theorem dX2_refusedInLast_51 : decode cX2_refusedInLast 51 = .ok (.baload, 1) := by decide +kernel
theorem dX2_refusedInLast_52 : decode cX2_refusedInLast 52 = .ok (.ifCond .eq 6, 3) := by decide +kernel
theorem dX2_refusedInLast_55 : decode cX2_refusedInLast 55 = .ok (.iinc 2 1, 3) := by decide +kernel
theorem dX2_refusedInLast_58 : decode cX2_refusedInLast 58 = .ok (.iinc 4 1, 3) := by decide +kernel
theorem dX2_refusedInLast_61 : decode cX2_refusedInLast 61 = .ok (.goto (-37), 3) := by decide +kernel
theorem dX2_refusedInLast_64 : decode cX2_refusedInLast 64 = .ok (.iload_n 2, 1) := by decide +kernel
theorem dX2_refusedInLast_65 : decode cX2_refusedInLast 65 = .ok (.ireturn, 1) := by decide +kernel
theorem dX2_badInLast_0 : decode cX2_badInLast 0 = .ok (.iconst 0, 1) := by decide +kernel
theorem dX2_badInLast_1 : decode cX2_badInLast 1 = .ok (.istore_n 2, 1) := by decide +kernel
theorem dX2_badInLast_2 : decode cX2_badInLast 2 = .ok (.aload_n 0, 1) := by decide +kernel
theorem dX2_badInLast_3 : decode cX2_badInLast 3 = .ok (.getfield 19, 3) := by decide +kernel
theorem dX2_badInLast_6 : decode cX2_badInLast 6 = .ok (.iload_n 1, 1) := by decide +kernel
theorem dX2_badInLast_7 : decode cX2_badInLast 7 = .ok (.if_icmp .le 12, 3) := by decide +kernel
theorem dX2_badInLast_10 : decode cX2_badInLast 10 = .ok (.aload_n 0, 1) := by decide +kernel
theorem dX2_badInLast_11 : decode cX2_badInLast 11 = .ok (.getfield 19, 3) := by decide +kernel
theorem dX2_badInLast_14 : decode cX2_badInLast 14 = .ok (.iload_n 1, 1) := by decide +kernel
theorem dX2_badInLast_15 : decode cX2_badInLast 15 = .ok (.isub, 1) := by decide +kernel
theorem dX2_badInLast_16 : decode cX2_badInLast 16 = .ok (.goto 4, 3) := by decide +kernel
theorem dX2_badInLast_19 : decode cX2_badInLast 19 = .ok (.iconst 0, 1) := by decide +kernel
theorem dX2_badInLast_20 : decode cX2_badInLast 20 = .ok (.istore_n 3, 1) := by decide +kernel
theorem dX2_badInLast_21 : decode cX2_badInLast 21 = .ok (.iload_n 3, 1) := by decide +kernel
theorem dX2_badInLast_22 : decode cX2_badInLast 22 = .ok (.istore 4, 2) := by decide +kernel
theorem dX2_badInLast_24 : decode cX2_badInLast 24 = .ok (.iload 4, 2) := by decide +kernel
theorem dX2_badInLast_26 : decode cX2_badInLast 26 = .ok (.ifCond .lt 35, 3) := by decide +kernel
theorem dX2_badInLast_29 : decode cX2_badInLast 29 = .ok (.iload 4, 2) := by decide +kernel
theorem dX2_badInLast_31 : decode cX2_badInLast 31 = .ok (.aload_n 0, 1) := by decide +kernel
theorem dX2_badInLast_32 : decode cX2_badInLast 32 = .ok (.getfield 19, 3) := by decide +kernel
theorem dX2_badInLast_35 : decode cX2_badInLast 35 = .ok (.if_icmp .ge 26, 3) := by decide +kernel
theorem dX2_badInLast_38 : decode cX2_badInLast 38 = .ok (.iload 4, 2) := by decide +kernel
theorem dX2_badInLast_40 : decode cX2_badInLast 40 = .ok (.bipush 60, 2) := by decide +kernel
theorem dX2_badInLast_42 : decode cX2_badInLast 42 = .ok (.if_icmp .ge 19, 3) := by decide +kernel
theorem dX2_badInLast_45 : decode cX2_badInLast 45 = .ok (.iload_n 2, 1) := by decide +kernel
theorem dX2_badInLast_46 : decode cX2_badInLast 46 = .ok (.aload_n 0, 1) := by decide +kernel
theorem dX2_badInLast_47 : decode cX2_badInLast 47 = .ok (.getfield 15, 3) := by decide +kernel
theorem dX2_badInLast_50 : decode cX2_badInLast 50 = .ok (.iload 4, 2) := by decide +kernel
theorem dX2_badInLast_52 : decode cX2_badInLast 52 = .ok (.iaload, 1) := by decide +kernel
theorem dX2_badInLast_53 : decode cX2_badInLast 53 = .ok (.iadd, 1) := by decide +kernel
theorem dX2_badInLast_54 : decode cX2_badInLast 54 = .ok (.istore_n 2, 1) := by decide +kernel
theorem dX2_badInLast_55 : decode cX2_badInLast 55 = .ok (.iinc 4 1, 3) := by decide +kernel
theorem dX2_badInLast_58 : decode cX2_badInLast 58 = .ok (.goto (-34), 3) := by decide +kernel
theorem dX2_badInLast_61 : decode cX2_badInLast 61 = .ok (.iload_n 2, 1) := by decide +kernel
theorem dX2_badInLast_62 : decode cX2_badInLast 62 = .ok (.ireturn, 1) := by decide +kernel
theorem dX2_lastWereAccepted_0 : decode cX2_lastWereAccepted 0 = .ok (.aload_n 0, 1) := by decide +kernel
theorem dX2_lastWereAccepted_1 : decode cX2_lastWereAccepted 1 = .ok (.getfield 19, 3) := by decide +kernel
theorem dX2_lastWereAccepted_4 : decode cX2_lastWereAccepted 4 = .ok (.iload_n 1, 1) := by decide +kernel
theorem dX2_lastWereAccepted_5 : decode cX2_lastWereAccepted 5 = .ok (.if_icmp .lt 15, 3) := by decide +kernel
theorem dX2_lastWereAccepted_8 : decode cX2_lastWereAccepted 8 = .ok (.aload_n 0, 1) := by decide +kernel
theorem dX2_lastWereAccepted_9 : decode cX2_lastWereAccepted 9 = .ok (.iload_n 1, 1) := by decide +kernel
theorem dX2_lastWereAccepted_10 : decode cX2_lastWereAccepted 10 = .ok (.invokevirtual 30, 3) := by decide +kernel
theorem dX2_lastWereAccepted_13 : decode cX2_lastWereAccepted 13 = .ok (.ifCond .ne 7, 3) := by decide +kernel
theorem dX2_lastWereAccepted_16 : decode cX2_lastWereAccepted 16 = .ok (.iconst 1, 1) := by decide +kernel
theorem dX2_lastWereAccepted_17 : decode cX2_lastWereAccepted 17 = .ok (.goto 4, 3) := by decide +kernel
theorem dX2_lastWereAccepted_20 : decode cX2_lastWereAccepted 20 = .ok (.iconst 0, 1) := by decide +kernel
theorem dX2_lastWereAccepted_21 : decode cX2_lastWereAccepted 21 = .ok (.ireturn, 1) := by decide +kernel
theorem dX3_init_0 : decode cX3_init 0 = .ok (.aload_n 0, 1) := by decide +kernel
theorem dX3_init_1 : decode cX3_init 1 = .ok (.invokespecial 3, 3) := by decide +kernel
theorem dX3_init_4 : decode cX3_init 4 = .ok (.aload_n 0, 1) := by decide +kernel
theorem dX3_init_5 : decode cX3_init 5 = .ok (.iload_n 1, 1) := by decide +kernel
theorem dX3_init_6 : decode cX3_init 6 = .ok (.putfield 9, 3) := by decide +kernel
theorem dX3_init_9 : decode cX3_init 9 = .ok (.aload_n 0, 1) := by decide +kernel
theorem dX3_init_10 : decode cX3_init 10 = .ok (.iload_n 2, 1) := by decide +kernel
theorem dX3_init_11 : decode cX3_init 11 = .ok (.putfield 15, 3) := by decide +kernel
theorem dX3_init_14 : decode cX3_init 14 = .ok (.aload_n 0, 1) := by decide +kernel
theorem dX3_init_15 : decode cX3_init 15 = .ok (.lload_n 3, 1) := by decide +kernel
theorem dX3_init_16 : decode cX3_init 16 = .ok (.putfield 18, 3) := by decide +kernel
theorem dX3_init_19 : decode cX3_init 19 = .ok (.return_, 1) := by decide +kernel
theorem dX3_inspectFirst_0 : decode cX3_inspectFirst 0 = .ok (.aload_n 0, 1) := by decide +kernel
theorem dX3_inspectFirst_1 : decode cX3_inspectFirst 1 = .ok (.iload_n 1, 1) := by decide +kernel
theorem dX3_inspectFirst_2 : decode cX3_inspectFirst 2 = .ok (.putfield 22, 3) := by decide +kernel
theorem dX3_inspectFirst_5 : decode cX3_inspectFirst 5 = .ok (.aload_n 0, 1) := by decide +kernel
theorem dX3_inspectFirst_6 : decode cX3_inspectFirst 6 = .ok (.aload_n 0, 1) := by decide +kernel
theorem dX3_inspectFirst_7 : decode cX3_inspectFirst 7 = .ok (.getfield 18, 3) := by decide +kernel
theorem dX3_inspectFirst_10 : decode cX3_inspectFirst 10 = .ok (.lconst 1, 1) := by decide +kernel
theorem dX3_inspectFirst_11 : decode cX3_inspectFirst 11 = .ok (.iload_n 1, 1) := by decide +kernel
theorem dX3_inspectFirst_12 : decode cX3_inspectFirst 12 = .ok (.lshl, 1) := by decide +kernel
theorem dX3_inspectFirst_13 : decode cX3_inspectFirst 13 = .ok (.lconst 1, 1) := by decide +kernel
theorem dX3_inspectFirst_14 : decode cX3_inspectFirst 14 = .ok (.lsub, 1) := by decide +kernel
theorem dX3_inspectFirst_15 : decode cX3_inspectFirst 15 = .ok (.land, 1) := by decide +kernel
theorem dX3_inspectFirst_16 : decode cX3_inspectFirst 16 = .ok (.invokestatic 25, 3) := by decide +kernel
theorem dX3_inspectFirst_19 : decode cX3_inspectFirst 19 = .ok (.putfield 31, 3) := by decide +kernel
theorem dX3_inspectFirst_22 : decode cX3_inspectFirst 22 = .ok (.return_, 1) := by decide +kernel
theorem dX3_leaveUninspected_0 : decode cX3_leaveUninspected 0 = .ok (.aload_n 0, 1) := by decide +kernel
theorem dX3_leaveUninspected_1 : decode cX3_leaveUninspected 1 = .ok (.iconst 0, 1) := by decide +kernel
theorem dX3_leaveUninspected_2 : decode cX3_leaveUninspected 2 = .ok (.putfield 22, 3) := by decide +kernel
theorem dX3_leaveUninspected_5 : decode cX3_leaveUninspected 5 = .ok (.aload_n 0, 1) := by decide +kernel
theorem dX3_leaveUninspected_6 : decode cX3_leaveUninspected 6 = .ok (.iconst 0, 1) := by decide +kernel
theorem dX3_leaveUninspected_7 : decode cX3_leaveUninspected 7 = .ok (.putfield 31, 3) := by decide +kernel
theorem dX3_leaveUninspected_10 : decode cX3_leaveUninspected 10 = .ok (.aload_n 0, 1) := by decide +kernel
theorem dX3_leaveUninspected_11 : decode cX3_leaveUninspected 11 = .ok (.iload_n 1, 1) := by decide +kernel
theorem dX3_leaveUninspected_12 : decode cX3_leaveUninspected 12 = .ok (.putfield 34, 3) := by decide +kernel
theorem dX3_leaveUninspected_15 : decode cX3_leaveUninspected 15 = .ok (.return_, 1) := by decide +kernel
theorem dX3_judge_0 : decode cX3_judge 0 = .ok (.aload_n 0, 1) := by decide +kernel
theorem dX3_judge_1 : decode cX3_judge 1 = .ok (.iload_n 1, 1) := by decide +kernel
theorem dX3_judge_2 : decode cX3_judge 2 = .ok (.ifCond .eq 7, 3) := by decide +kernel
theorem dX3_judge_5 : decode cX3_judge 5 = .ok (.iconst 1, 1) := by decide +kernel
theorem dX3_judge_6 : decode cX3_judge 6 = .ok (.goto 4, 3) := by decide +kernel
theorem dX3_judge_9 : decode cX3_judge 9 = .ok (.iconst 0, 1) := by decide +kernel
theorem dX3_judge_10 : decode cX3_judge 10 = .ok (.putfield 34, 3) := by decide +kernel
theorem dX3_judge_13 : decode cX3_judge 13 = .ok (.return_, 1) := by decide +kernel
theorem dX4_init_0 : decode cX4_init 0 = .ok (.aload_n 0, 1) := by decide +kernel
theorem dX4_init_1 : decode cX4_init 1 = .ok (.invokespecial 3, 3) := by decide +kernel
theorem dX4_init_4 : decode cX4_init 4 = .ok (.aload_n 0, 1) := by decide +kernel
theorem dX4_init_5 : decode cX4_init 5 = .ok (.iconst 1, 1) := by decide +kernel
theorem dX4_init_6 : decode cX4_init 6 = .ok (.putfield 9, 3) := by decide +kernel
theorem dX4_init_9 : decode cX4_init 9 = .ok (.aload_n 0, 1) := by decide +kernel
theorem dX4_init_10 : decode cX4_init 10 = .ok (.iconst 1, 1) := by decide +kernel
theorem dX4_init_11 : decode cX4_init 11 = .ok (.putfield 15, 3) := by decide +kernel
theorem dX4_init_14 : decode cX4_init 14 = .ok (.return_, 1) := by decide +kernel
theorem dX4_letterFor_0 : decode cX4_letterFor 0 = .ok (.aload_n 0, 1) := by decide +kernel
theorem dX4_letterFor_1 : decode cX4_letterFor 1 = .ok (.getfield 9, 3) := by decide +kernel
theorem dX4_letterFor_4 : decode cX4_letterFor 4 = .ok (.istore_n 2, 1) := by decide +kernel
theorem dX4_letterFor_5 : decode cX4_letterFor 5 = .ok (.getstatic 18, 3) := by decide +kernel
theorem dX4_letterFor_8 : decode cX4_letterFor 8 = .ok (.astore_n 3, 1) := by decide +kernel
theorem dX4_letterFor_9 : decode cX4_letterFor 9 = .ok (.aload_n 3, 1) := by decide +kernel
theorem dX4_letterFor_10 : decode cX4_letterFor 10 = .ok (.arraylength, 1) := by decide +kernel
theorem dX4_letterFor_11 : decode cX4_letterFor 11 = .ok (.istore 4, 2) := by decide +kernel
theorem dX4_letterFor_13 : decode cX4_letterFor 13 = .ok (.iconst 0, 1) := by decide +kernel
theorem dX4_letterFor_14 : decode cX4_letterFor 14 = .ok (.istore 5, 2) := by decide +kernel
theorem dX4_letterFor_16 : decode cX4_letterFor 16 = .ok (.iload 5, 2) := by decide +kernel
theorem dX4_letterFor_18 : decode cX4_letterFor 18 = .ok (.iload 4, 2) := by decide +kernel
theorem dX4_letterFor_20 : decode cX4_letterFor 20 = .ok (.if_icmp .ge 24, 3) := by decide +kernel
theorem dX4_letterFor_23 : decode cX4_letterFor 23 = .ok (.aload_n 3, 1) := by decide +kernel
theorem dX4_letterFor_24 : decode cX4_letterFor 24 = .ok (.iload 5, 2) := by decide +kernel
theorem dX4_letterFor_26 : decode cX4_letterFor 26 = .ok (.iaload, 1) := by decide +kernel
theorem dX4_letterFor_27 : decode cX4_letterFor 27 = .ok (.istore 6, 2) := by decide +kernel
theorem dX4_letterFor_29 : decode cX4_letterFor 29 = .ok (.iload_n 1, 1) := by decide +kernel
theorem dX4_letterFor_30 : decode cX4_letterFor 30 = .ok (.iload 6, 2) := by decide +kernel
theorem dX4_letterFor_32 : decode cX4_letterFor 32 = .ok (.if_icmp .le 6, 3) := by decide +kernel
theorem dX4_letterFor_35 : decode cX4_letterFor 35 = .ok (.iinc 2 1, 3) := by decide +kernel
theorem dX4_letterFor_38 : decode cX4_letterFor 38 = .ok (.iinc 5 1, 3) := by decide +kernel
theorem dX4_letterFor_41 : decode cX4_letterFor 41 = .ok (.goto (-25), 3) := by decide +kernel
theorem dX4_letterFor_44 : decode cX4_letterFor 44 = .ok (.iload_n 2, 1) := by decide +kernel
theorem dX4_letterFor_45 : decode cX4_letterFor 45 = .ok (.ifCond .le 17, 3) := by decide +kernel
theorem dX4_letterFor_48 : decode cX4_letterFor 48 = .ok (.iload_n 2, 1) := by decide +kernel
theorem dX4_letterFor_49 : decode cX4_letterFor 49 = .ok (.invokestatic 22, 3) := by decide +kernel
theorem dX4_letterFor_52 : decode cX4_letterFor 52 = .ok (.iload_n 1, 1) := by decide +kernel
theorem dX4_letterFor_53 : decode cX4_letterFor 53 = .ok (.if_icmp .le 9, 3) := by decide +kernel
theorem dX4_letterFor_56 : decode cX4_letterFor 56 = .ok (.iinc 2 (-1), 3) := by decide +kernel
theorem dX4_letterFor_59 : decode cX4_letterFor 59 = .ok (.goto (-15), 3) := by decide +kernel
theorem dX4_letterFor_62 : decode cX4_letterFor 62 = .ok (.iload_n 2, 1) := by decide +kernel
theorem dX4_letterFor_63 : decode cX4_letterFor 63 = .ok (.ireturn, 1) := by decide +kernel
theorem dX4_sampleUnder_0 : decode cX4_sampleUnder 0 = .ok (.aload_n 0, 1) := by decide +kernel
theorem dX4_sampleUnder_1 : decode cX4_sampleUnder 1 = .ok (.iload_n 1, 1) := by decide +kernel
theorem dX4_sampleUnder_2 : decode cX4_sampleUnder 2 = .ok (.invokevirtual 26, 3) := by decide +kernel
theorem dX4_sampleUnder_5 : decode cX4_sampleUnder 5 = .ok (.istore_n 3, 1) := by decide +kernel
theorem dX4_sampleUnder_6 : decode cX4_sampleUnder 6 = .ok (.iload_n 2, 1) := by decide +kernel
theorem dX4_sampleUnder_7 : decode cX4_sampleUnder 7 = .ok (.iconst 2, 1) := by decide +kernel
theorem dX4_sampleUnder_8 : decode cX4_sampleUnder 8 = .ok (.if_icmp .ne 9, 3) := by decide +kernel
theorem dX4_sampleUnder_11 : decode cX4_sampleUnder 11 = .ok (.iload_n 3, 1) := by decide +kernel
theorem dX4_sampleUnder_12 : decode cX4_sampleUnder 12 = .ok (.iconst 2, 1) := by decide +kernel
theorem dX4_sampleUnder_13 : decode cX4_sampleUnder 13 = .ok (.isub, 1) := by decide +kernel
theorem dX4_sampleUnder_14 : decode cX4_sampleUnder 14 = .ok (.goto 4, 3) := by decide +kernel
theorem dX4_sampleUnder_17 : decode cX4_sampleUnder 17 = .ok (.iload_n 3, 1) := by decide +kernel
theorem dX4_sampleUnder_18 : decode cX4_sampleUnder 18 = .ok (.invokestatic 22, 3) := by decide +kernel
theorem dX4_sampleUnder_21 : decode cX4_sampleUnder 21 = .ok (.ireturn, 1) := by decide +kernel
theorem dX4_acceptingUnder_0 : decode cX4_acceptingUnder 0 = .ok (.aload_n 0, 1) := by decide +kernel
theorem dX4_acceptingUnder_1 : decode cX4_acceptingUnder 1 = .ok (.iload_n 1, 1) := by decide +kernel
theorem dX4_acceptingUnder_2 : decode cX4_acceptingUnder 2 = .ok (.invokevirtual 26, 3) := by decide +kernel
theorem dX4_acceptingUnder_5 : decode cX4_acceptingUnder 5 = .ok (.invokestatic 22, 3) := by decide +kernel
theorem dX4_acceptingUnder_8 : decode cX4_acceptingUnder 8 = .ok (.iconst 2, 1) := by decide +kernel
theorem dX4_acceptingUnder_9 : decode cX4_acceptingUnder 9 = .ok (.aload_n 0, 1) := by decide +kernel
theorem dX4_acceptingUnder_10 : decode cX4_acceptingUnder 10 = .ok (.getfield 15, 3) := by decide +kernel
theorem dX4_acceptingUnder_13 : decode cX4_acceptingUnder 13 = .ok (.imul, 1) := by decide +kernel
theorem dX4_acceptingUnder_14 : decode cX4_acceptingUnder 14 = .ok (.iconst 1, 1) := by decide +kernel
theorem dX4_acceptingUnder_15 : decode cX4_acceptingUnder 15 = .ok (.iadd, 1) := by decide +kernel
theorem dX4_acceptingUnder_16 : decode cX4_acceptingUnder 16 = .ok (.imul, 1) := by decide +kernel
theorem dX4_acceptingUnder_17 : decode cX4_acceptingUnder 17 = .ok (.bipush 40, 2) := by decide +kernel
theorem dX4_acceptingUnder_19 : decode cX4_acceptingUnder 19 = .ok (.idiv, 1) := by decide +kernel
theorem dX4_acceptingUnder_20 : decode cX4_acceptingUnder 20 = .ok (.istore_n 3, 1) := by decide +kernel
theorem dX4_acceptingUnder_21 : decode cX4_acceptingUnder 21 = .ok (.iload_n 2, 1) := by decide +kernel
theorem dX4_acceptingUnder_22 : decode cX4_acceptingUnder 22 = .ok (.ifCond .eq 7, 3) := by decide +kernel
theorem dX4_acceptingUnder_25 : decode cX4_acceptingUnder 25 = .ok (.iload_n 3, 1) := by decide +kernel
theorem dX4_acceptingUnder_26 : decode cX4_acceptingUnder 26 = .ok (.ifCond .ne 7, 3) := by decide +kernel
theorem dX4_acceptingUnder_29 : decode cX4_acceptingUnder 29 = .ok (.iload_n 3, 1) := by decide +kernel
theorem dX4_acceptingUnder_30 : decode cX4_acceptingUnder 30 = .ok (.goto 6, 3) := by decide +kernel
theorem dX4_acceptingUnder_33 : decode cX4_acceptingUnder 33 = .ok (.iload_n 3, 1) := by decide +kernel
theorem dX4_acceptingUnder_34 : decode cX4_acceptingUnder 34 = .ok (.iconst 1, 1) := by decide +kernel
theorem dX4_acceptingUnder_35 : decode cX4_acceptingUnder 35 = .ok (.isub, 1) := by decide +kernel
theorem dX4_acceptingUnder_36 : decode cX4_acceptingUnder 36 = .ok (.ireturn, 1) := by decide +kernel
theorem dX4_sampleOf_0 : decode cX4_sampleOf 0 = .ok (.iload_n 0, 1) := by decide +kernel
theorem dX4_sampleOf_1 : decode cX4_sampleOf 1 = .ok (.ifCond .lt 15, 3) := by decide +kernel
theorem dX4_sampleOf_4 : decode cX4_sampleOf 4 = .ok (.iload_n 0, 1) := by decide +kernel
theorem dX4_sampleOf_5 : decode cX4_sampleOf 5 = .ok (.getstatic 29, 3) := by decide +kernel
theorem dX4_sampleOf_8 : decode cX4_sampleOf 8 = .ok (.arraylength, 1) := by decide +kernel
theorem dX4_sampleOf_9 : decode cX4_sampleOf 9 = .ok (.if_icmp .ge 7, 3) := by decide +kernel
theorem dX4_sampleOf_12 : decode cX4_sampleOf 12 = .ok (.iconst 1, 1) := by decide +kernel
theorem dX4_sampleOf_13 : decode cX4_sampleOf 13 = .ok (.goto 4, 3) := by decide +kernel
theorem dX4_sampleOf_16 : decode cX4_sampleOf 16 = .ok (.iconst 0, 1) := by decide +kernel
theorem dX4_sampleOf_17 : decode cX4_sampleOf 17 = .ok (.istore_n 1, 1) := by decide +kernel
theorem dX4_sampleOf_18 : decode cX4_sampleOf 18 = .ok (.getstatic 29, 3) := by decide +kernel
theorem dX4_sampleOf_21 : decode cX4_sampleOf 21 = .ok (.iload_n 1, 1) := by decide +kernel
theorem dX4_sampleOf_22 : decode cX4_sampleOf 22 = .ok (.ifCond .eq 7, 3) := by decide +kernel
theorem dX4_sampleOf_25 : decode cX4_sampleOf 25 = .ok (.iload_n 0, 1) := by decide +kernel
theorem dX4_sampleOf_26 : decode cX4_sampleOf 26 = .ok (.goto 4, 3) := by decide +kernel
theorem dX4_sampleOf_29 : decode cX4_sampleOf 29 = .ok (.iconst 0, 1) := by decide +kernel
theorem dX4_sampleOf_30 : decode cX4_sampleOf 30 = .ok (.iaload, 1) := by decide +kernel
theorem dX4_sampleOf_31 : decode cX4_sampleOf 31 = .ok (.ireturn, 1) := by decide +kernel
theorem dX4_inspect_0 : decode cX4_inspect 0 = .ok (.aload_n 0, 1) := by decide +kernel
theorem dX4_inspect_1 : decode cX4_inspect 1 = .ok (.aload_n 1, 1) := by decide +kernel
theorem dX4_inspect_2 : decode cX4_inspect 2 = .ok (.getfield 32, 3) := by decide +kernel
theorem dX4_inspect_5 : decode cX4_inspect 5 = .ok (.iload_n 2, 1) := by decide +kernel
theorem dX4_inspect_6 : decode cX4_inspect 6 = .ok (.invokevirtual 37, 3) := by decide +kernel
theorem dX4_inspect_9 : decode cX4_inspect 9 = .ok (.istore_n 3, 1) := by decide +kernel
theorem dX4_inspect_10 : decode cX4_inspect 10 = .ok (.aload_n 0, 1) := by decide +kernel
theorem dX4_inspect_11 : decode cX4_inspect 11 = .ok (.aload_n 1, 1) := by decide +kernel
theorem dX4_inspect_12 : decode cX4_inspect 12 = .ok (.getfield 32, 3) := by decide +kernel
theorem dX4_inspect_15 : decode cX4_inspect 15 = .ok (.iload_n 2, 1) := by decide +kernel
theorem dX4_inspect_16 : decode cX4_inspect 16 = .ok (.invokevirtual 41, 3) := by decide +kernel
theorem dX4_inspect_19 : decode cX4_inspect 19 = .ok (.istore 4, 2) := by decide +kernel
theorem dX4_inspect_21 : decode cX4_inspect 21 = .ok (.aload_n 0, 1) := by decide +kernel
theorem dX4_inspect_22 : decode cX4_inspect 22 = .ok (.getfield 44, 3) := by decide +kernel
theorem dX4_inspect_25 : decode cX4_inspect 25 = .ok (.ifCond .eq 27, 3) := by decide +kernel
theorem dX4_inspect_28 : decode cX4_inspect 28 = .ok (.iload_n 2, 1) := by decide +kernel
theorem dX4_inspect_29 : decode cX4_inspect 29 = .ok (.iconst 2, 1) := by decide +kernel
theorem dX4_inspect_30 : decode cX4_inspect 30 = .ok (.if_icmp .eq 22, 3) := by decide +kernel
theorem dX4_inspect_33 : decode cX4_inspect 33 = .ok (.iload_n 3, 1) := by decide +kernel
theorem dX4_inspect_34 : decode cX4_inspect 34 = .ok (.iconst 5, 1) := by decide +kernel
theorem dX4_inspect_35 : decode cX4_inspect 35 = .ok (.if_icmp .lt 17, 3) := by decide +kernel
theorem dX4_inspect_38 : decode cX4_inspect 38 = .ok (.aload_n 1, 1) := by decide +kernel
theorem dX4_inspect_39 : decode cX4_inspect 39 = .ok (.iload_n 3, 1) := by decide +kernel
theorem dX4_inspect_40 : decode cX4_inspect 40 = .ok (.iconst 2, 1) := by decide +kernel
theorem dX4_inspect_41 : decode cX4_inspect 41 = .ok (.imul, 1) := by decide +kernel
theorem dX4_inspect_42 : decode cX4_inspect 42 = .ok (.iconst 2, 1) := by decide +kernel
theorem dX4_inspect_43 : decode cX4_inspect 43 = .ok (.iadd, 1) := by decide +kernel
theorem dX4_inspect_44 : decode cX4_inspect 44 = .ok (.iconst 3, 1) := by decide +kernel
theorem dX4_inspect_45 : decode cX4_inspect 45 = .ok (.idiv, 1) := by decide +kernel
theorem dX4_inspect_46 : decode cX4_inspect 46 = .ok (.iload 4, 2) := by decide +kernel
theorem dX4_inspect_48 : decode cX4_inspect 48 = .ok (.invokestatic 48, 3) := by decide +kernel
theorem dX4_inspect_51 : decode cX4_inspect 51 = .ok (.return_, 1) := by decide +kernel
theorem dX4_inspect_52 : decode cX4_inspect 52 = .ok (.aload_n 1, 1) := by decide +kernel
theorem dX4_inspect_53 : decode cX4_inspect 53 = .ok (.iload_n 3, 1) := by decide +kernel
theorem dX4_inspect_54 : decode cX4_inspect 54 = .ok (.invokevirtual 52, 3) := by decide +kernel
theorem dX4_inspect_57 : decode cX4_inspect 57 = .ok (.aload_n 1, 1) := by decide +kernel
theorem dX4_inspect_58 : decode cX4_inspect 58 = .ok (.aload_n 1, 1) := by decide +kernel
theorem dX4_inspect_59 : decode cX4_inspect 59 = .ok (.getfield 56, 3) := by decide +kernel
theorem dX4_inspect_62 : decode cX4_inspect 62 = .ok (.iload_n 2, 1) := by decide +kernel
theorem dX4_inspect_63 : decode cX4_inspect 63 = .ok (.iconst 2, 1) := by decide +kernel
theorem dX4_inspect_64 : decode cX4_inspect 64 = .ok (.if_icmp .ne 10, 3) := by decide +kernel
theorem dX4_inspect_67 : decode cX4_inspect 67 = .ok (.iload 4, 2) := by decide +kernel
theorem dX4_inspect_69 : decode cX4_inspect 69 = .ok (.iconst 1, 1) := by decide +kernel
theorem dX4_inspect_70 : decode cX4_inspect 70 = .ok (.iadd, 1) := by decide +kernel
theorem dX4_inspect_71 : decode cX4_inspect 71 = .ok (.goto 5, 3) := by decide +kernel
theorem dX4_inspect_74 : decode cX4_inspect 74 = .ok (.iload 4, 2) := by decide +kernel
theorem dX4_inspect_76 : decode cX4_inspect 76 = .ok (.if_icmp .gt 7, 3) := by decide +kernel
theorem dX4_inspect_79 : decode cX4_inspect 79 = .ok (.iconst 1, 1) := by decide +kernel
theorem dX4_inspect_80 : decode cX4_inspect 80 = .ok (.goto 4, 3) := by decide +kernel
theorem dX4_inspect_83 : decode cX4_inspect 83 = .ok (.iconst 0, 1) := by decide +kernel
theorem dX4_inspect_84 : decode cX4_inspect 84 = .ok (.invokevirtual 59, 3) := by decide +kernel
theorem dX4_inspect_87 : decode cX4_inspect 87 = .ok (.return_, 1) := by decide +kernel
theorem dX4_inspectTwice_0 : decode cX4_inspectTwice 0 = .ok (.aload_n 0, 1) := by decide +kernel
theorem dX4_inspectTwice_1 : decode cX4_inspectTwice 1 = .ok (.iload_n 1, 1) := by decide +kernel
theorem dX4_inspectTwice_2 : decode cX4_inspectTwice 2 = .ok (.invokevirtual 52, 3) := by decide +kernel
theorem dX4_inspectTwice_5 : decode cX4_inspectTwice 5 = .ok (.aload_n 0, 1) := by decide +kernel
theorem dX4_inspectTwice_6 : decode cX4_inspectTwice 6 = .ok (.getfield 56, 3) := by decide +kernel
theorem dX4_inspectTwice_9 : decode cX4_inspectTwice 9 = .ok (.iload_n 2, 1) := by decide +kernel
theorem dX4_inspectTwice_10 : decode cX4_inspectTwice 10 = .ok (.iconst 2, 1) := by decide +kernel
theorem dX4_inspectTwice_11 : decode cX4_inspectTwice 11 = .ok (.isub, 1) := by decide +kernel
theorem dX4_inspectTwice_12 : decode cX4_inspectTwice 12 = .ok (.if_icmp .gt 7, 3) := by decide +kernel
theorem dX4_inspectTwice_15 : decode cX4_inspectTwice 15 = .ok (.iconst 1, 1) := by decide +kernel
theorem dX4_inspectTwice_16 : decode cX4_inspectTwice 16 = .ok (.goto 4, 3) := by decide +kernel
theorem dX4_inspectTwice_19 : decode cX4_inspectTwice 19 = .ok (.iconst 0, 1) := by decide +kernel
theorem dX4_inspectTwice_20 : decode cX4_inspectTwice 20 = .ok (.istore_n 3, 1) := by decide +kernel
theorem dX4_inspectTwice_21 : decode cX4_inspectTwice 21 = .ok (.iload_n 3, 1) := by decide +kernel
theorem dX4_inspectTwice_22 : decode cX4_inspectTwice 22 = .ok (.ifCond .ne 34, 3) := by decide +kernel
theorem dX4_inspectTwice_25 : decode cX4_inspectTwice 25 = .ok (.aload_n 0, 1) := by decide +kernel
theorem dX4_inspectTwice_26 : decode cX4_inspectTwice 26 = .ok (.getfield 56, 3) := by decide +kernel
theorem dX4_inspectTwice_29 : decode cX4_inspectTwice 29 = .ok (.iload_n 2, 1) := by decide +kernel
theorem dX4_inspectTwice_30 : decode cX4_inspectTwice 30 = .ok (.if_icmp .gt 26, 3) := by decide +kernel
theorem dX4_inspectTwice_33 : decode cX4_inspectTwice 33 = .ok (.iconst 2, 1) := by decide +kernel
theorem dX4_inspectTwice_34 : decode cX4_inspectTwice 34 = .ok (.iload_n 1, 1) := by decide +kernel
theorem dX4_inspectTwice_35 : decode cX4_inspectTwice 35 = .ok (.imul, 1) := by decide +kernel
theorem dX4_inspectTwice_36 : decode cX4_inspectTwice 36 = .ok (.aload_n 0, 1) := by decide +kernel
theorem dX4_inspectTwice_37 : decode cX4_inspectTwice 37 = .ok (.getfield 32, 3) := by decide +kernel
theorem dX4_inspectTwice_40 : decode cX4_inspectTwice 40 = .ok (.bipush 50, 2) := by decide +kernel
theorem dX4_inspectTwice_42 : decode cX4_inspectTwice 42 = .ok (.invokestatic 63, 3) := by decide +kernel
theorem dX4_inspectTwice_45 : decode cX4_inspectTwice 45 = .ok (.invokestatic 63, 3) := by decide +kernel
theorem dX4_inspectTwice_48 : decode cX4_inspectTwice 48 = .ok (.istore 4, 2) := by decide +kernel
theorem dX4_inspectTwice_50 : decode cX4_inspectTwice 50 = .ok (.aload_n 0, 1) := by decide +kernel
theorem dX4_inspectTwice_51 : decode cX4_inspectTwice 51 = .ok (.iload 4, 2) := by decide +kernel
theorem dX4_inspectTwice_53 : decode cX4_inspectTwice 53 = .ok (.invokevirtual 52, 3) := by decide +kernel
theorem dX4_inspectTwice_56 : decode cX4_inspectTwice 56 = .ok (.aload_n 0, 1) := by decide +kernel
theorem dX4_inspectTwice_57 : decode cX4_inspectTwice 57 = .ok (.iload_n 3, 1) := by decide +kernel
theorem dX4_inspectTwice_58 : decode cX4_inspectTwice 58 = .ok (.ifCond .ne 11, 3) := by decide +kernel
theorem dX4_inspectTwice_61 : decode cX4_inspectTwice 61 = .ok (.aload_n 0, 1) := by decide +kernel
theorem dX4_inspectTwice_62 : decode cX4_inspectTwice 62 = .ok (.getfield 56, 3) := by decide +kernel
theorem dX4_inspectTwice_65 : decode cX4_inspectTwice 65 = .ok (.iload_n 2, 1) := by decide +kernel
theorem dX4_inspectTwice_66 : decode cX4_inspectTwice 66 = .ok (.if_icmp .gt 7, 3) := by decide +kernel
theorem dX4_inspectTwice_69 : decode cX4_inspectTwice 69 = .ok (.iconst 1, 1) := by decide +kernel
theorem dX4_inspectTwice_70 : decode cX4_inspectTwice 70 = .ok (.goto 4, 3) := by decide +kernel
theorem dX4_inspectTwice_73 : decode cX4_inspectTwice 73 = .ok (.iconst 0, 1) := by decide +kernel
theorem dX4_inspectTwice_74 : decode cX4_inspectTwice 74 = .ok (.invokevirtual 59, 3) := by decide +kernel
theorem dX4_inspectTwice_77 : decode cX4_inspectTwice 77 = .ok (.return_, 1) := by decide +kernel
theorem dX5_init_0 : decode cX5_init 0 = .ok (.aload_n 0, 1) := by decide +kernel
theorem dX5_init_1 : decode cX5_init 1 = .ok (.invokespecial 3, 3) := by decide +kernel
theorem dX5_init_4 : decode cX5_init 4 = .ok (.aload_n 0, 1) := by decide +kernel
theorem dX5_init_5 : decode cX5_init 5 = .ok (.sipush 200, 3) := by decide +kernel
theorem dX5_init_8 : decode cX5_init 8 = .ok (.anewarray 9, 3) := by decide +kernel
theorem dX5_init_11 : decode cX5_init 11 = .ok (.putfield 11, 3) := by decide +kernel
theorem dX5_init_14 : decode cX5_init 14 = .ok (.aload_n 0, 1) := by decide +kernel
theorem dX5_init_15 : decode cX5_init 15 = .ok (.sipush 200, 3) := by decide +kernel
theorem dX5_init_18 : decode cX5_init 18 = .ok (.newarray .boolean, 2) := by decide +kernel
theorem dX5_init_20 : decode cX5_init 20 = .ok (.putfield 15, 3) := by decide +kernel
theorem dX5_init_23 : decode cX5_init 23 = .ok (.aload_n 0, 1) := by decide +kernel
theorem dX5_init_24 : decode cX5_init 24 = .ok (.new 19, 3) := by decide +kernel
theorem dX5_init_27 : decode cX5_init 27 = .ok (.dup, 1) := by decide +kernel
theorem dX5_init_28 : decode cX5_init 28 = .ok (.invokespecial 21, 3) := by decide +kernel
theorem dX5_init_31 : decode cX5_init 31 = .ok (.putfield 22, 3) := by decide +kernel
theorem dX5_init_34 : decode cX5_init 34 = .ok (.aload_n 0, 1) := by decide +kernel
theorem dX5_init_35 : decode cX5_init 35 = .ok (.new 26, 3) := by decide +kernel
theorem dX5_init_38 : decode cX5_init 38 = .ok (.dup, 1) := by decide +kernel
theorem dX5_init_39 : decode cX5_init 39 = .ok (.invokespecial 28, 3) := by decide +kernel
theorem dX5_init_42 : decode cX5_init 42 = .ok (.putfield 29, 3) := by decide +kernel
theorem dX5_init_45 : decode cX5_init 45 = .ok (.return_, 1) := by decide +kernel
theorem dX5_setPlan_0 : decode cX5_setPlan 0 = .ok (.iload_n 1, 1) := by decide +kernel
theorem dX5_setPlan_1 : decode cX5_setPlan 1 = .ok (.iconst 0, 1) := by decide +kernel
theorem dX5_setPlan_2 : decode cX5_setPlan 2 = .ok (.iconst 2, 1) := by decide +kernel
theorem dX5_setPlan_3 : decode cX5_setPlan 3 = .ok (.invokestatic 33, 3) := by decide +kernel
theorem dX5_setPlan_6 : decode cX5_setPlan 6 = .ok (.ifCond .eq 12, 3) := by decide +kernel
theorem dX5_setPlan_9 : decode cX5_setPlan 9 = .ok (.iload_n 2, 1) := by decide +kernel
theorem dX5_setPlan_10 : decode cX5_setPlan 10 = .ok (.iconst 0, 1) := by decide +kernel
theorem dX5_setPlan_11 : decode cX5_setPlan 11 = .ok (.iconst 3, 1) := by decide +kernel
theorem dX5_setPlan_12 : decode cX5_setPlan 12 = .ok (.invokestatic 33, 3) := by decide +kernel
theorem dX5_setPlan_15 : decode cX5_setPlan 15 = .ok (.ifCond .ne 13, 3) := by decide +kernel
theorem dX5_setPlan_18 : decode cX5_setPlan 18 = .ok (.new 37, 3) := by decide +kernel
theorem dX5_setPlan_21 : decode cX5_setPlan 21 = .ok (.dup, 1) := by decide +kernel
theorem dX5_setPlan_22 : decode cX5_setPlan 22 = .ok (.ldc 39, 2) := by decide +kernel
theorem dX5_setPlan_24 : decode cX5_setPlan 24 = .ok (.invokespecial 41, 3) := by decide +kernel
theorem dX5_setPlan_27 : decode cX5_setPlan 27 = .ok (.athrow, 1) := by decide +kernel
theorem dX5_setPlan_28 : decode cX5_setPlan 28 = .ok (.aload_n 0, 1) := by decide +kernel
theorem dX5_setPlan_29 : decode cX5_setPlan 29 = .ok (.getfield 22, 3) := by decide +kernel
theorem dX5_setPlan_32 : decode cX5_setPlan 32 = .ok (.iload_n 1, 1) := by decide +kernel
theorem dX5_setPlan_33 : decode cX5_setPlan 33 = .ok (.putfield 44, 3) := by decide +kernel
theorem dX5_setPlan_36 : decode cX5_setPlan 36 = .ok (.aload_n 0, 1) := by decide +kernel
theorem dX5_setPlan_37 : decode cX5_setPlan 37 = .ok (.getfield 22, 3) := by decide +kernel
theorem dX5_setPlan_40 : decode cX5_setPlan 40 = .ok (.iload_n 2, 1) := by decide +kernel
theorem dX5_setPlan_41 : decode cX5_setPlan 41 = .ok (.putfield 48, 3) := by decide +kernel
theorem dX5_setPlan_44 : decode cX5_setPlan 44 = .ok (.aload_n 0, 1) := by decide +kernel
theorem dX5_setPlan_45 : decode cX5_setPlan 45 = .ok (.invokevirtual 51, 3) := by decide +kernel
theorem dX5_setPlan_48 : decode cX5_setPlan 48 = .ok (.return_, 1) := by decide +kernel
theorem dX5_setWays_0 : decode cX5_setWays 0 = .ok (.iload_n 3, 1) := by decide +kernel
theorem dX5_setWays_1 : decode cX5_setWays 1 = .ok (.ifCond .eq 22, 3) := by decide +kernel
theorem dX5_setWays_4 : decode cX5_setWays 4 = .ok (.iload_n 3, 1) := by decide +kernel
theorem dX5_setWays_5 : decode cX5_setWays 5 = .ok (.iconst 2, 1) := by decide +kernel
theorem dX5_setWays_6 : decode cX5_setWays 6 = .ok (.iconst 5, 1) := by decide +kernel
theorem dX5_setWays_7 : decode cX5_setWays 7 = .ok (.invokestatic 33, 3) := by decide +kernel
theorem dX5_setWays_10 : decode cX5_setWays 10 = .ok (.ifCond .ne 13, 3) := by decide +kernel
theorem dX5_setWays_13 : decode cX5_setWays 13 = .ok (.new 37, 3) := by decide +kernel
theorem dX5_setWays_16 : decode cX5_setWays 16 = .ok (.dup, 1) := by decide +kernel
theorem dX5_setWays_17 : decode cX5_setWays 17 = .ok (.ldc 54, 2) := by decide +kernel
theorem dX5_setWays_19 : decode cX5_setWays 19 = .ok (.invokespecial 41, 3) := by decide +kernel
theorem dX5_setWays_22 : decode cX5_setWays 22 = .ok (.athrow, 1) := by decide +kernel
theorem dX5_setWays_23 : decode cX5_setWays 23 = .ok (.aload_n 0, 1) := by decide +kernel
theorem dX5_setWays_24 : decode cX5_setWays 24 = .ok (.getfield 22, 3) := by decide +kernel
theorem dX5_setWays_27 : decode cX5_setWays 27 = .ok (.iload_n 1, 1) := by decide +kernel
theorem dX5_setWays_28 : decode cX5_setWays 28 = .ok (.putfield 56, 3) := by decide +kernel
theorem dX5_setWays_31 : decode cX5_setWays 31 = .ok (.aload_n 0, 1) := by decide +kernel
theorem dX5_setWays_32 : decode cX5_setWays 32 = .ok (.getfield 29, 3) := by decide +kernel
theorem dX5_setWays_35 : decode cX5_setWays 35 = .ok (.iload_n 2, 1) := by decide +kernel
theorem dX5_setWays_36 : decode cX5_setWays 36 = .ok (.putfield 60, 3) := by decide +kernel
theorem dX5_setWays_39 : decode cX5_setWays 39 = .ok (.aload_n 0, 1) := by decide +kernel
theorem dX5_setWays_40 : decode cX5_setWays 40 = .ok (.getfield 29, 3) := by decide +kernel
theorem dX5_setWays_43 : decode cX5_setWays 43 = .ok (.iload_n 3, 1) := by decide +kernel
theorem dX5_setWays_44 : decode cX5_setWays 44 = .ok (.putfield 63, 3) := by decide +kernel
theorem dX5_setWays_47 : decode cX5_setWays 47 = .ok (.aload_n 0, 1) := by decide +kernel
theorem dX5_setWays_48 : decode cX5_setWays 48 = .ok (.invokevirtual 51, 3) := by decide +kernel
theorem dX5_setWays_51 : decode cX5_setWays 51 = .ok (.return_, 1) := by decide +kernel
theorem dX5_toggleMark_0 : decode cX5_toggleMark 0 = .ok (.iload_n 1, 1) := by decide +kernel
theorem dX5_toggleMark_1 : decode cX5_toggleMark 1 = .ok (.invokestatic 66, 3) := by decide +kernel
theorem dX5_toggleMark_4 : decode cX5_toggleMark 4 = .ok (.ifCond .ne 13, 3) := by decide +kernel
theorem dX5_toggleMark_7 : decode cX5_toggleMark 7 = .ok (.new 37, 3) := by decide +kernel
theorem dX5_toggleMark_10 : decode cX5_toggleMark 10 = .ok (.dup, 1) := by decide +kernel
theorem dX5_toggleMark_11 : decode cX5_toggleMark 11 = .ok (.ldc 70, 2) := by decide +kernel
theorem dX5_toggleMark_13 : decode cX5_toggleMark 13 = .ok (.invokespecial 41, 3) := by decide +kernel
theorem dX5_toggleMark_16 : decode cX5_toggleMark 16 = .ok (.athrow, 1) := by decide +kernel
theorem dX5_toggleMark_17 : decode cX5_toggleMark 17 = .ok (.aload_n 0, 1) := by decide +kernel
theorem dX5_toggleMark_18 : decode cX5_toggleMark 18 = .ok (.getfield 15, 3) := by decide +kernel
theorem dX5_toggleMark_21 : decode cX5_toggleMark 21 = .ok (.iload_n 1, 1) := by decide +kernel
theorem dX5_toggleMark_22 : decode cX5_toggleMark 22 = .ok (.aload_n 0, 1) := by decide +kernel
theorem dX5_toggleMark_23 : decode cX5_toggleMark 23 = .ok (.getfield 15, 3) := by decide +kernel
theorem dX5_toggleMark_26 : decode cX5_toggleMark 26 = .ok (.iload_n 1, 1) := by decide +kernel
theorem dX5_toggleMark_27 : decode cX5_toggleMark 27 = .ok (.baload, 1) := by decide +kernel
theorem dX5_toggleMark_28 : decode cX5_toggleMark 28 = .ok (.ifCond .ne 7, 3) := by decide +kernel
theorem dX5_toggleMark_31 : decode cX5_toggleMark 31 = .ok (.iconst 1, 1) := by decide +kernel
theorem dX5_toggleMark_32 : decode cX5_toggleMark 32 = .ok (.goto 4, 3) := by decide +kernel
theorem dX5_toggleMark_35 : decode cX5_toggleMark 35 = .ok (.iconst 0, 1) := by decide +kernel
theorem dX5_toggleMark_36 : decode cX5_toggleMark 36 = .ok (.bastore, 1) := by decide +kernel
theorem dX5_toggleMark_37 : decode cX5_toggleMark 37 = .ok (.aload_n 0, 1) := by decide +kernel
theorem dX5_toggleMark_38 : decode cX5_toggleMark 38 = .ok (.invokevirtual 51, 3) := by decide +kernel
theorem dX5_toggleMark_41 : decode cX5_toggleMark 41 = .ok (.aload_n 0, 1) := by decide +kernel
theorem dX5_toggleMark_42 : decode cX5_toggleMark 42 = .ok (.getfield 15, 3) := by decide +kernel
theorem dX5_toggleMark_45 : decode cX5_toggleMark 45 = .ok (.iload_n 1, 1) := by decide +kernel
theorem dX5_toggleMark_46 : decode cX5_toggleMark 46 = .ok (.baload, 1) := by decide +kernel
theorem dX5_toggleMark_47 : decode cX5_toggleMark 47 = .ok (.ireturn, 1) := by decide +kernel
theorem dX5_record_0 : decode cX5_record 0 = .ok (.iload_n 1, 1) := by decide +kernel
theorem dX5_record_1 : decode cX5_record 1 = .ok (.invokestatic 66, 3) := by decide +kernel
theorem dX5_record_4 : decode cX5_record 4 = .ok (.ifCond .eq 17, 3) := by decide +kernel
theorem dX5_record_7 : decode cX5_record 7 = .ok (.iload_n 2, 1) := by decide +kernel
theorem dX5_record_8 : decode cX5_record 8 = .ok (.invokestatic 72, 3) := by decide +kernel
theorem dX5_record_11 : decode cX5_record 11 = .ok (.ifCond .eq 10, 3) := by decide +kernel
theorem dX5_record_14 : decode cX5_record 14 = .ok (.lload_n 3, 1) := by decide +kernel
theorem dX5_record_15 : decode cX5_record 15 = .ok (.invokestatic 75, 3) := by decide +kernel
theorem dX5_record_18 : decode cX5_record 18 = .ok (.ifCond .ne 13, 3) := by decide +kernel
theorem dX5_record_21 : decode cX5_record 21 = .ok (.new 37, 3) := by decide +kernel
theorem dX5_record_24 : decode cX5_record 24 = .ok (.dup, 1) := by decide +kernel
theorem dX5_record_25 : decode cX5_record 25 = .ok (.ldc 79, 2) := by decide +kernel
theorem dX5_record_27 : decode cX5_record 27 = .ok (.invokespecial 41, 3) := by decide +kernel
theorem dX5_record_30 : decode cX5_record 30 = .ok (.athrow, 1) := by decide +kernel
theorem dX5_record_31 : decode cX5_record 31 = .ok (.aload_n 0, 1) := by decide +kernel
theorem dX5_record_32 : decode cX5_record 32 = .ok (.getfield 11, 3) := by decide +kernel
theorem dX5_record_35 : decode cX5_record 35 = .ok (.iload_n 1, 1) := by decide +kernel
theorem dX5_record_36 : decode cX5_record 36 = .ok (.aaload, 1) := by decide +kernel
theorem dX5_record_37 : decode cX5_record 37 = .ok (.ifnonnull 12, 3) := by decide +kernel
theorem dX5_record_40 : decode cX5_record 40 = .ok (.aload_n 0, 1) := by decide +kernel
theorem dX5_record_41 : decode cX5_record 41 = .ok (.getfield 81, 3) := by decide +kernel
theorem dX5_record_44 : decode cX5_record 44 = .ok (.bipush 60, 2) := by decide +kernel
theorem dX5_record_46 : decode cX5_record 46 = .ok (.if_icmp .lt 13, 3) := by decide +kernel
theorem dX5_record_49 : decode cX5_record 49 = .ok (.new 84, 3) := by decide +kernel
theorem dX5_record_52 : decode cX5_record 52 = .ok (.dup, 1) := by decide +kernel
theorem dX5_record_53 : decode cX5_record 53 = .ok (.ldc 86, 2) := by decide +kernel
theorem dX5_record_55 : decode cX5_record 55 = .ok (.invokespecial 88, 3) := by decide +kernel
theorem dX5_record_58 : decode cX5_record 58 = .ok (.athrow, 1) := by decide +kernel
theorem dX5_record_59 : decode cX5_record 59 = .ok (.aload_n 0, 1) := by decide +kernel
theorem dX5_record_60 : decode cX5_record 60 = .ok (.getfield 11, 3) := by decide +kernel
theorem dX5_record_63 : decode cX5_record 63 = .ok (.iload_n 1, 1) := by decide +kernel
theorem dX5_record_64 : decode cX5_record 64 = .ok (.new 9, 3) := by decide +kernel
theorem dX5_record_67 : decode cX5_record 67 = .ok (.dup, 1) := by decide +kernel
theorem dX5_record_68 : decode cX5_record 68 = .ok (.iload_n 1, 1) := by decide +kernel
theorem dX5_record_69 : decode cX5_record 69 = .ok (.iload_n 2, 1) := by decide +kernel
theorem dX5_record_70 : decode cX5_record 70 = .ok (.lload_n 3, 1) := by decide +kernel
theorem dX5_record_71 : decode cX5_record 71 = .ok (.invokespecial 89, 3) := by decide +kernel
theorem dX5_record_74 : decode cX5_record 74 = .ok (.aastore, 1) := by decide +kernel
theorem dX5_record_75 : decode cX5_record 75 = .ok (.aload_n 0, 1) := by decide +kernel
theorem dX5_record_76 : decode cX5_record 76 = .ok (.dup, 1) := by decide +kernel
theorem dX5_record_77 : decode cX5_record 77 = .ok (.getfield 81, 3) := by decide +kernel
theorem dX5_record_80 : decode cX5_record 80 = .ok (.iconst 1, 1) := by decide +kernel
theorem dX5_record_81 : decode cX5_record 81 = .ok (.iadd, 1) := by decide +kernel
theorem dX5_record_82 : decode cX5_record 82 = .ok (.putfield 81, 3) := by decide +kernel
theorem dX5_record_85 : decode cX5_record 85 = .ok (.aload_n 0, 1) := by decide +kernel
theorem dX5_record_86 : decode cX5_record 86 = .ok (.invokevirtual 51, 3) := by decide +kernel
theorem dX5_record_89 : decode cX5_record 89 = .ok (.aload_n 0, 1) := by decide +kernel
theorem dX5_record_90 : decode cX5_record 90 = .ok (.getfield 81, 3) := by decide +kernel
theorem dX5_record_93 : decode cX5_record 93 = .ok (.ireturn, 1) := by decide +kernel
theorem dX5_correct_0 : decode cX5_correct 0 = .ok (.lload_n 2, 1) := by decide +kernel
theorem dX5_correct_1 : decode cX5_correct 1 = .ok (.invokestatic 75, 3) := by decide +kernel
theorem dX5_correct_4 : decode cX5_correct 4 = .ok (.ifCond .ne 13, 3) := by decide +kernel
theorem dX5_correct_7 : decode cX5_correct 7 = .ok (.new 37, 3) := by decide +kernel
theorem dX5_correct_10 : decode cX5_correct 10 = .ok (.dup, 1) := by decide +kernel
theorem dX5_correct_11 : decode cX5_correct 11 = .ok (.ldc 92, 2) := by decide +kernel
theorem dX5_correct_13 : decode cX5_correct 13 = .ok (.invokespecial 41, 3) := by decide +kernel
theorem dX5_correct_16 : decode cX5_correct 16 = .ok (.athrow, 1) := by decide +kernel
theorem dX5_correct_17 : decode cX5_correct 17 = .ok (.aload_n 0, 1) := by decide +kernel
theorem dX5_correct_18 : decode cX5_correct 18 = .ok (.iload_n 1, 1) := by decide +kernel
theorem dX5_correct_19 : decode cX5_correct 19 = .ok (.invokevirtual 94, 3) := by decide +kernel
theorem dX5_correct_22 : decode cX5_correct 22 = .ok (.astore 4, 2) := by decide +kernel
theorem dX5_correct_24 : decode cX5_correct 24 = .ok (.aload 4, 2) := by decide +kernel
theorem dX5_correct_26 : decode cX5_correct 26 = .ok (.ifnonnull 13, 3) := by decide +kernel
theorem dX5_correct_29 : decode cX5_correct 29 = .ok (.new 84, 3) := by decide +kernel
theorem dX5_correct_32 : decode cX5_correct 32 = .ok (.dup, 1) := by decide +kernel
theorem dX5_correct_33 : decode cX5_correct 33 = .ok (.ldc 98, 2) := by decide +kernel
theorem dX5_correct_35 : decode cX5_correct 35 = .ok (.invokespecial 88, 3) := by decide +kernel
theorem dX5_correct_38 : decode cX5_correct 38 = .ok (.athrow, 1) := by decide +kernel
theorem dX5_correct_39 : decode cX5_correct 39 = .ok (.aload 4, 2) := by decide +kernel
theorem dX5_correct_41 : decode cX5_correct 41 = .ok (.getfield 100, 3) := by decide +kernel
theorem dX5_correct_44 : decode cX5_correct 44 = .ok (.lstore 5, 2) := by decide +kernel
theorem dX5_correct_46 : decode cX5_correct 46 = .ok (.aload 4, 2) := by decide +kernel
theorem dX5_correct_48 : decode cX5_correct 48 = .ok (.lload_n 2, 1) := by decide +kernel
theorem dX5_correct_49 : decode cX5_correct 49 = .ok (.putfield 100, 3) := by decide +kernel
theorem dX5_correct_52 : decode cX5_correct 52 = .ok (.aload_n 0, 1) := by decide +kernel
theorem dX5_correct_53 : decode cX5_correct 53 = .ok (.invokevirtual 51, 3) := by decide +kernel
theorem dX5_correct_56 : decode cX5_correct 56 = .ok (.lload 5, 2) := by decide +kernel
theorem dX5_correct_58 : decode cX5_correct 58 = .ok (.lreturn, 1) := by decide +kernel
theorem dX5_strike_0 : decode cX5_strike 0 = .ok (.iload_n 1, 1) := by decide +kernel
theorem dX5_strike_1 : decode cX5_strike 1 = .ok (.invokestatic 66, 3) := by decide +kernel
theorem dX5_strike_4 : decode cX5_strike 4 = .ok (.ifCond .eq 12, 3) := by decide +kernel
theorem dX5_strike_7 : decode cX5_strike 7 = .ok (.aload_n 0, 1) := by decide +kernel
theorem dX5_strike_8 : decode cX5_strike 8 = .ok (.getfield 11, 3) := by decide +kernel
theorem dX5_strike_11 : decode cX5_strike 11 = .ok (.iload_n 1, 1) := by decide +kernel
theorem dX5_strike_12 : decode cX5_strike 12 = .ok (.aaload, 1) := by decide +kernel
theorem dX5_strike_13 : decode cX5_strike 13 = .ok (.ifnonnull 13, 3) := by decide +kernel
theorem dX5_strike_16 : decode cX5_strike 16 = .ok (.new 84, 3) := by decide +kernel
theorem dX5_strike_19 : decode cX5_strike 19 = .ok (.dup, 1) := by decide +kernel
theorem dX5_strike_20 : decode cX5_strike 20 = .ok (.ldc 98, 2) := by decide +kernel
theorem dX5_strike_22 : decode cX5_strike 22 = .ok (.invokespecial 88, 3) := by decide +kernel
theorem dX5_strike_25 : decode cX5_strike 25 = .ok (.athrow, 1) := by decide +kernel
theorem dX5_strike_26 : decode cX5_strike 26 = .ok (.aload_n 0, 1) := by decide +kernel
theorem dX5_strike_27 : decode cX5_strike 27 = .ok (.getfield 11, 3) := by decide +kernel
theorem dX5_strike_30 : decode cX5_strike 30 = .ok (.iload_n 1, 1) := by decide +kernel
theorem dX5_strike_31 : decode cX5_strike 31 = .ok (.aconst_null, 1) := by decide +kernel
theorem dX5_strike_32 : decode cX5_strike 32 = .ok (.aastore, 1) := by decide +kernel
theorem dX5_strike_33 : decode cX5_strike 33 = .ok (.aload_n 0, 1) := by decide +kernel
theorem dX5_strike_34 : decode cX5_strike 34 = .ok (.dup, 1) := by decide +kernel
theorem dX5_strike_35 : decode cX5_strike 35 = .ok (.getfield 81, 3) := by decide +kernel
theorem dX5_strike_38 : decode cX5_strike 38 = .ok (.iconst 1, 1) := by decide +kernel
theorem dX5_strike_39 : decode cX5_strike 39 = .ok (.isub, 1) := by decide +kernel
theorem dX5_strike_40 : decode cX5_strike 40 = .ok (.putfield 81, 3) := by decide +kernel
theorem dX5_strike_43 : decode cX5_strike 43 = .ok (.aload_n 0, 1) := by decide +kernel
theorem dX5_strike_44 : decode cX5_strike 44 = .ok (.invokevirtual 51, 3) := by decide +kernel
theorem dX5_strike_47 : decode cX5_strike 47 = .ok (.aload_n 0, 1) := by decide +kernel
theorem dX5_strike_48 : decode cX5_strike 48 = .ok (.getfield 81, 3) := by decide +kernel
theorem dX5_strike_51 : decode cX5_strike 51 = .ok (.ireturn, 1) := by decide +kernel
theorem dX5_lots_0 : decode cX5_lots 0 = .ok (.aload_n 0, 1) := by decide +kernel
theorem dX5_lots_1 : decode cX5_lots 1 = .ok (.getfield 81, 3) := by decide +kernel
theorem dX5_lots_4 : decode cX5_lots 4 = .ok (.ireturn, 1) := by decide +kernel
theorem dX5_orderAt_0 : decode cX5_orderAt 0 = .ok (.iconst 0, 1) := by decide +kernel
theorem dX5_orderAt_1 : decode cX5_orderAt 1 = .ok (.istore_n 2, 1) := by decide +kernel
theorem dX5_orderAt_2 : decode cX5_orderAt 2 = .ok (.iconst 0, 1) := by decide +kernel
theorem dX5_orderAt_3 : decode cX5_orderAt 3 = .ok (.istore_n 3, 1) := by decide +kernel
theorem dX5_orderAt_4 : decode cX5_orderAt 4 = .ok (.iload_n 3, 1) := by decide +kernel
theorem dX5_orderAt_5 : decode cX5_orderAt 5 = .ok (.sipush 200, 3) := by decide +kernel
theorem dX5_orderAt_8 : decode cX5_orderAt 8 = .ok (.if_icmp .ge 28, 3) := by decide +kernel
theorem dX5_orderAt_11 : decode cX5_orderAt 11 = .ok (.aload_n 0, 1) := by decide +kernel
theorem dX5_orderAt_12 : decode cX5_orderAt 12 = .ok (.getfield 11, 3) := by decide +kernel
theorem dX5_orderAt_15 : decode cX5_orderAt 15 = .ok (.iload_n 3, 1) := by decide +kernel
theorem dX5_orderAt_16 : decode cX5_orderAt 16 = .ok (.aaload, 1) := by decide +kernel
theorem dX5_orderAt_17 : decode cX5_orderAt 17 = .ok (.ifnull 13, 3) := by decide +kernel
theorem dX5_orderAt_20 : decode cX5_orderAt 20 = .ok (.iload_n 2, 1) := by decide +kernel
theorem dX5_orderAt_21 : decode cX5_orderAt 21 = .ok (.iload_n 1, 1) := by decide +kernel
theorem dX5_orderAt_22 : decode cX5_orderAt 22 = .ok (.if_icmp .ne 5, 3) := by decide +kernel
theorem dX5_orderAt_25 : decode cX5_orderAt 25 = .ok (.iload_n 3, 1) := by decide +kernel
theorem dX5_orderAt_26 : decode cX5_orderAt 26 = .ok (.ireturn, 1) := by decide +kernel
theorem dX5_orderAt_27 : decode cX5_orderAt 27 = .ok (.iinc 2 1, 3) := by decide +kernel
theorem dX5_orderAt_30 : decode cX5_orderAt 30 = .ok (.iinc 3 1, 3) := by decide +kernel
theorem dX5_orderAt_33 : decode cX5_orderAt 33 = .ok (.goto (-29), 3) := by decide +kernel
theorem dX5_orderAt_36 : decode cX5_orderAt 36 = .ok (.new 104, 3) := by decide +kernel
theorem dX5_orderAt_39 : decode cX5_orderAt 39 = .ok (.dup, 1) := by decide +kernel
theorem dX5_orderAt_40 : decode cX5_orderAt 40 = .ok (.ldc 106, 2) := by decide +kernel
theorem dX5_orderAt_42 : decode cX5_orderAt 42 = .ok (.invokespecial 108, 3) := by decide +kernel
theorem dX5_orderAt_45 : decode cX5_orderAt 45 = .ok (.athrow, 1) := by decide +kernel
theorem dX5_verdict_0 : decode cX5_verdict 0 = .ok (.aload_n 0, 1) := by decide +kernel
theorem dX5_verdict_1 : decode cX5_verdict 1 = .ok (.iload_n 1, 1) := by decide +kernel
theorem dX5_verdict_2 : decode cX5_verdict 2 = .ok (.invokevirtual 94, 3) := by decide +kernel
theorem dX5_verdict_5 : decode cX5_verdict 5 = .ok (.astore_n 2, 1) := by decide +kernel
theorem dX5_verdict_6 : decode cX5_verdict 6 = .ok (.aload_n 2, 1) := by decide +kernel
theorem dX5_verdict_7 : decode cX5_verdict 7 = .ok (.ifnonnull 13, 3) := by decide +kernel
theorem dX5_verdict_10 : decode cX5_verdict 10 = .ok (.new 84, 3) := by decide +kernel
theorem dX5_verdict_13 : decode cX5_verdict 13 = .ok (.dup, 1) := by decide +kernel
theorem dX5_verdict_14 : decode cX5_verdict 14 = .ok (.ldc 98, 2) := by decide +kernel
theorem dX5_verdict_16 : decode cX5_verdict 16 = .ok (.invokespecial 88, 3) := by decide +kernel
theorem dX5_verdict_19 : decode cX5_verdict 19 = .ok (.athrow, 1) := by decide +kernel
theorem dX5_verdict_20 : decode cX5_verdict 20 = .ok (.aload_n 2, 1) := by decide +kernel
theorem dX5_verdict_21 : decode cX5_verdict 21 = .ok (.getfield 109, 3) := by decide +kernel
theorem dX5_verdict_24 : decode cX5_verdict 24 = .ok (.ireturn, 1) := by decide +kernel
theorem dX5_stateAt_0 : decode cX5_stateAt 0 = .ok (.aload_n 0, 1) := by decide +kernel
theorem dX5_stateAt_1 : decode cX5_stateAt 1 = .ok (.iload_n 1, 1) := by decide +kernel
theorem dX5_stateAt_2 : decode cX5_stateAt 2 = .ok (.invokevirtual 94, 3) := by decide +kernel
theorem dX5_stateAt_5 : decode cX5_stateAt 5 = .ok (.astore_n 2, 1) := by decide +kernel
theorem dX5_stateAt_6 : decode cX5_stateAt 6 = .ok (.aload_n 2, 1) := by decide +kernel
theorem dX5_stateAt_7 : decode cX5_stateAt 7 = .ok (.ifnonnull 13, 3) := by decide +kernel
theorem dX5_stateAt_10 : decode cX5_stateAt 10 = .ok (.new 84, 3) := by decide +kernel
theorem dX5_stateAt_13 : decode cX5_stateAt 13 = .ok (.dup, 1) := by decide +kernel
theorem dX5_stateAt_14 : decode cX5_stateAt 14 = .ok (.ldc 98, 2) := by decide +kernel
theorem dX5_stateAt_16 : decode cX5_stateAt 16 = .ok (.invokespecial 88, 3) := by decide +kernel
theorem dX5_stateAt_19 : decode cX5_stateAt 19 = .ok (.athrow, 1) := by decide +kernel
theorem dX5_stateAt_20 : decode cX5_stateAt 20 = .ok (.aload_n 2, 1) := by decide +kernel
theorem dX5_stateAt_21 : decode cX5_stateAt 21 = .ok (.getfield 112, 3) := by decide +kernel
theorem dX5_stateAt_24 : decode cX5_stateAt 24 = .ok (.ireturn, 1) := by decide +kernel
theorem dX5_state_0 : decode cX5_state 0 = .ok (.aload_n 0, 1) := by decide +kernel
theorem dX5_state_1 : decode cX5_state 1 = .ok (.getfield 29, 3) := by decide +kernel
theorem dX5_state_4 : decode cX5_state 4 = .ok (.getfield 115, 3) := by decide +kernel
theorem dX5_state_7 : decode cX5_state 7 = .ok (.ireturn, 1) := by decide +kernel
theorem dX5_isSkipping_0 : decode cX5_isSkipping 0 = .ok (.aload_n 0, 1) := by decide +kernel
theorem dX5_isSkipping_1 : decode cX5_isSkipping 1 = .ok (.getfield 29, 3) := by decide +kernel
theorem dX5_isSkipping_4 : decode cX5_isSkipping 4 = .ok (.getfield 116, 3) := by decide +kernel
theorem dX5_isSkipping_7 : decode cX5_isSkipping 7 = .ok (.ireturn, 1) := by decide +kernel
theorem dX5_inspected_0 : decode cX5_inspected 0 = .ok (.aload_n 0, 1) := by decide +kernel
theorem dX5_inspected_1 : decode cX5_inspected 1 = .ok (.iload_n 1, 1) := by decide +kernel
theorem dX5_inspected_2 : decode cX5_inspected 2 = .ok (.invokevirtual 94, 3) := by decide +kernel
theorem dX5_inspected_5 : decode cX5_inspected 5 = .ok (.astore_n 2, 1) := by decide +kernel
theorem dX5_inspected_6 : decode cX5_inspected 6 = .ok (.aload_n 2, 1) := by decide +kernel
theorem dX5_inspected_7 : decode cX5_inspected 7 = .ok (.ifnonnull 13, 3) := by decide +kernel
theorem dX5_inspected_10 : decode cX5_inspected 10 = .ok (.new 84, 3) := by decide +kernel
theorem dX5_inspected_13 : decode cX5_inspected 13 = .ok (.dup, 1) := by decide +kernel
theorem dX5_inspected_14 : decode cX5_inspected 14 = .ok (.ldc 98, 2) := by decide +kernel
theorem dX5_inspected_16 : decode cX5_inspected 16 = .ok (.invokespecial 88, 3) := by decide +kernel
theorem dX5_inspected_19 : decode cX5_inspected 19 = .ok (.athrow, 1) := by decide +kernel
theorem dX5_inspected_20 : decode cX5_inspected 20 = .ok (.aload_n 2, 1) := by decide +kernel
theorem dX5_inspected_21 : decode cX5_inspected 21 = .ok (.getfield 119, 3) := by decide +kernel
theorem dX5_inspected_24 : decode cX5_inspected 24 = .ok (.ireturn, 1) := by decide +kernel
theorem dX5_badIn_0 : decode cX5_badIn 0 = .ok (.aload_n 0, 1) := by decide +kernel
theorem dX5_badIn_1 : decode cX5_badIn 1 = .ok (.iload_n 1, 1) := by decide +kernel
theorem dX5_badIn_2 : decode cX5_badIn 2 = .ok (.invokevirtual 94, 3) := by decide +kernel
theorem dX5_badIn_5 : decode cX5_badIn 5 = .ok (.astore_n 2, 1) := by decide +kernel
theorem dX5_badIn_6 : decode cX5_badIn 6 = .ok (.aload_n 2, 1) := by decide +kernel
theorem dX5_badIn_7 : decode cX5_badIn 7 = .ok (.ifnonnull 13, 3) := by decide +kernel
theorem dX5_badIn_10 : decode cX5_badIn 10 = .ok (.new 84, 3) := by decide +kernel
theorem dX5_badIn_13 : decode cX5_badIn 13 = .ok (.dup, 1) := by decide +kernel
theorem dX5_badIn_14 : decode cX5_badIn 14 = .ok (.ldc 98, 2) := by decide +kernel
theorem dX5_badIn_16 : decode cX5_badIn 16 = .ok (.invokespecial 88, 3) := by decide +kernel
theorem dX5_badIn_19 : decode cX5_badIn 19 = .ok (.athrow, 1) := by decide +kernel
theorem dX5_badIn_20 : decode cX5_badIn 20 = .ok (.aload_n 2, 1) := by decide +kernel
theorem dX5_badIn_21 : decode cX5_badIn 21 = .ok (.getfield 122, 3) := by decide +kernel
theorem dX5_badIn_24 : decode cX5_badIn 24 = .ok (.ireturn, 1) := by decide +kernel
theorem dX5_count_0 : decode cX5_count 0 = .ok (.iload_n 1, 1) := by decide +kernel
theorem dX5_count_1 : decode cX5_count 1 = .ok (.iconst 0, 1) := by decide +kernel
theorem dX5_count_2 : decode cX5_count 2 = .ok (.iconst 3, 1) := by decide +kernel
theorem dX5_count_3 : decode cX5_count 3 = .ok (.invokestatic 33, 3) := by decide +kernel
theorem dX5_count_6 : decode cX5_count 6 = .ok (.ifCond .ne 13, 3) := by decide +kernel
theorem dX5_count_9 : decode cX5_count 9 = .ok (.new 37, 3) := by decide +kernel
theorem dX5_count_12 : decode cX5_count 12 = .ok (.dup, 1) := by decide +kernel
theorem dX5_count_13 : decode cX5_count 13 = .ok (.ldc 125, 2) := by decide +kernel
theorem dX5_count_15 : decode cX5_count 15 = .ok (.invokespecial 41, 3) := by decide +kernel
theorem dX5_count_18 : decode cX5_count 18 = .ok (.athrow, 1) := by decide +kernel
theorem dX5_count_19 : decode cX5_count 19 = .ok (.iconst 0, 1) := by decide +kernel
theorem dX5_count_20 : decode cX5_count 20 = .ok (.istore_n 2, 1) := by decide +kernel
theorem dX5_count_21 : decode cX5_count 21 = .ok (.aload_n 0, 1) := by decide +kernel
theorem dX5_count_22 : decode cX5_count 22 = .ok (.getfield 11, 3) := by decide +kernel
theorem dX5_count_25 : decode cX5_count 25 = .ok (.astore_n 3, 1) := by decide +kernel
theorem dX5_count_26 : decode cX5_count 26 = .ok (.aload_n 3, 1) := by decide +kernel
theorem dX5_count_27 : decode cX5_count 27 = .ok (.arraylength, 1) := by decide +kernel
theorem dX5_count_28 : decode cX5_count 28 = .ok (.istore 4, 2) := by decide +kernel
theorem dX5_count_30 : decode cX5_count 30 = .ok (.iconst 0, 1) := by decide +kernel
theorem dX5_count_31 : decode cX5_count 31 = .ok (.istore 5, 2) := by decide +kernel
theorem dX5_count_33 : decode cX5_count 33 = .ok (.iload 5, 2) := by decide +kernel
theorem dX5_count_35 : decode cX5_count 35 = .ok (.iload 4, 2) := by decide +kernel
theorem dX5_count_37 : decode cX5_count 37 = .ok (.if_icmp .ge 32, 3) := by decide +kernel
theorem dX5_count_40 : decode cX5_count 40 = .ok (.aload_n 3, 1) := by decide +kernel
theorem dX5_count_41 : decode cX5_count 41 = .ok (.iload 5, 2) := by decide +kernel
theorem dX5_count_43 : decode cX5_count 43 = .ok (.aaload, 1) := by decide +kernel
theorem dX5_count_44 : decode cX5_count 44 = .ok (.astore 6, 2) := by decide +kernel
theorem dX5_count_46 : decode cX5_count 46 = .ok (.aload 6, 2) := by decide +kernel
theorem dX5_count_48 : decode cX5_count 48 = .ok (.ifnull 15, 3) := by decide +kernel
theorem dX5_count_51 : decode cX5_count 51 = .ok (.aload 6, 2) := by decide +kernel
theorem dX5_count_53 : decode cX5_count 53 = .ok (.getfield 109, 3) := by decide +kernel
theorem dX5_count_56 : decode cX5_count 56 = .ok (.iload_n 1, 1) := by decide +kernel
theorem dX5_count_57 : decode cX5_count 57 = .ok (.if_icmp .ne 6, 3) := by decide +kernel
theorem dX5_count_60 : decode cX5_count 60 = .ok (.iinc 2 1, 3) := by decide +kernel
theorem dX5_count_63 : decode cX5_count 63 = .ok (.iinc 5 1, 3) := by decide +kernel
theorem dX5_count_66 : decode cX5_count 66 = .ok (.goto (-33), 3) := by decide +kernel
theorem dX5_count_69 : decode cX5_count 69 = .ok (.iload_n 2, 1) := by decide +kernel
theorem dX5_count_70 : decode cX5_count 70 = .ok (.ireturn, 1) := by decide +kernel
theorem dX5_samples_0 : decode cX5_samples 0 = .ok (.iload_n 1, 1) := by decide +kernel
theorem dX5_samples_1 : decode cX5_samples 1 = .ok (.iconst 2, 1) := by decide +kernel
theorem dX5_samples_2 : decode cX5_samples 2 = .ok (.bipush 60, 2) := by decide +kernel
theorem dX5_samples_4 : decode cX5_samples 4 = .ok (.invokestatic 33, 3) := by decide +kernel
theorem dX5_samples_7 : decode cX5_samples 7 = .ok (.ifCond .eq 12, 3) := by decide +kernel
theorem dX5_samples_10 : decode cX5_samples 10 = .ok (.iload_n 2, 1) := by decide +kernel
theorem dX5_samples_11 : decode cX5_samples 11 = .ok (.iconst 1, 1) := by decide +kernel
theorem dX5_samples_12 : decode cX5_samples 12 = .ok (.iload_n 1, 1) := by decide +kernel
theorem dX5_samples_13 : decode cX5_samples 13 = .ok (.invokestatic 33, 3) := by decide +kernel
theorem dX5_samples_16 : decode cX5_samples 16 = .ok (.ifCond .ne 13, 3) := by decide +kernel
theorem dX5_samples_19 : decode cX5_samples 19 = .ok (.new 37, 3) := by decide +kernel
theorem dX5_samples_22 : decode cX5_samples 22 = .ok (.dup, 1) := by decide +kernel
theorem dX5_samples_23 : decode cX5_samples 23 = .ok (.ldc 142, 2) := by decide +kernel
theorem dX5_samples_25 : decode cX5_samples 25 = .ok (.invokespecial 41, 3) := by decide +kernel
theorem dX5_samples_28 : decode cX5_samples 28 = .ok (.athrow, 1) := by decide +kernel
theorem dX5_samples_29 : decode cX5_samples 29 = .ok (.iload_n 1, 1) := by decide +kernel
theorem dX5_samples_30 : decode cX5_samples 30 = .ok (.iload_n 2, 1) := by decide +kernel
theorem dX5_samples_31 : decode cX5_samples 31 = .ok (.invokestatic 144, 3) := by decide +kernel
theorem dX5_samples_34 : decode cX5_samples 34 = .ok (.lreturn, 1) := by decide +kernel
theorem dX5_accepted_0 : decode cX5_accepted 0 = .ok (.iload_n 1, 1) := by decide +kernel
theorem dX5_accepted_1 : decode cX5_accepted 1 = .ok (.iconst 2, 1) := by decide +kernel
theorem dX5_accepted_2 : decode cX5_accepted 2 = .ok (.bipush 60, 2) := by decide +kernel
theorem dX5_accepted_4 : decode cX5_accepted 4 = .ok (.invokestatic 33, 3) := by decide +kernel
theorem dX5_accepted_7 : decode cX5_accepted 7 = .ok (.ifCond .eq 32, 3) := by decide +kernel
theorem dX5_accepted_10 : decode cX5_accepted 10 = .ok (.iload_n 2, 1) := by decide +kernel
theorem dX5_accepted_11 : decode cX5_accepted 11 = .ok (.iconst 0, 1) := by decide +kernel
theorem dX5_accepted_12 : decode cX5_accepted 12 = .ok (.iload_n 1, 1) := by decide +kernel
theorem dX5_accepted_13 : decode cX5_accepted 13 = .ok (.invokestatic 33, 3) := by decide +kernel
theorem dX5_accepted_16 : decode cX5_accepted 16 = .ok (.ifCond .eq 23, 3) := by decide +kernel
theorem dX5_accepted_19 : decode cX5_accepted 19 = .ok (.iload_n 3, 1) := by decide +kernel
theorem dX5_accepted_20 : decode cX5_accepted 20 = .ok (.iconst 1, 1) := by decide +kernel
theorem dX5_accepted_21 : decode cX5_accepted 21 = .ok (.iload_n 1, 1) := by decide +kernel
theorem dX5_accepted_22 : decode cX5_accepted 22 = .ok (.invokestatic 33, 3) := by decide +kernel
theorem dX5_accepted_25 : decode cX5_accepted 25 = .ok (.ifCond .eq 14, 3) := by decide +kernel
theorem dX5_accepted_28 : decode cX5_accepted 28 = .ok (.iload 4, 2) := by decide +kernel
theorem dX5_accepted_30 : decode cX5_accepted 30 = .ok (.iconst 0, 1) := by decide +kernel
theorem dX5_accepted_31 : decode cX5_accepted 31 = .ok (.bipush 60, 2) := by decide +kernel
theorem dX5_accepted_33 : decode cX5_accepted 33 = .ok (.invokestatic 33, 3) := by decide +kernel
theorem dX5_accepted_36 : decode cX5_accepted 36 = .ok (.ifCond .ne 13, 3) := by decide +kernel
theorem dX5_accepted_39 : decode cX5_accepted 39 = .ok (.new 37, 3) := by decide +kernel
theorem dX5_accepted_42 : decode cX5_accepted 42 = .ok (.dup, 1) := by decide +kernel
theorem dX5_accepted_43 : decode cX5_accepted 43 = .ok (.ldc 150, 2) := by decide +kernel
theorem dX5_accepted_45 : decode cX5_accepted 45 = .ok (.invokespecial 41, 3) := by decide +kernel
theorem dX5_accepted_48 : decode cX5_accepted 48 = .ok (.athrow, 1) := by decide +kernel
theorem dX5_accepted_49 : decode cX5_accepted 49 = .ok (.iload_n 1, 1) := by decide +kernel
theorem dX5_accepted_50 : decode cX5_accepted 50 = .ok (.iload_n 2, 1) := by decide +kernel
theorem dX5_accepted_51 : decode cX5_accepted 51 = .ok (.iload_n 3, 1) := by decide +kernel
theorem dX5_accepted_52 : decode cX5_accepted 52 = .ok (.iload 4, 2) := by decide +kernel
theorem dX5_accepted_54 : decode cX5_accepted 54 = .ok (.invokestatic 152, 3) := by decide +kernel
theorem dX5_accepted_57 : decode cX5_accepted 57 = .ok (.lreturn, 1) := by decide +kernel
theorem dX5_acceptedByListing_0 : decode cX5_acceptedByListing 0 = .ok (.iload_n 1, 1) := by decide +kernel
theorem dX5_acceptedByListing_1 : decode cX5_acceptedByListing 1 = .ok (.iconst 2, 1) := by decide +kernel
theorem dX5_acceptedByListing_2 : decode cX5_acceptedByListing 2 = .ok (.bipush 14, 2) := by decide +kernel
theorem dX5_acceptedByListing_4 : decode cX5_acceptedByListing 4 = .ok (.invokestatic 33, 3) := by decide +kernel
theorem dX5_acceptedByListing_7 : decode cX5_acceptedByListing 7 = .ok (.ifCond .eq 32, 3) := by decide +kernel
theorem dX5_acceptedByListing_10 : decode cX5_acceptedByListing 10 = .ok (.iload_n 2, 1) := by decide +kernel
theorem dX5_acceptedByListing_11 : decode cX5_acceptedByListing 11 = .ok (.iconst 0, 1) := by decide +kernel
theorem dX5_acceptedByListing_12 : decode cX5_acceptedByListing 12 = .ok (.iload_n 1, 1) := by decide +kernel
theorem dX5_acceptedByListing_13 : decode cX5_acceptedByListing 13 = .ok (.invokestatic 33, 3) := by decide +kernel
theorem dX5_acceptedByListing_16 : decode cX5_acceptedByListing 16 = .ok (.ifCond .eq 23, 3) := by decide +kernel
theorem dX5_acceptedByListing_19 : decode cX5_acceptedByListing 19 = .ok (.iload_n 3, 1) := by decide +kernel
theorem dX5_acceptedByListing_20 : decode cX5_acceptedByListing 20 = .ok (.iconst 1, 1) := by decide +kernel
theorem dX5_acceptedByListing_21 : decode cX5_acceptedByListing 21 = .ok (.iload_n 1, 1) := by decide +kernel
theorem dX5_acceptedByListing_22 : decode cX5_acceptedByListing 22 = .ok (.invokestatic 33, 3) := by decide +kernel
theorem dX5_acceptedByListing_25 : decode cX5_acceptedByListing 25 = .ok (.ifCond .eq 14, 3) := by decide +kernel
theorem dX5_acceptedByListing_28 : decode cX5_acceptedByListing 28 = .ok (.iload 4, 2) := by decide +kernel
theorem dX5_acceptedByListing_30 : decode cX5_acceptedByListing 30 = .ok (.iconst 0, 1) := by decide +kernel
theorem dX5_acceptedByListing_31 : decode cX5_acceptedByListing 31 = .ok (.bipush 60, 2) := by decide +kernel
theorem dX5_acceptedByListing_33 : decode cX5_acceptedByListing 33 = .ok (.invokestatic 33, 3) := by decide +kernel
theorem dX5_acceptedByListing_36 : decode cX5_acceptedByListing 36 = .ok (.ifCond .ne 13, 3) := by decide +kernel
theorem dX5_acceptedByListing_39 : decode cX5_acceptedByListing 39 = .ok (.new 37, 3) := by decide +kernel
theorem dX5_acceptedByListing_42 : decode cX5_acceptedByListing 42 = .ok (.dup, 1) := by decide +kernel
theorem dX5_acceptedByListing_43 : decode cX5_acceptedByListing 43 = .ok (.ldc 150, 2) := by decide +kernel
theorem dX5_acceptedByListing_45 : decode cX5_acceptedByListing 45 = .ok (.invokespecial 41, 3) := by decide +kernel
theorem dX5_acceptedByListing_48 : decode cX5_acceptedByListing 48 = .ok (.athrow, 1) := by decide +kernel
theorem dX5_acceptedByListing_49 : decode cX5_acceptedByListing 49 = .ok (.iload_n 1, 1) := by decide +kernel
theorem dX5_acceptedByListing_50 : decode cX5_acceptedByListing 50 = .ok (.iload_n 2, 1) := by decide +kernel
theorem dX5_acceptedByListing_51 : decode cX5_acceptedByListing 51 = .ok (.iload_n 3, 1) := by decide +kernel
theorem dX5_acceptedByListing_52 : decode cX5_acceptedByListing 52 = .ok (.iload 4, 2) := by decide +kernel
theorem dX5_acceptedByListing_54 : decode cX5_acceptedByListing 54 = .ok (.invokestatic 156, 3) := by decide +kernel
theorem dX5_acceptedByListing_57 : decode cX5_acceptedByListing 57 = .ok (.lreturn, 1) := by decide +kernel
theorem dX5_isWithin_0 : decode cX5_isWithin 0 = .ok (.iload_n 0, 1) := by decide +kernel
theorem dX5_isWithin_1 : decode cX5_isWithin 1 = .ok (.iload_n 1, 1) := by decide +kernel
theorem dX5_isWithin_2 : decode cX5_isWithin 2 = .ok (.if_icmp .lt 12, 3) := by decide +kernel
theorem dX5_isWithin_5 : decode cX5_isWithin 5 = .ok (.iload_n 0, 1) := by decide +kernel
theorem dX5_isWithin_6 : decode cX5_isWithin 6 = .ok (.iload_n 2, 1) := by decide +kernel
theorem dX5_isWithin_7 : decode cX5_isWithin 7 = .ok (.if_icmp .gt 7, 3) := by decide +kernel
theorem dX5_isWithin_10 : decode cX5_isWithin 10 = .ok (.iconst 1, 1) := by decide +kernel
theorem dX5_isWithin_11 : decode cX5_isWithin 11 = .ok (.goto 4, 3) := by decide +kernel
theorem dX5_isWithin_14 : decode cX5_isWithin 14 = .ok (.iconst 0, 1) := by decide +kernel
theorem dX5_isWithin_15 : decode cX5_isWithin 15 = .ok (.ireturn, 1) := by decide +kernel
theorem dX5_isOrder_0 : decode cX5_isOrder 0 = .ok (.iload_n 0, 1) := by decide +kernel
theorem dX5_isOrder_1 : decode cX5_isOrder 1 = .ok (.ifCond .lt 14, 3) := by decide +kernel
theorem dX5_isOrder_4 : decode cX5_isOrder 4 = .ok (.iload_n 0, 1) := by decide +kernel
theorem dX5_isOrder_5 : decode cX5_isOrder 5 = .ok (.sipush 200, 3) := by decide +kernel
theorem dX5_isOrder_8 : decode cX5_isOrder 8 = .ok (.if_icmp .ge 7, 3) := by decide +kernel
theorem dX5_isOrder_11 : decode cX5_isOrder 11 = .ok (.iconst 1, 1) := by decide +kernel
theorem dX5_isOrder_12 : decode cX5_isOrder 12 = .ok (.goto 4, 3) := by decide +kernel
theorem dX5_isOrder_15 : decode cX5_isOrder 15 = .ok (.iconst 0, 1) := by decide +kernel
theorem dX5_isOrder_16 : decode cX5_isOrder 16 = .ok (.ireturn, 1) := by decide +kernel
theorem dX5_isLotSize_0 : decode cX5_isLotSize 0 = .ok (.iload_n 0, 1) := by decide +kernel
theorem dX5_isLotSize_1 : decode cX5_isLotSize 1 = .ok (.iconst 2, 1) := by decide +kernel
theorem dX5_isLotSize_2 : decode cX5_isLotSize 2 = .ok (.sipush 5000, 3) := by decide +kernel
theorem dX5_isLotSize_5 : decode cX5_isLotSize 5 = .ok (.invokestatic 33, 3) := by decide +kernel
theorem dX5_isLotSize_8 : decode cX5_isLotSize 8 = .ok (.ireturn, 1) := by decide +kernel
theorem dX5_isFindings_0 : decode cX5_isFindings 0 = .ok (.lload_n 0, 1) := by decide +kernel
theorem dX5_isFindings_1 : decode cX5_isFindings 1 = .ok (.lconst 0, 1) := by decide +kernel
theorem dX5_isFindings_2 : decode cX5_isFindings 2 = .ok (.lcmp, 1) := by decide +kernel
theorem dX5_isFindings_3 : decode cX5_isFindings 3 = .ok (.ifCond .lt 15, 3) := by decide +kernel
theorem dX5_isFindings_6 : decode cX5_isFindings 6 = .ok (.lload_n 0, 1) := by decide +kernel
theorem dX5_isFindings_7 : decode cX5_isFindings 7 = .ok (.ldc2_w 162, 3) := by decide +kernel
theorem dX5_isFindings_10 : decode cX5_isFindings 10 = .ok (.lcmp, 1) := by decide +kernel
theorem dX5_isFindings_11 : decode cX5_isFindings 11 = .ok (.ifCond .gt 7, 3) := by decide +kernel
theorem dX5_isFindings_14 : decode cX5_isFindings 14 = .ok (.iconst 1, 1) := by decide +kernel
theorem dX5_isFindings_15 : decode cX5_isFindings 15 = .ok (.goto 4, 3) := by decide +kernel
theorem dX5_isFindings_18 : decode cX5_isFindings 18 = .ok (.iconst 0, 1) := by decide +kernel
theorem dX5_isFindings_19 : decode cX5_isFindings 19 = .ok (.ireturn, 1) := by decide +kernel
theorem dX5_findLot_0 : decode cX5_findLot 0 = .ok (.iload_n 1, 1) := by decide +kernel
theorem dX5_findLot_1 : decode cX5_findLot 1 = .ok (.invokestatic 66, 3) := by decide +kernel
theorem dX5_findLot_4 : decode cX5_findLot 4 = .ok (.ifCond .eq 12, 3) := by decide +kernel
theorem dX5_findLot_7 : decode cX5_findLot 7 = .ok (.aload_n 0, 1) := by decide +kernel
theorem dX5_findLot_8 : decode cX5_findLot 8 = .ok (.getfield 11, 3) := by decide +kernel
theorem dX5_findLot_11 : decode cX5_findLot 11 = .ok (.iload_n 1, 1) := by decide +kernel
theorem dX5_findLot_12 : decode cX5_findLot 12 = .ok (.aaload, 1) := by decide +kernel
theorem dX5_findLot_13 : decode cX5_findLot 13 = .ok (.goto 4, 3) := by decide +kernel
theorem dX5_findLot_16 : decode cX5_findLot 16 = .ok (.aconst_null, 1) := by decide +kernel
theorem dX5_findLot_17 : decode cX5_findLot 17 = .ok (.areturn, 1) := by decide +kernel
theorem dX5_judgeAll_0 : decode cX5_judgeAll 0 = .ok (.aload_n 0, 1) := by decide +kernel
theorem dX5_judgeAll_1 : decode cX5_judgeAll 1 = .ok (.getfield 29, 3) := by decide +kernel
theorem dX5_judgeAll_4 : decode cX5_judgeAll 4 = .ok (.invokevirtual 164, 3) := by decide +kernel
theorem dX5_judgeAll_7 : decode cX5_judgeAll 7 = .ok (.iconst (-1), 1) := by decide +kernel
theorem dX5_judgeAll_8 : decode cX5_judgeAll 8 = .ok (.istore_n 1, 1) := by decide +kernel
theorem dX5_judgeAll_9 : decode cX5_judgeAll 9 = .ok (.iconst 0, 1) := by decide +kernel
theorem dX5_judgeAll_10 : decode cX5_judgeAll 10 = .ok (.istore_n 2, 1) := by decide +kernel
theorem dX5_judgeAll_11 : decode cX5_judgeAll 11 = .ok (.iload_n 2, 1) := by decide +kernel
theorem dX5_judgeAll_12 : decode cX5_judgeAll 12 = .ok (.sipush 200, 3) := by decide +kernel
theorem dX5_judgeAll_15 : decode cX5_judgeAll 15 = .ok (.if_icmp .ge 44, 3) := by decide +kernel
theorem dX5_judgeAll_18 : decode cX5_judgeAll 18 = .ok (.aload_n 0, 1) := by decide +kernel
theorem dX5_judgeAll_19 : decode cX5_judgeAll 19 = .ok (.getfield 15, 3) := by decide +kernel
theorem dX5_judgeAll_22 : decode cX5_judgeAll 22 = .ok (.iload_n 2, 1) := by decide +kernel
theorem dX5_judgeAll_23 : decode cX5_judgeAll 23 = .ok (.baload, 1) := by decide +kernel
theorem dX5_judgeAll_24 : decode cX5_judgeAll 24 = .ok (.ifCond .eq 5, 3) := by decide +kernel
theorem dX5_judgeAll_27 : decode cX5_judgeAll 27 = .ok (.iload_n 2, 1) := by decide +kernel
theorem dX5_judgeAll_28 : decode cX5_judgeAll 28 = .ok (.istore_n 1, 1) := by decide +kernel
theorem dX5_judgeAll_29 : decode cX5_judgeAll 29 = .ok (.aload_n 0, 1) := by decide +kernel
theorem dX5_judgeAll_30 : decode cX5_judgeAll 30 = .ok (.getfield 11, 3) := by decide +kernel
theorem dX5_judgeAll_33 : decode cX5_judgeAll 33 = .ok (.iload_n 2, 1) := by decide +kernel
theorem dX5_judgeAll_34 : decode cX5_judgeAll 34 = .ok (.aaload, 1) := by decide +kernel
theorem dX5_judgeAll_35 : decode cX5_judgeAll 35 = .ok (.astore_n 3, 1) := by decide +kernel
theorem dX5_judgeAll_36 : decode cX5_judgeAll 36 = .ok (.aload_n 3, 1) := by decide +kernel
theorem dX5_judgeAll_37 : decode cX5_judgeAll 37 = .ok (.ifnull 16, 3) := by decide +kernel
theorem dX5_judgeAll_40 : decode cX5_judgeAll 40 = .ok (.aload_n 0, 1) := by decide +kernel
theorem dX5_judgeAll_41 : decode cX5_judgeAll 41 = .ok (.getfield 29, 3) := by decide +kernel
theorem dX5_judgeAll_44 : decode cX5_judgeAll 44 = .ok (.aload_n 3, 1) := by decide +kernel
theorem dX5_judgeAll_45 : decode cX5_judgeAll 45 = .ok (.iload_n 1, 1) := by decide +kernel
theorem dX5_judgeAll_46 : decode cX5_judgeAll 46 = .ok (.aload_n 0, 1) := by decide +kernel
theorem dX5_judgeAll_47 : decode cX5_judgeAll 47 = .ok (.getfield 22, 3) := by decide +kernel
theorem dX5_judgeAll_50 : decode cX5_judgeAll 50 = .ok (.invokevirtual 167, 3) := by decide +kernel
theorem dX5_judgeAll_53 : decode cX5_judgeAll 53 = .ok (.iinc 2 1, 3) := by decide +kernel
theorem dX5_judgeAll_56 : decode cX5_judgeAll 56 = .ok (.goto (-45), 3) := by decide +kernel
theorem dX5_judgeAll_59 : decode cX5_judgeAll 59 = .ok (.return_, 1) := by decide +kernel
