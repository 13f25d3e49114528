theorem dX5_judgeAll_59 : decode cX5_judgeAll 59 = .ok (.return_, 1) := by decide +kernel
theorem dX6_init_0 : decode cX6_init 0 = .ok (.aload_n 0, 1) := by decide +kernel
theorem dX6_init_1 : decode cX6_init 1 = .ok (.invokespecial 1, 3) := by decide +kernel
theorem dX6_init_4 : decode cX6_init 4 = .ok (.aload_n 0, 1) := by decide +kernel
theorem dX6_init_5 : decode cX6_init 5 = .ok (.iconst 1, 1) := by decide +kernel
theorem dX6_init_6 : decode cX6_init 6 = .ok (.putfield 7, 3) := by decide +kernel
theorem dX6_init_9 : decode cX6_init 9 = .ok (.aload_n 0, 1) := by decide +kernel
theorem dX6_init_10 : decode cX6_init 10 = .ok (.iconst 1, 1) := by decide +kernel
theorem dX6_init_11 : decode cX6_init 11 = .ok (.putfield 13, 3) := by decide +kernel
theorem dX6_init_14 : decode cX6_init 14 = .ok (.aload_n 0, 1) := by decide +kernel
theorem dX6_init_15 : decode cX6_init 15 = .ok (.sipush 200, 3) := by decide +kernel
theorem dX6_init_18 : decode cX6_init 18 = .ok (.newarray .int, 2) := by decide +kernel
theorem dX6_init_20 : decode cX6_init 20 = .ok (.putfield 16, 3) := by decide +kernel
theorem dX6_init_23 : decode cX6_init 23 = .ok (.aload_n 0, 1) := by decide +kernel
theorem dX6_init_24 : decode cX6_init 24 = .ok (.bipush 60, 2) := by decide +kernel
theorem dX6_init_26 : decode cX6_init 26 = .ok (.newarray .int, 2) := by decide +kernel
theorem dX6_init_28 : decode cX6_init 28 = .ok (.putfield 20, 3) := by decide +kernel
theorem dX6_init_31 : decode cX6_init 31 = .ok (.aload_n 0, 1) := by decide +kernel
theorem dX6_init_32 : decode cX6_init 32 = .ok (.bipush 60, 2) := by decide +kernel
theorem dX6_init_34 : decode cX6_init 34 = .ok (.newarray .int, 2) := by decide +kernel
theorem dX6_init_36 : decode cX6_init 36 = .ok (.putfield 23, 3) := by decide +kernel
theorem dX6_init_39 : decode cX6_init 39 = .ok (.aload_n 0, 1) := by decide +kernel
theorem dX6_init_40 : decode cX6_init 40 = .ok (.bipush 60, 2) := by decide +kernel
theorem dX6_init_42 : decode cX6_init 42 = .ok (.newarray .long, 2) := by decide +kernel
theorem dX6_init_44 : decode cX6_init 44 = .ok (.putfield 26, 3) := by decide +kernel
theorem dX6_init_47 : decode cX6_init 47 = .ok (.aload_n 0, 1) := by decide +kernel
theorem dX6_init_48 : decode cX6_init 48 = .ok (.bipush 60, 2) := by decide +kernel
theorem dX6_init_50 : decode cX6_init 50 = .ok (.newarray .int, 2) := by decide +kernel
theorem dX6_init_52 : decode cX6_init 52 = .ok (.putfield 30, 3) := by decide +kernel
theorem dX6_init_55 : decode cX6_init 55 = .ok (.aload_n 0, 1) := by decide +kernel
theorem dX6_init_56 : decode cX6_init 56 = .ok (.bipush 60, 2) := by decide +kernel
theorem dX6_init_58 : decode cX6_init 58 = .ok (.newarray .int, 2) := by decide +kernel
theorem dX6_init_60 : decode cX6_init 60 = .ok (.putfield 33, 3) := by decide +kernel
theorem dX6_init_63 : decode cX6_init 63 = .ok (.aload_n 0, 1) := by decide +kernel
theorem dX6_init_64 : decode cX6_init 64 = .ok (.bipush 60, 2) := by decide +kernel
theorem dX6_init_66 : decode cX6_init 66 = .ok (.newarray .int, 2) := by decide +kernel
theorem dX6_init_68 : decode cX6_init 68 = .ok (.putfield 36, 3) := by decide +kernel
theorem dX6_init_71 : decode cX6_init 71 = .ok (.aload_n 0, 1) := by decide +kernel
theorem dX6_init_72 : decode cX6_init 72 = .ok (.bipush 60, 2) := by decide +kernel
theorem dX6_init_74 : decode cX6_init 74 = .ok (.newarray .int, 2) := by decide +kernel
theorem dX6_init_76 : decode cX6_init 76 = .ok (.putfield 39, 3) := by decide +kernel
theorem dX6_init_79 : decode cX6_init 79 = .ok (.aload_n 0, 1) := by decide +kernel
theorem dX6_init_80 : decode cX6_init 80 = .ok (.bipush 60, 2) := by decide +kernel
theorem dX6_init_82 : decode cX6_init 82 = .ok (.newarray .int, 2) := by decide +kernel
theorem dX6_init_84 : decode cX6_init 84 = .ok (.putfield 42, 3) := by decide +kernel
theorem dX6_init_87 : decode cX6_init 87 = .ok (.return_, 1) := by decide +kernel
theorem dX6_thrown_0 : decode cX6_thrown 0 = .ok (.aload_n 0, 1) := by decide +kernel
theorem dX6_thrown_1 : decode cX6_thrown 1 = .ok (.getfield 45, 3) := by decide +kernel
theorem dX6_thrown_4 : decode cX6_thrown 4 = .ok (.ireturn, 1) := by decide +kernel
theorem dX6_fails_0 : decode cX6_fails 0 = .ok (.aload_n 0, 1) := by decide +kernel
theorem dX6_fails_1 : decode cX6_fails 1 = .ok (.iload_n 1, 1) := by decide +kernel
theorem dX6_fails_2 : decode cX6_fails 2 = .ok (.putfield 45, 3) := by decide +kernel
theorem dX6_fails_5 : decode cX6_fails 5 = .ok (.iconst 0, 1) := by decide +kernel
theorem dX6_fails_6 : decode cX6_fails 6 = .ok (.ireturn, 1) := by decide +kernel
theorem dX6_in_0 : decode cX6_in 0 = .ok (.iload_n 0, 1) := by decide +kernel
theorem dX6_in_1 : decode cX6_in 1 = .ok (.iload_n 1, 1) := by decide +kernel
theorem dX6_in_2 : decode cX6_in 2 = .ok (.if_icmp .lt 12, 3) := by decide +kernel
theorem dX6_in_5 : decode cX6_in 5 = .ok (.iload_n 0, 1) := by decide +kernel
theorem dX6_in_6 : decode cX6_in 6 = .ok (.iload_n 2, 1) := by decide +kernel
theorem dX6_in_7 : decode cX6_in 7 = .ok (.if_icmp .gt 7, 3) := by decide +kernel
theorem dX6_in_10 : decode cX6_in 10 = .ok (.iconst 1, 1) := by decide +kernel
theorem dX6_in_11 : decode cX6_in 11 = .ok (.goto 4, 3) := by decide +kernel
theorem dX6_in_14 : decode cX6_in 14 = .ok (.iconst 0, 1) := by decide +kernel
theorem dX6_in_15 : decode cX6_in 15 = .ok (.ireturn, 1) := by decide +kernel
set_option maxRecDepth 20000 in
theorem ggX6_setPlan_X6_in : GoodIn wsX6_setPlan wsX6_in := goodIn_r _ [7] (by decide +kernel) (by decide +kernel)
set_option maxRecDepth 20000 in
theorem gX6_setPlan_X6_in : GoodIn wsX6_setPlan (va_wsS RX6 48 yX6_in wsX6_in) := goodIn_app (goodIn_of _ (by decide +kernel)) ggX6_setPlan_X6_in
theorem dX6_setPlan_0 : decode cX6_setPlan 0 = .ok (.aload_n 0, 1) := by decide +kernel
theorem dX6_setPlan_1 : decode cX6_setPlan 1 = .ok (.iload_n 1, 1) := by decide +kernel
theorem dX6_setPlan_2 : decode cX6_setPlan 2 = .ok (.iconst 0, 1) := by decide +kernel
theorem dX6_setPlan_3 : decode cX6_setPlan 3 = .ok (.iconst 2, 1) := by decide +kernel
theorem dX6_setPlan_4 : decode cX6_setPlan 4 = .ok (.invokestatic 48, 3) := by decide +kernel
theorem dX6_setPlan_7 : decode cX6_setPlan 7 = .ok (.ifCond .eq 16, 3) := by decide +kernel
theorem dX6_setPlan_10 : decode cX6_setPlan 10 = .ok (.iload_n 2, 1) := by decide +kernel
theorem dX6_setPlan_11 : decode cX6_setPlan 11 = .ok (.iconst 0, 1) := by decide +kernel
theorem dX6_setPlan_12 : decode cX6_setPlan 12 = .ok (.iconst 3, 1) := by decide +kernel
theorem dX6_setPlan_13 : decode cX6_setPlan 13 = .ok (.invokestatic 48, 3) := by decide +kernel
theorem dX6_setPlan_16 : decode cX6_setPlan 16 = .ok (.ifCond .eq 7, 3) := by decide +kernel
theorem dX6_setPlan_19 : decode cX6_setPlan 19 = .ok (.iconst 0, 1) := by decide +kernel
theorem dX6_setPlan_20 : decode cX6_setPlan 20 = .ok (.goto 4, 3) := by decide +kernel
theorem dX6_setPlan_23 : decode cX6_setPlan 23 = .ok (.iconst 1, 1) := by decide +kernel
theorem dX6_setPlan_24 : decode cX6_setPlan 24 = .ok (.putfield 45, 3) := by decide +kernel
theorem dX6_setPlan_27 : decode cX6_setPlan 27 = .ok (.aload_n 0, 1) := by decide +kernel
theorem dX6_setPlan_28 : decode cX6_setPlan 28 = .ok (.getfield 45, 3) := by decide +kernel
theorem dX6_setPlan_31 : decode cX6_setPlan 31 = .ok (.ifCond .ne 13, 3) := by decide +kernel
theorem dX6_setPlan_34 : decode cX6_setPlan 34 = .ok (.aload_n 0, 1) := by decide +kernel
theorem dX6_setPlan_35 : decode cX6_setPlan 35 = .ok (.iload_n 1, 1) := by decide +kernel
theorem dX6_setPlan_36 : decode cX6_setPlan 36 = .ok (.putfield 7, 3) := by decide +kernel
theorem dX6_setPlan_39 : decode cX6_setPlan 39 = .ok (.aload_n 0, 1) := by decide +kernel
theorem dX6_setPlan_40 : decode cX6_setPlan 40 = .ok (.iload_n 2, 1) := by decide +kernel
theorem dX6_setPlan_41 : decode cX6_setPlan 41 = .ok (.putfield 13, 3) := by decide +kernel
theorem dX6_setPlan_44 : decode cX6_setPlan 44 = .ok (.return_, 1) := by decide +kernel
set_option maxRecDepth 20000 in
theorem ggX6_setWays_X6_in : GoodIn wsX6_setWays wsX6_in := goodIn_r _ [8] (by decide +kernel) (by decide +kernel)
set_option maxRecDepth 20000 in
theorem gX6_setWays_X6_in : GoodIn wsX6_setWays (va_wsS RX6 48 yX6_in wsX6_in) := goodIn_app (goodIn_of _ (by decide +kernel)) ggX6_setWays_X6_in
theorem dX6_setWays_0 : decode cX6_setWays 0 = .ok (.aload_n 0, 1) := by decide +kernel
theorem dX6_setWays_1 : decode cX6_setWays 1 = .ok (.iload_n 3, 1) := by decide +kernel
theorem dX6_setWays_2 : decode cX6_setWays 2 = .ok (.ifCond .eq 12, 3) := by decide +kernel
theorem dX6_setWays_5 : decode cX6_setWays 5 = .ok (.iload_n 3, 1) := by decide +kernel
theorem dX6_setWays_6 : decode cX6_setWays 6 = .ok (.iconst 2, 1) := by decide +kernel
theorem dX6_setWays_7 : decode cX6_setWays 7 = .ok (.iconst 5, 1) := by decide +kernel
theorem dX6_setWays_8 : decode cX6_setWays 8 = .ok (.invokestatic 48, 3) := by decide +kernel
theorem dX6_setWays_11 : decode cX6_setWays 11 = .ok (.ifCond .eq 7, 3) := by decide +kernel
theorem dX6_setWays_14 : decode cX6_setWays 14 = .ok (.iconst 0, 1) := by decide +kernel
theorem dX6_setWays_15 : decode cX6_setWays 15 = .ok (.goto 4, 3) := by decide +kernel
theorem dX6_setWays_18 : decode cX6_setWays 18 = .ok (.iconst 1, 1) := by decide +kernel
theorem dX6_setWays_19 : decode cX6_setWays 19 = .ok (.putfield 45, 3) := by decide +kernel
theorem dX6_setWays_22 : decode cX6_setWays 22 = .ok (.aload_n 0, 1) := by decide +kernel
theorem dX6_setWays_23 : decode cX6_setWays 23 = .ok (.getfield 45, 3) := by decide +kernel
theorem dX6_setWays_26 : decode cX6_setWays 26 = .ok (.ifCond .ne 18, 3) := by decide +kernel
theorem dX6_setWays_29 : decode cX6_setWays 29 = .ok (.aload_n 0, 1) := by decide +kernel
theorem dX6_setWays_30 : decode cX6_setWays 30 = .ok (.iload_n 1, 1) := by decide +kernel
theorem dX6_setWays_31 : decode cX6_setWays 31 = .ok (.putfield 52, 3) := by decide +kernel
theorem dX6_setWays_34 : decode cX6_setWays 34 = .ok (.aload_n 0, 1) := by decide +kernel
theorem dX6_setWays_35 : decode cX6_setWays 35 = .ok (.iload_n 2, 1) := by decide +kernel
theorem dX6_setWays_36 : decode cX6_setWays 36 = .ok (.putfield 56, 3) := by decide +kernel
theorem dX6_setWays_39 : decode cX6_setWays 39 = .ok (.aload_n 0, 1) := by decide +kernel
theorem dX6_setWays_40 : decode cX6_setWays 40 = .ok (.iload_n 3, 1) := by decide +kernel
theorem dX6_setWays_41 : decode cX6_setWays 41 = .ok (.putfield 59, 3) := by decide +kernel
theorem dX6_setWays_44 : decode cX6_setWays 44 = .ok (.return_, 1) := by decide +kernel
set_option maxRecDepth 20000 in
theorem ggX6_toggleMark_X6_in : GoodIn wsX6_toggleMark wsX6_in := goodIn_r _ [6] (by decide +kernel) (by decide +kernel)
set_option maxRecDepth 20000 in
theorem gX6_toggleMark_X6_in : GoodIn wsX6_toggleMark (va_wsS RX6 48 yX6_in wsX6_in) := goodIn_app (goodIn_of _ (by decide +kernel)) ggX6_toggleMark_X6_in
theorem dX6_toggleMark_0 : decode cX6_toggleMark 0 = .ok (.aload_n 0, 1) := by decide +kernel
theorem dX6_toggleMark_1 : decode cX6_toggleMark 1 = .ok (.iload_n 1, 1) := by decide +kernel
theorem dX6_toggleMark_2 : decode cX6_toggleMark 2 = .ok (.iconst 0, 1) := by decide +kernel
theorem dX6_toggleMark_3 : decode cX6_toggleMark 3 = .ok (.sipush 199, 3) := by decide +kernel
theorem dX6_toggleMark_6 : decode cX6_toggleMark 6 = .ok (.invokestatic 48, 3) := by decide +kernel
theorem dX6_toggleMark_9 : decode cX6_toggleMark 9 = .ok (.ifCond .eq 7, 3) := by decide +kernel
theorem dX6_toggleMark_12 : decode cX6_toggleMark 12 = .ok (.iconst 0, 1) := by decide +kernel
theorem dX6_toggleMark_13 : decode cX6_toggleMark 13 = .ok (.goto 4, 3) := by decide +kernel
theorem dX6_toggleMark_16 : decode cX6_toggleMark 16 = .ok (.iconst 1, 1) := by decide +kernel
theorem dX6_toggleMark_17 : decode cX6_toggleMark 17 = .ok (.putfield 45, 3) := by decide +kernel
theorem dX6_toggleMark_20 : decode cX6_toggleMark 20 = .ok (.aload_n 0, 1) := by decide +kernel
theorem dX6_toggleMark_21 : decode cX6_toggleMark 21 = .ok (.getfield 45, 3) := by decide +kernel
theorem dX6_toggleMark_24 : decode cX6_toggleMark 24 = .ok (.ifCond .le 5, 3) := by decide +kernel
theorem dX6_toggleMark_27 : decode cX6_toggleMark 27 = .ok (.iconst 0, 1) := by decide +kernel
theorem dX6_toggleMark_28 : decode cX6_toggleMark 28 = .ok (.ireturn, 1) := by decide +kernel
theorem dX6_toggleMark_29 : decode cX6_toggleMark 29 = .ok (.aload_n 0, 1) := by decide +kernel
theorem dX6_toggleMark_30 : decode cX6_toggleMark 30 = .ok (.getfield 16, 3) := by decide +kernel
theorem dX6_toggleMark_33 : decode cX6_toggleMark 33 = .ok (.iload_n 1, 1) := by decide +kernel
theorem dX6_toggleMark_34 : decode cX6_toggleMark 34 = .ok (.iconst 1, 1) := by decide +kernel
theorem dX6_toggleMark_35 : decode cX6_toggleMark 35 = .ok (.aload_n 0, 1) := by decide +kernel
theorem dX6_toggleMark_36 : decode cX6_toggleMark 36 = .ok (.getfield 16, 3) := by decide +kernel
theorem dX6_toggleMark_39 : decode cX6_toggleMark 39 = .ok (.iload_n 1, 1) := by decide +kernel
theorem dX6_toggleMark_40 : decode cX6_toggleMark 40 = .ok (.iaload, 1) := by decide +kernel
theorem dX6_toggleMark_41 : decode cX6_toggleMark 41 = .ok (.isub, 1) := by decide +kernel
theorem dX6_toggleMark_42 : decode cX6_toggleMark 42 = .ok (.iastore, 1) := by decide +kernel
theorem dX6_toggleMark_43 : decode cX6_toggleMark 43 = .ok (.aload_n 0, 1) := by decide +kernel
theorem dX6_toggleMark_44 : decode cX6_toggleMark 44 = .ok (.getfield 16, 3) := by decide +kernel
theorem dX6_toggleMark_47 : decode cX6_toggleMark 47 = .ok (.iload_n 1, 1) := by decide +kernel
theorem dX6_toggleMark_48 : decode cX6_toggleMark 48 = .ok (.iaload, 1) := by decide +kernel
theorem dX6_toggleMark_49 : decode cX6_toggleMark 49 = .ok (.iconst 1, 1) := by decide +kernel
theorem dX6_toggleMark_50 : decode cX6_toggleMark 50 = .ok (.if_icmp .ne 7, 3) := by decide +kernel
theorem dX6_toggleMark_53 : decode cX6_toggleMark 53 = .ok (.iconst 1, 1) := by decide +kernel
theorem dX6_toggleMark_54 : decode cX6_toggleMark 54 = .ok (.goto 4, 3) := by decide +kernel
theorem dX6_toggleMark_57 : decode cX6_toggleMark 57 = .ok (.iconst 0, 1) := by decide +kernel
theorem dX6_toggleMark_58 : decode cX6_toggleMark 58 = .ok (.ireturn, 1) := by decide +kernel
theorem dX6_place_0 : decode cX6_place 0 = .ok (.iconst 0, 1) := by decide +kernel
theorem dX6_place_1 : decode cX6_place 1 = .ok (.istore_n 2, 1) := by decide +kernel
theorem dX6_place_2 : decode cX6_place 2 = .ok (.iload_n 2, 1) := by decide +kernel
theorem dX6_place_3 : decode cX6_place 3 = .ok (.aload_n 0, 1) := by decide +kernel
theorem dX6_place_4 : decode cX6_place 4 = .ok (.getfield 62, 3) := by decide +kernel
theorem dX6_place_7 : decode cX6_place 7 = .ok (.if_icmp .ge 19, 3) := by decide +kernel
theorem dX6_place_10 : decode cX6_place 10 = .ok (.aload_n 0, 1) := by decide +kernel
theorem dX6_place_11 : decode cX6_place 11 = .ok (.getfield 20, 3) := by decide +kernel
theorem dX6_place_14 : decode cX6_place 14 = .ok (.iload_n 2, 1) := by decide +kernel
theorem dX6_place_15 : decode cX6_place 15 = .ok (.iaload, 1) := by decide +kernel
theorem dX6_place_16 : decode cX6_place 16 = .ok (.iload_n 1, 1) := by decide +kernel
theorem dX6_place_17 : decode cX6_place 17 = .ok (.if_icmp .eq 9, 3) := by decide +kernel
theorem dX6_place_20 : decode cX6_place 20 = .ok (.iinc 2 1, 3) := by decide +kernel
theorem dX6_place_23 : decode cX6_place 23 = .ok (.goto (-21), 3) := by decide +kernel
theorem dX6_place_26 : decode cX6_place 26 = .ok (.iload_n 2, 1) := by decide +kernel
theorem dX6_place_27 : decode cX6_place 27 = .ok (.ireturn, 1) := by decide +kernel
theorem dX6_areFindings_0 : decode cX6_areFindings 0 = .ok (.lload_n 0, 1) := by decide +kernel
theorem dX6_areFindings_1 : decode cX6_areFindings 1 = .ok (.lconst 0, 1) := by decide +kernel
theorem dX6_areFindings_2 : decode cX6_areFindings 2 = .ok (.lcmp, 1) := by decide +kernel
theorem dX6_areFindings_3 : decode cX6_areFindings 3 = .ok (.ifCond .lt 16, 3) := by decide +kernel
theorem dX6_areFindings_6 : decode cX6_areFindings 6 = .ok (.lload_n 0, 1) := by decide +kernel
theorem dX6_areFindings_7 : decode cX6_areFindings 7 = .ok (.bipush 50, 2) := by decide +kernel
theorem dX6_areFindings_9 : decode cX6_areFindings 9 = .ok (.lshr, 1) := by decide +kernel
theorem dX6_areFindings_10 : decode cX6_areFindings 10 = .ok (.lconst 0, 1) := by decide +kernel
theorem dX6_areFindings_11 : decode cX6_areFindings 11 = .ok (.lcmp, 1) := by decide +kernel
theorem dX6_areFindings_12 : decode cX6_areFindings 12 = .ok (.ifCond .ne 7, 3) := by decide +kernel
theorem dX6_areFindings_15 : decode cX6_areFindings 15 = .ok (.iconst 1, 1) := by decide +kernel
theorem dX6_areFindings_16 : decode cX6_areFindings 16 = .ok (.goto 4, 3) := by decide +kernel
theorem dX6_areFindings_19 : decode cX6_areFindings 19 = .ok (.iconst 0, 1) := by decide +kernel
theorem dX6_areFindings_20 : decode cX6_areFindings 20 = .ok (.ireturn, 1) := by decide +kernel
set_option maxRecDepth 20000 in
theorem ggX6_record_X6_in : GoodIn wsX6_record wsX6_in := goodIn_r _ [9] (by decide +kernel) (by decide +kernel)
set_option maxRecDepth 20000 in
theorem gX6_record_X6_in : GoodIn wsX6_record (va_wsS RX6 48 yX6_in wsX6_in) := goodIn_app (goodIn_of _ (by decide +kernel)) ggX6_record_X6_in
set_option maxRecDepth 20000 in
theorem ggX6_record_X6_areFindings : GoodIn wsX6_record wsX6_areFindings := goodIn_r _ [12] (by decide +kernel) (by decide +kernel)
set_option maxRecDepth 20000 in
theorem gX6_record_X6_areFindings : GoodIn wsX6_record (va_wsS RX6 65 yX6_areFindings wsX6_areFindings) := goodIn_app (goodIn_of _ (by decide +kernel)) ggX6_record_X6_areFindings
set_option maxRecDepth 20000 in
theorem ggX6_record_X6_fails : GoodIn wsX6_record wsX6_fails := goodIn_r _ [16, 1, 21, 22, 23, 24, 25, 26, 27, 28, 29, 30, 31, 32, 33, 34, 35, 36, 37, 38, 39] (by decide +kernel) (by decide +kernel)
set_option maxRecDepth 20000 in
theorem gX6_record_X6_fails : GoodIn wsX6_record (wsV RX6 69 RX6 yX6_fails wsX6_fails) := goodIn_app (goodIn_of _ (by decide +kernel)) ggX6_record_X6_fails
set_option maxRecDepth 20000 in
theorem ggX6_record_X6_place : GoodIn wsX6_record wsX6_place := goodIn_r _ [20, 2, 3, 21, 22, 23, 24, 25, 26, 27, 28, 29, 30, 31, 32, 33, 34, 35, 36, 37, 38, 39] (by decide +kernel) (by decide +kernel)
set_option maxRecDepth 20000 in
theorem gX6_record_X6_place : GoodIn wsX6_record (wsV RX6 73 RX6 yX6_place wsX6_place) := goodIn_app (goodIn_of _ (by decide +kernel)) ggX6_record_X6_place
theorem dX6_record_0 : decode cX6_record 0 = .ok (.aload_n 0, 1) := by decide +kernel
theorem dX6_record_1 : decode cX6_record 1 = .ok (.iconst 0, 1) := by decide +kernel
theorem dX6_record_2 : decode cX6_record 2 = .ok (.putfield 45, 3) := by decide +kernel
theorem dX6_record_5 : decode cX6_record 5 = .ok (.iload_n 1, 1) := by decide +kernel
theorem dX6_record_6 : decode cX6_record 6 = .ok (.iconst 0, 1) := by decide +kernel
theorem dX6_record_7 : decode cX6_record 7 = .ok (.sipush 199, 3) := by decide +kernel
theorem dX6_record_10 : decode cX6_record 10 = .ok (.invokestatic 48, 3) := by decide +kernel
theorem dX6_record_13 : decode cX6_record 13 = .ok (.ifCond .eq 21, 3) := by decide +kernel
theorem dX6_record_16 : decode cX6_record 16 = .ok (.iload_n 2, 1) := by decide +kernel
theorem dX6_record_17 : decode cX6_record 17 = .ok (.iconst 2, 1) := by decide +kernel
theorem dX6_record_18 : decode cX6_record 18 = .ok (.sipush 5000, 3) := by decide +kernel
theorem dX6_record_21 : decode cX6_record 21 = .ok (.invokestatic 48, 3) := by decide +kernel
theorem dX6_record_24 : decode cX6_record 24 = .ok (.ifCond .eq 10, 3) := by decide +kernel
theorem dX6_record_27 : decode cX6_record 27 = .ok (.lload_n 3, 1) := by decide +kernel
theorem dX6_record_28 : decode cX6_record 28 = .ok (.invokestatic 65, 3) := by decide +kernel
theorem dX6_record_31 : decode cX6_record 31 = .ok (.ifCond .ne 9, 3) := by decide +kernel
theorem dX6_record_34 : decode cX6_record 34 = .ok (.aload_n 0, 1) := by decide +kernel
theorem dX6_record_35 : decode cX6_record 35 = .ok (.iconst 1, 1) := by decide +kernel
theorem dX6_record_36 : decode cX6_record 36 = .ok (.invokevirtual 69, 3) := by decide +kernel
theorem dX6_record_39 : decode cX6_record 39 = .ok (.ireturn, 1) := by decide +kernel
theorem dX6_record_40 : decode cX6_record 40 = .ok (.aload_n 0, 1) := by decide +kernel
theorem dX6_record_41 : decode cX6_record 41 = .ok (.iload_n 1, 1) := by decide +kernel
theorem dX6_record_42 : decode cX6_record 42 = .ok (.invokevirtual 73, 3) := by decide +kernel
theorem dX6_record_45 : decode cX6_record 45 = .ok (.aload_n 0, 1) := by decide +kernel
theorem dX6_record_46 : decode cX6_record 46 = .ok (.getfield 62, 3) := by decide +kernel
theorem dX6_record_49 : decode cX6_record 49 = .ok (.if_icmp .lt 12, 3) := by decide +kernel
theorem dX6_record_52 : decode cX6_record 52 = .ok (.aload_n 0, 1) := by decide +kernel
theorem dX6_record_53 : decode cX6_record 53 = .ok (.getfield 62, 3) := by decide +kernel
theorem dX6_record_56 : decode cX6_record 56 = .ok (.bipush 60, 2) := by decide +kernel
theorem dX6_record_58 : decode cX6_record 58 = .ok (.if_icmp .ne 9, 3) := by decide +kernel
theorem dX6_record_61 : decode cX6_record 61 = .ok (.aload_n 0, 1) := by decide +kernel
theorem dX6_record_62 : decode cX6_record 62 = .ok (.iconst 2, 1) := by decide +kernel
theorem dX6_record_63 : decode cX6_record 63 = .ok (.invokevirtual 69, 3) := by decide +kernel
theorem dX6_record_66 : decode cX6_record 66 = .ok (.ireturn, 1) := by decide +kernel
theorem dX6_record_67 : decode cX6_record 67 = .ok (.aload_n 0, 1) := by decide +kernel
theorem dX6_record_68 : decode cX6_record 68 = .ok (.getfield 62, 3) := by decide +kernel
theorem dX6_record_71 : decode cX6_record 71 = .ok (.istore 5, 2) := by decide +kernel
theorem dX6_record_73 : decode cX6_record 73 = .ok (.iload 5, 2) := by decide +kernel
theorem dX6_record_75 : decode cX6_record 75 = .ok (.ifCond .le 70, 3) := by decide +kernel
theorem dX6_record_78 : decode cX6_record 78 = .ok (.aload_n 0, 1) := by decide +kernel
theorem dX6_record_79 : decode cX6_record 79 = .ok (.getfield 20, 3) := by decide +kernel
theorem dX6_record_82 : decode cX6_record 82 = .ok (.iload 5, 2) := by decide +kernel
theorem dX6_record_84 : decode cX6_record 84 = .ok (.iconst 1, 1) := by decide +kernel
theorem dX6_record_85 : decode cX6_record 85 = .ok (.isub, 1) := by decide +kernel
theorem dX6_record_86 : decode cX6_record 86 = .ok (.iaload, 1) := by decide +kernel
theorem dX6_record_87 : decode cX6_record 87 = .ok (.iload_n 1, 1) := by decide +kernel
theorem dX6_record_88 : decode cX6_record 88 = .ok (.if_icmp .le 57, 3) := by decide +kernel
theorem dX6_record_91 : decode cX6_record 91 = .ok (.aload_n 0, 1) := by decide +kernel
theorem dX6_record_92 : decode cX6_record 92 = .ok (.getfield 20, 3) := by decide +kernel
theorem dX6_record_95 : decode cX6_record 95 = .ok (.iload 5, 2) := by decide +kernel
theorem dX6_record_97 : decode cX6_record 97 = .ok (.aload_n 0, 1) := by decide +kernel
theorem dX6_record_98 : decode cX6_record 98 = .ok (.getfield 20, 3) := by decide +kernel
theorem dX6_record_101 : decode cX6_record 101 = .ok (.iload 5, 2) := by decide +kernel
theorem dX6_record_103 : decode cX6_record 103 = .ok (.iconst 1, 1) := by decide +kernel
theorem dX6_record_104 : decode cX6_record 104 = .ok (.isub, 1) := by decide +kernel
theorem dX6_record_105 : decode cX6_record 105 = .ok (.iaload, 1) := by decide +kernel
theorem dX6_record_106 : decode cX6_record 106 = .ok (.iastore, 1) := by decide +kernel
theorem dX6_record_107 : decode cX6_record 107 = .ok (.aload_n 0, 1) := by decide +kernel
theorem dX6_record_108 : decode cX6_record 108 = .ok (.getfield 23, 3) := by decide +kernel
theorem dX6_record_111 : decode cX6_record 111 = .ok (.iload 5, 2) := by decide +kernel
theorem dX6_record_113 : decode cX6_record 113 = .ok (.aload_n 0, 1) := by decide +kernel
theorem dX6_record_114 : decode cX6_record 114 = .ok (.getfield 23, 3) := by decide +kernel
theorem dX6_record_117 : decode cX6_record 117 = .ok (.iload 5, 2) := by decide +kernel
theorem dX6_record_119 : decode cX6_record 119 = .ok (.iconst 1, 1) := by decide +kernel
theorem dX6_record_120 : decode cX6_record 120 = .ok (.isub, 1) := by decide +kernel
theorem dX6_record_121 : decode cX6_record 121 = .ok (.iaload, 1) := by decide +kernel
theorem dX6_record_122 : decode cX6_record 122 = .ok (.iastore, 1) := by decide +kernel
theorem dX6_record_123 : decode cX6_record 123 = .ok (.aload_n 0, 1) := by decide +kernel
theorem dX6_record_124 : decode cX6_record 124 = .ok (.getfield 26, 3) := by decide +kernel
theorem dX6_record_127 : decode cX6_record 127 = .ok (.iload 5, 2) := by decide +kernel
theorem dX6_record_129 : decode cX6_record 129 = .ok (.aload_n 0, 1) := by decide +kernel
theorem dX6_record_130 : decode cX6_record 130 = .ok (.getfield 26, 3) := by decide +kernel
theorem dX6_record_133 : decode cX6_record 133 = .ok (.iload 5, 2) := by decide +kernel
theorem dX6_record_135 : decode cX6_record 135 = .ok (.iconst 1, 1) := by decide +kernel
theorem dX6_record_136 : decode cX6_record 136 = .ok (.isub, 1) := by decide +kernel
theorem dX6_record_137 : decode cX6_record 137 = .ok (.laload, 1) := by decide +kernel
theorem dX6_record_138 : decode cX6_record 138 = .ok (.lastore, 1) := by decide +kernel
theorem dX6_record_139 : decode cX6_record 139 = .ok (.iinc 5 (-1), 3) := by decide +kernel
theorem dX6_record_142 : decode cX6_record 142 = .ok (.goto (-69), 3) := by decide +kernel
theorem dX6_record_145 : decode cX6_record 145 = .ok (.aload_n 0, 1) := by decide +kernel
theorem dX6_record_146 : decode cX6_record 146 = .ok (.getfield 20, 3) := by decide +kernel
theorem dX6_record_149 : decode cX6_record 149 = .ok (.iload 5, 2) := by decide +kernel
theorem dX6_record_151 : decode cX6_record 151 = .ok (.iload_n 1, 1) := by decide +kernel
theorem dX6_record_152 : decode cX6_record 152 = .ok (.iastore, 1) := by decide +kernel
theorem dX6_record_153 : decode cX6_record 153 = .ok (.aload_n 0, 1) := by decide +kernel
theorem dX6_record_154 : decode cX6_record 154 = .ok (.getfield 23, 3) := by decide +kernel
theorem dX6_record_157 : decode cX6_record 157 = .ok (.iload 5, 2) := by decide +kernel
theorem dX6_record_159 : decode cX6_record 159 = .ok (.iload_n 2, 1) := by decide +kernel
theorem dX6_record_160 : decode cX6_record 160 = .ok (.iastore, 1) := by decide +kernel
theorem dX6_record_161 : decode cX6_record 161 = .ok (.aload_n 0, 1) := by decide +kernel
theorem dX6_record_162 : decode cX6_record 162 = .ok (.getfield 26, 3) := by decide +kernel
theorem dX6_record_165 : decode cX6_record 165 = .ok (.iload 5, 2) := by decide +kernel
theorem dX6_record_167 : decode cX6_record 167 = .ok (.lload_n 3, 1) := by decide +kernel
theorem dX6_record_168 : decode cX6_record 168 = .ok (.lastore, 1) := by decide +kernel
theorem dX6_record_169 : decode cX6_record 169 = .ok (.aload_n 0, 1) := by decide +kernel
theorem dX6_record_170 : decode cX6_record 170 = .ok (.dup, 1) := by decide +kernel
theorem dX6_record_171 : decode cX6_record 171 = .ok (.getfield 62, 3) := by decide +kernel
theorem dX6_record_174 : decode cX6_record 174 = .ok (.iconst 1, 1) := by decide +kernel
theorem dX6_record_175 : decode cX6_record 175 = .ok (.iadd, 1) := by decide +kernel
theorem dX6_record_176 : decode cX6_record 176 = .ok (.putfield 62, 3) := by decide +kernel
theorem dX6_record_179 : decode cX6_record 179 = .ok (.aload_n 0, 1) := by decide +kernel
theorem dX6_record_180 : decode cX6_record 180 = .ok (.getfield 62, 3) := by decide +kernel
theorem dX6_record_183 : decode cX6_record 183 = .ok (.ireturn, 1) := by decide +kernel
set_option maxRecDepth 20000 in
theorem ggX6_correct_X6_areFindings : GoodIn wsX6_correct wsX6_areFindings := goodIn_r _ [7] (by decide +kernel) (by decide +kernel)
set_option maxRecDepth 20000 in
theorem gX6_correct_X6_areFindings : GoodIn wsX6_correct (va_wsS RX6 65 yX6_areFindings wsX6_areFindings) := goodIn_app (goodIn_of _ (by decide +kernel)) ggX6_correct_X6_areFindings
set_option maxRecDepth 20000 in
theorem ggX6_correct_X6_fails : GoodIn wsX6_correct wsX6_fails := goodIn_r _ [11, 1, 17, 18, 19, 20, 21, 22, 23, 24, 25, 26, 27, 28, 29, 30, 31, 32, 33, 34, 35] (by decide +kernel) (by decide +kernel)
set_option maxRecDepth 20000 in
theorem gX6_correct_X6_fails : GoodIn wsX6_correct (wsV RX6 69 RX6 yX6_fails wsX6_fails) := goodIn_app (goodIn_of _ (by decide +kernel)) ggX6_correct_X6_fails
set_option maxRecDepth 20000 in
theorem ggX6_correct_X6_place : GoodIn wsX6_correct wsX6_place := goodIn_r _ [15, 2, 16, 17, 18, 19, 20, 21, 22, 23, 24, 25, 26, 27, 28, 29, 30, 31, 32, 33, 34, 35] (by decide +kernel) (by decide +kernel)
set_option maxRecDepth 20000 in
theorem gX6_correct_X6_place : GoodIn wsX6_correct (wsV RX6 73 RX6 yX6_place wsX6_place) := goodIn_app (goodIn_of _ (by decide +kernel)) ggX6_correct_X6_place
theorem dX6_correct_0 : decode cX6_correct 0 = .ok (.aload_n 0, 1) := by decide +kernel
theorem dX6_correct_1 : decode cX6_correct 1 = .ok (.iconst 0, 1) := by decide +kernel
theorem dX6_correct_2 : decode cX6_correct 2 = .ok (.putfield 45, 3) := by decide +kernel
theorem dX6_correct_5 : decode cX6_correct 5 = .ok (.lload_n 2, 1) := by decide +kernel
theorem dX6_correct_6 : decode cX6_correct 6 = .ok (.invokestatic 65, 3) := by decide +kernel
theorem dX6_correct_9 : decode cX6_correct 9 = .ok (.ifCond .ne 10, 3) := by decide +kernel
theorem dX6_correct_12 : decode cX6_correct 12 = .ok (.aload_n 0, 1) := by decide +kernel
theorem dX6_correct_13 : decode cX6_correct 13 = .ok (.iconst 1, 1) := by decide +kernel
theorem dX6_correct_14 : decode cX6_correct 14 = .ok (.invokevirtual 69, 3) := by decide +kernel
theorem dX6_correct_17 : decode cX6_correct 17 = .ok (.i2l, 1) := by decide +kernel
theorem dX6_correct_18 : decode cX6_correct 18 = .ok (.lreturn, 1) := by decide +kernel
theorem dX6_correct_19 : decode cX6_correct 19 = .ok (.aload_n 0, 1) := by decide +kernel
theorem dX6_correct_20 : decode cX6_correct 20 = .ok (.iload_n 1, 1) := by decide +kernel
theorem dX6_correct_21 : decode cX6_correct 21 = .ok (.invokevirtual 73, 3) := by decide +kernel
theorem dX6_correct_24 : decode cX6_correct 24 = .ok (.istore 4, 2) := by decide +kernel
theorem dX6_correct_26 : decode cX6_correct 26 = .ok (.iload 4, 2) := by decide +kernel
theorem dX6_correct_28 : decode cX6_correct 28 = .ok (.aload_n 0, 1) := by decide +kernel
theorem dX6_correct_29 : decode cX6_correct 29 = .ok (.getfield 62, 3) := by decide +kernel
theorem dX6_correct_32 : decode cX6_correct 32 = .ok (.if_icmp .ne 10, 3) := by decide +kernel
theorem dX6_correct_35 : decode cX6_correct 35 = .ok (.aload_n 0, 1) := by decide +kernel
theorem dX6_correct_36 : decode cX6_correct 36 = .ok (.iconst 2, 1) := by decide +kernel
theorem dX6_correct_37 : decode cX6_correct 37 = .ok (.invokevirtual 69, 3) := by decide +kernel
theorem dX6_correct_40 : decode cX6_correct 40 = .ok (.i2l, 1) := by decide +kernel
theorem dX6_correct_41 : decode cX6_correct 41 = .ok (.lreturn, 1) := by decide +kernel
theorem dX6_correct_42 : decode cX6_correct 42 = .ok (.aload_n 0, 1) := by decide +kernel
theorem dX6_correct_43 : decode cX6_correct 43 = .ok (.getfield 26, 3) := by decide +kernel
theorem dX6_correct_46 : decode cX6_correct 46 = .ok (.iload 4, 2) := by decide +kernel
theorem dX6_correct_48 : decode cX6_correct 48 = .ok (.laload, 1) := by decide +kernel
theorem dX6_correct_49 : decode cX6_correct 49 = .ok (.lstore 5, 2) := by decide +kernel
theorem dX6_correct_51 : decode cX6_correct 51 = .ok (.aload_n 0, 1) := by decide +kernel
theorem dX6_correct_52 : decode cX6_correct 52 = .ok (.getfield 26, 3) := by decide +kernel
theorem dX6_correct_55 : decode cX6_correct 55 = .ok (.iload 4, 2) := by decide +kernel
theorem dX6_correct_57 : decode cX6_correct 57 = .ok (.lload_n 2, 1) := by decide +kernel
theorem dX6_correct_58 : decode cX6_correct 58 = .ok (.lastore, 1) := by decide +kernel
theorem dX6_correct_59 : decode cX6_correct 59 = .ok (.lload 5, 2) := by decide +kernel
theorem dX6_correct_61 : decode cX6_correct 61 = .ok (.lreturn, 1) := by decide +kernel
set_option maxRecDepth 20000 in
theorem ggX6_strike_X6_place : GoodIn wsX6_strike wsX6_place := goodIn_r _ [10, 1, 3, 11, 12, 13, 14, 15, 16, 17, 18, 19, 20, 21, 22, 23, 24, 25, 26, 27, 28, 29] (by decide +kernel) (by decide +kernel)
set_option maxRecDepth 20000 in
theorem gX6_strike_X6_place : GoodIn wsX6_strike (wsV RX6 73 RX6 yX6_place wsX6_place) := goodIn_app (goodIn_of _ (by decide +kernel)) ggX6_strike_X6_place
theorem dX6_strike_0 : decode cX6_strike 0 = .ok (.aload_n 0, 1) := by decide +kernel
theorem dX6_strike_1 : decode cX6_strike 1 = .ok (.iload_n 1, 1) := by decide +kernel
theorem dX6_strike_2 : decode cX6_strike 2 = .ok (.invokevirtual 73, 3) := by decide +kernel
theorem dX6_strike_5 : decode cX6_strike 5 = .ok (.istore_n 2, 1) := by decide +kernel
theorem dX6_strike_6 : decode cX6_strike 6 = .ok (.aload_n 0, 1) := by decide +kernel
theorem dX6_strike_7 : decode cX6_strike 7 = .ok (.iload_n 2, 1) := by decide +kernel
theorem dX6_strike_8 : decode cX6_strike 8 = .ok (.aload_n 0, 1) := by decide +kernel
theorem dX6_strike_9 : decode cX6_strike 9 = .ok (.getfield 62, 3) := by decide +kernel
theorem dX6_strike_12 : decode cX6_strike 12 = .ok (.if_icmp .ne 7, 3) := by decide +kernel
theorem dX6_strike_15 : decode cX6_strike 15 = .ok (.iconst 1, 1) := by decide +kernel
theorem dX6_strike_16 : decode cX6_strike 16 = .ok (.goto 4, 3) := by decide +kernel
theorem dX6_strike_19 : decode cX6_strike 19 = .ok (.iconst 0, 1) := by decide +kernel
theorem dX6_strike_20 : decode cX6_strike 20 = .ok (.putfield 45, 3) := by decide +kernel
theorem dX6_strike_23 : decode cX6_strike 23 = .ok (.aload_n 0, 1) := by decide +kernel
theorem dX6_strike_24 : decode cX6_strike 24 = .ok (.getfield 45, 3) := by decide +kernel
theorem dX6_strike_27 : decode cX6_strike 27 = .ok (.ifCond .le 5, 3) := by decide +kernel
theorem dX6_strike_30 : decode cX6_strike 30 = .ok (.iconst 0, 1) := by decide +kernel
theorem dX6_strike_31 : decode cX6_strike 31 = .ok (.ireturn, 1) := by decide +kernel
theorem dX6_strike_32 : decode cX6_strike 32 = .ok (.aload_n 0, 1) := by decide +kernel
theorem dX6_strike_33 : decode cX6_strike 33 = .ok (.dup, 1) := by decide +kernel
theorem dX6_strike_34 : decode cX6_strike 34 = .ok (.getfield 62, 3) := by decide +kernel
theorem dX6_strike_37 : decode cX6_strike 37 = .ok (.iconst 1, 1) := by decide +kernel
theorem dX6_strike_38 : decode cX6_strike 38 = .ok (.isub, 1) := by decide +kernel
theorem dX6_strike_39 : decode cX6_strike 39 = .ok (.putfield 62, 3) := by decide +kernel
theorem dX6_strike_42 : decode cX6_strike 42 = .ok (.iload_n 2, 1) := by decide +kernel
theorem dX6_strike_43 : decode cX6_strike 43 = .ok (.istore_n 3, 1) := by decide +kernel
theorem dX6_strike_44 : decode cX6_strike 44 = .ok (.iload_n 3, 1) := by decide +kernel
theorem dX6_strike_45 : decode cX6_strike 45 = .ok (.aload_n 0, 1) := by decide +kernel
theorem dX6_strike_46 : decode cX6_strike 46 = .ok (.getfield 62, 3) := by decide +kernel
theorem dX6_strike_49 : decode cX6_strike 49 = .ok (.if_icmp .ge 51, 3) := by decide +kernel
theorem dX6_strike_52 : decode cX6_strike 52 = .ok (.aload_n 0, 1) := by decide +kernel
theorem dX6_strike_53 : decode cX6_strike 53 = .ok (.getfield 20, 3) := by decide +kernel
theorem dX6_strike_56 : decode cX6_strike 56 = .ok (.iload_n 3, 1) := by decide +kernel
theorem dX6_strike_57 : decode cX6_strike 57 = .ok (.aload_n 0, 1) := by decide +kernel
theorem dX6_strike_58 : decode cX6_strike 58 = .ok (.getfield 20, 3) := by decide +kernel
theorem dX6_strike_61 : decode cX6_strike 61 = .ok (.iload_n 3, 1) := by decide +kernel
theorem dX6_strike_62 : decode cX6_strike 62 = .ok (.iconst 1, 1) := by decide +kernel
theorem dX6_strike_63 : decode cX6_strike 63 = .ok (.iadd, 1) := by decide +kernel
theorem dX6_strike_64 : decode cX6_strike 64 = .ok (.iaload, 1) := by decide +kernel
theorem dX6_strike_65 : decode cX6_strike 65 = .ok (.iastore, 1) := by decide +kernel
theorem dX6_strike_66 : decode cX6_strike 66 = .ok (.aload_n 0, 1) := by decide +kernel
theorem dX6_strike_67 : decode cX6_strike 67 = .ok (.getfield 23, 3) := by decide +kernel
theorem dX6_strike_70 : decode cX6_strike 70 = .ok (.iload_n 3, 1) := by decide +kernel
theorem dX6_strike_71 : decode cX6_strike 71 = .ok (.aload_n 0, 1) := by decide +kernel
theorem dX6_strike_72 : decode cX6_strike 72 = .ok (.getfield 23, 3) := by decide +kernel
theorem dX6_strike_75 : decode cX6_strike 75 = .ok (.iload_n 3, 1) := by decide +kernel
theorem dX6_strike_76 : decode cX6_strike 76 = .ok (.iconst 1, 1) := by decide +kernel
theorem dX6_strike_77 : decode cX6_strike 77 = .ok (.iadd, 1) := by decide +kernel
theorem dX6_strike_78 : decode cX6_strike 78 = .ok (.iaload, 1) := by decide +kernel
theorem dX6_strike_79 : decode cX6_strike 79 = .ok (.iastore, 1) := by decide +kernel
theorem dX6_strike_80 : decode cX6_strike 80 = .ok (.aload_n 0, 1) := by decide +kernel
theorem dX6_strike_81 : decode cX6_strike 81 = .ok (.getfield 26, 3) := by decide +kernel
theorem dX6_strike_84 : decode cX6_strike 84 = .ok (.iload_n 3, 1) := by decide +kernel
theorem dX6_strike_85 : decode cX6_strike 85 = .ok (.aload_n 0, 1) := by decide +kernel
theorem dX6_strike_86 : decode cX6_strike 86 = .ok (.getfield 26, 3) := by decide +kernel
theorem dX6_strike_89 : decode cX6_strike 89 = .ok (.iload_n 3, 1) := by decide +kernel
theorem dX6_strike_90 : decode cX6_strike 90 = .ok (.iconst 1, 1) := by decide +kernel
theorem dX6_strike_91 : decode cX6_strike 91 = .ok (.iadd, 1) := by decide +kernel
theorem dX6_strike_92 : decode cX6_strike 92 = .ok (.laload, 1) := by decide +kernel
theorem dX6_strike_93 : decode cX6_strike 93 = .ok (.lastore, 1) := by decide +kernel
theorem dX6_strike_94 : decode cX6_strike 94 = .ok (.iinc 3 1, 3) := by decide +kernel
theorem dX6_strike_97 : decode cX6_strike 97 = .ok (.goto (-53), 3) := by decide +kernel
theorem dX6_strike_100 : decode cX6_strike 100 = .ok (.aload_n 0, 1) := by decide +kernel
theorem dX6_strike_101 : decode cX6_strike 101 = .ok (.getfield 62, 3) := by decide +kernel
theorem dX6_strike_104 : decode cX6_strike 104 = .ok (.ireturn, 1) := by decide +kernel
theorem dX6_lots_0 : decode cX6_lots 0 = .ok (.aload_n 0, 1) := by decide +kernel
theorem dX6_lots_1 : decode cX6_lots 1 = .ok (.iconst 0, 1) := by decide +kernel
theorem dX6_lots_2 : decode cX6_lots 2 = .ok (.putfield 45, 3) := by decide +kernel
theorem dX6_lots_5 : decode cX6_lots 5 = .ok (.aload_n 0, 1) := by decide +kernel
theorem dX6_lots_6 : decode cX6_lots 6 = .ok (.getfield 62, 3) := by decide +kernel
theorem dX6_lots_9 : decode cX6_lots 9 = .ok (.ireturn, 1) := by decide +kernel
set_option maxRecDepth 20000 in
theorem ggX6_orderAt_X6_in : GoodIn wsX6_orderAt wsX6_in := goodIn_r _ [7] (by decide +kernel) (by decide +kernel)
set_option maxRecDepth 20000 in
theorem gX6_orderAt_X6_in : GoodIn wsX6_orderAt (va_wsS RX6 48 yX6_in wsX6_in) := goodIn_app (goodIn_of _ (by decide +kernel)) ggX6_orderAt_X6_in
theorem dX6_orderAt_0 : decode cX6_orderAt 0 = .ok (.aload_n 0, 1) := by decide +kernel
theorem dX6_orderAt_1 : decode cX6_orderAt 1 = .ok (.iload_n 1, 1) := by decide +kernel
theorem dX6_orderAt_2 : decode cX6_orderAt 2 = .ok (.iconst 0, 1) := by decide +kernel
theorem dX6_orderAt_3 : decode cX6_orderAt 3 = .ok (.aload_n 0, 1) := by decide +kernel
theorem dX6_orderAt_4 : decode cX6_orderAt 4 = .ok (.getfield 62, 3) := by decide +kernel
theorem dX6_orderAt_7 : decode cX6_orderAt 7 = .ok (.iconst 1, 1) := by decide +kernel
theorem dX6_orderAt_8 : decode cX6_orderAt 8 = .ok (.isub, 1) := by decide +kernel
theorem dX6_orderAt_9 : decode cX6_orderAt 9 = .ok (.invokestatic 48, 3) := by decide +kernel
theorem dX6_orderAt_12 : decode cX6_orderAt 12 = .ok (.ifCond .eq 7, 3) := by decide +kernel
theorem dX6_orderAt_15 : decode cX6_orderAt 15 = .ok (.iconst 0, 1) := by decide +kernel
theorem dX6_orderAt_16 : decode cX6_orderAt 16 = .ok (.goto 4, 3) := by decide +kernel
theorem dX6_orderAt_19 : decode cX6_orderAt 19 = .ok (.iconst 1, 1) := by decide +kernel
theorem dX6_orderAt_20 : decode cX6_orderAt 20 = .ok (.putfield 45, 3) := by decide +kernel
theorem dX6_orderAt_23 : decode cX6_orderAt 23 = .ok (.aload_n 0, 1) := by decide +kernel
theorem dX6_orderAt_24 : decode cX6_orderAt 24 = .ok (.getfield 45, 3) := by decide +kernel
theorem dX6_orderAt_27 : decode cX6_orderAt 27 = .ok (.ifCond .ne 12, 3) := by decide +kernel
theorem dX6_orderAt_30 : decode cX6_orderAt 30 = .ok (.aload_n 0, 1) := by decide +kernel
theorem dX6_orderAt_31 : decode cX6_orderAt 31 = .ok (.getfield 20, 3) := by decide +kernel
theorem dX6_orderAt_34 : decode cX6_orderAt 34 = .ok (.iload_n 1, 1) := by decide +kernel
theorem dX6_orderAt_35 : decode cX6_orderAt 35 = .ok (.iaload, 1) := by decide +kernel
theorem dX6_orderAt_36 : decode cX6_orderAt 36 = .ok (.goto 4, 3) := by decide +kernel
theorem dX6_orderAt_39 : decode cX6_orderAt 39 = .ok (.iconst 0, 1) := by decide +kernel
theorem dX6_orderAt_40 : decode cX6_orderAt 40 = .ok (.ireturn, 1) := by decide +kernel
theorem dX6_sizeOf_0 : decode cX6_sizeOf 0 = .ok (.iload_n 0, 1) := by decide +kernel
theorem dX6_sizeOf_1 : decode cX6_sizeOf 1 = .ok (.iconst 3, 1) := by decide +kernel
theorem dX6_sizeOf_2 : decode cX6_sizeOf 2 = .ok (.if_icmp .ge 16, 3) := by decide +kernel
theorem dX6_sizeOf_5 : decode cX6_sizeOf 5 = .ok (.iload_n 0, 1) := by decide +kernel
theorem dX6_sizeOf_6 : decode cX6_sizeOf 6 = .ok (.iconst 2, 1) := by decide +kernel
theorem dX6_sizeOf_7 : decode cX6_sizeOf 7 = .ok (.if_icmp .ge 9, 3) := by decide +kernel
theorem dX6_sizeOf_10 : decode cX6_sizeOf 10 = .ok (.iload_n 0, 1) := by decide +kernel
theorem dX6_sizeOf_11 : decode cX6_sizeOf 11 = .ok (.iconst 2, 1) := by decide +kernel
theorem dX6_sizeOf_12 : decode cX6_sizeOf 12 = .ok (.iadd, 1) := by decide +kernel
theorem dX6_sizeOf_13 : decode cX6_sizeOf 13 = .ok (.goto 4, 3) := by decide +kernel
theorem dX6_sizeOf_16 : decode cX6_sizeOf 16 = .ok (.iconst 5, 1) := by decide +kernel
theorem dX6_sizeOf_17 : decode cX6_sizeOf 17 = .ok (.ireturn, 1) := by decide +kernel
theorem dX6_sizeOf_18 : decode cX6_sizeOf 18 = .ok (.iload_n 0, 1) := by decide +kernel
theorem dX6_sizeOf_19 : decode cX6_sizeOf 19 = .ok (.iconst 3, 1) := by decide +kernel
theorem dX6_sizeOf_20 : decode cX6_sizeOf 20 = .ok (.if_icmp .ne 8, 3) := by decide +kernel
theorem dX6_sizeOf_23 : decode cX6_sizeOf 23 = .ok (.bipush 8, 2) := by decide +kernel
theorem dX6_sizeOf_25 : decode cX6_sizeOf 25 = .ok (.goto 36, 3) := by decide +kernel
theorem dX6_sizeOf_28 : decode cX6_sizeOf 28 = .ok (.iload_n 0, 1) := by decide +kernel
theorem dX6_sizeOf_29 : decode cX6_sizeOf 29 = .ok (.iconst 4, 1) := by decide +kernel
theorem dX6_sizeOf_30 : decode cX6_sizeOf 30 = .ok (.if_icmp .ne 8, 3) := by decide +kernel
theorem dX6_sizeOf_33 : decode cX6_sizeOf 33 = .ok (.bipush 13, 2) := by decide +kernel
theorem dX6_sizeOf_35 : decode cX6_sizeOf 35 = .ok (.goto 26, 3) := by decide +kernel
theorem dX6_sizeOf_38 : decode cX6_sizeOf 38 = .ok (.iload_n 0, 1) := by decide +kernel
theorem dX6_sizeOf_39 : decode cX6_sizeOf 39 = .ok (.iconst 5, 1) := by decide +kernel
theorem dX6_sizeOf_40 : decode cX6_sizeOf 40 = .ok (.if_icmp .ne 8, 3) := by decide +kernel
theorem dX6_sizeOf_43 : decode cX6_sizeOf 43 = .ok (.bipush 20, 2) := by decide +kernel
theorem dX6_sizeOf_45 : decode cX6_sizeOf 45 = .ok (.goto 16, 3) := by decide +kernel
theorem dX6_sizeOf_48 : decode cX6_sizeOf 48 = .ok (.iload_n 0, 1) := by decide +kernel
theorem dX6_sizeOf_49 : decode cX6_sizeOf 49 = .ok (.bipush 6, 2) := by decide +kernel
theorem dX6_sizeOf_51 : decode cX6_sizeOf 51 = .ok (.if_icmp .ne 8, 3) := by decide +kernel
theorem dX6_sizeOf_54 : decode cX6_sizeOf 54 = .ok (.bipush 32, 2) := by decide +kernel
theorem dX6_sizeOf_56 : decode cX6_sizeOf 56 = .ok (.goto 5, 3) := by decide +kernel
theorem dX6_sizeOf_59 : decode cX6_sizeOf 59 = .ok (.bipush 50, 2) := by decide +kernel
theorem dX6_sizeOf_61 : decode cX6_sizeOf 61 = .ok (.ireturn, 1) := by decide +kernel
set_option maxRecDepth 20000 in
theorem ggX6_letterOf_X6_sizeOf : GoodIn wsX6_letterOf wsX6_sizeOf := goodIn_r _ [5] (by decide +kernel) (by decide +kernel)
set_option maxRecDepth 20000 in
theorem gX6_letterOf_X6_sizeOf : GoodIn wsX6_letterOf (va_wsS RX6 76 yX6_sizeOf wsX6_sizeOf) := goodIn_app (goodIn_of _ (by decide +kernel)) ggX6_letterOf_X6_sizeOf
theorem dX6_letterOf_0 : decode cX6_letterOf 0 = .ok (.iload_n 1, 1) := by decide +kernel
theorem dX6_letterOf_1 : decode cX6_letterOf 1 = .ok (.bipush 8, 2) := by decide +kernel
theorem dX6_letterOf_3 : decode cX6_letterOf 3 = .ok (.if_icmp .gt 7, 3) := by decide +kernel
theorem dX6_letterOf_6 : decode cX6_letterOf 6 = .ok (.iconst 0, 1) := by decide +kernel
theorem dX6_letterOf_7 : decode cX6_letterOf 7 = .ok (.goto 46, 3) := by decide +kernel
theorem dX6_letterOf_10 : decode cX6_letterOf 10 = .ok (.iload_n 1, 1) := by decide +kernel
theorem dX6_letterOf_11 : decode cX6_letterOf 11 = .ok (.bipush 15, 2) := by decide +kernel
theorem dX6_letterOf_13 : decode cX6_letterOf 13 = .ok (.if_icmp .gt 7, 3) := by decide +kernel
theorem dX6_letterOf_16 : decode cX6_letterOf 16 = .ok (.iconst 1, 1) := by decide +kernel
theorem dX6_letterOf_17 : decode cX6_letterOf 17 = .ok (.goto 36, 3) := by decide +kernel
theorem dX6_letterOf_20 : decode cX6_letterOf 20 = .ok (.iload_n 1, 1) := by decide +kernel
theorem dX6_letterOf_21 : decode cX6_letterOf 21 = .ok (.bipush 50, 2) := by decide +kernel
theorem dX6_letterOf_23 : decode cX6_letterOf 23 = .ok (.if_icmp .gt 7, 3) := by decide +kernel
theorem dX6_letterOf_26 : decode cX6_letterOf 26 = .ok (.iconst 2, 1) := by decide +kernel
theorem dX6_letterOf_27 : decode cX6_letterOf 27 = .ok (.goto 26, 3) := by decide +kernel
theorem dX6_letterOf_30 : decode cX6_letterOf 30 = .ok (.iload_n 1, 1) := by decide +kernel
theorem dX6_letterOf_31 : decode cX6_letterOf 31 = .ok (.sipush 150, 3) := by decide +kernel
theorem dX6_letterOf_34 : decode cX6_letterOf 34 = .ok (.if_icmp .gt 7, 3) := by decide +kernel
theorem dX6_letterOf_37 : decode cX6_letterOf 37 = .ok (.iconst 3, 1) := by decide +kernel
theorem dX6_letterOf_38 : decode cX6_letterOf 38 = .ok (.goto 15, 3) := by decide +kernel
theorem dX6_letterOf_41 : decode cX6_letterOf 41 = .ok (.iload_n 1, 1) := by decide +kernel
theorem dX6_letterOf_42 : decode cX6_letterOf 42 = .ok (.sipush 500, 3) := by decide +kernel
theorem dX6_letterOf_45 : decode cX6_letterOf 45 = .ok (.if_icmp .gt 7, 3) := by decide +kernel
theorem dX6_letterOf_48 : decode cX6_letterOf 48 = .ok (.iconst 4, 1) := by decide +kernel
theorem dX6_letterOf_49 : decode cX6_letterOf 49 = .ok (.goto 4, 3) := by decide +kernel
theorem dX6_letterOf_52 : decode cX6_letterOf 52 = .ok (.iconst 5, 1) := by decide +kernel
theorem dX6_letterOf_53 : decode cX6_letterOf 53 = .ok (.istore_n 2, 1) := by decide +kernel
theorem dX6_letterOf_54 : decode cX6_letterOf 54 = .ok (.iload_n 2, 1) := by decide +kernel
theorem dX6_letterOf_55 : decode cX6_letterOf 55 = .ok (.aload_n 0, 1) := by decide +kernel
theorem dX6_letterOf_56 : decode cX6_letterOf 56 = .ok (.getfield 7, 3) := by decide +kernel
theorem dX6_letterOf_59 : decode cX6_letterOf 59 = .ok (.iadd, 1) := by decide +kernel
theorem dX6_letterOf_60 : decode cX6_letterOf 60 = .ok (.istore_n 3, 1) := by decide +kernel
theorem dX6_letterOf_61 : decode cX6_letterOf 61 = .ok (.iload_n 3, 1) := by decide +kernel
theorem dX6_letterOf_62 : decode cX6_letterOf 62 = .ok (.invokestatic 76, 3) := by decide +kernel
theorem dX6_letterOf_65 : decode cX6_letterOf 65 = .ok (.iload_n 1, 1) := by decide +kernel
theorem dX6_letterOf_66 : decode cX6_letterOf 66 = .ok (.if_icmp .le 9, 3) := by decide +kernel
theorem dX6_letterOf_69 : decode cX6_letterOf 69 = .ok (.iinc 3 (-1), 3) := by decide +kernel
theorem dX6_letterOf_72 : decode cX6_letterOf 72 = .ok (.goto (-11), 3) := by decide +kernel
theorem dX6_letterOf_75 : decode cX6_letterOf 75 = .ok (.iload_n 3, 1) := by decide +kernel
theorem dX6_letterOf_76 : decode cX6_letterOf 76 = .ok (.ireturn, 1) := by decide +kernel
set_option maxRecDepth 20000 in
theorem ggX6_sampleOf_X6_letterOf : GoodIn wsX6_sampleOf wsX6_letterOf := goodIn_r _ [5, 6, 7, 8, 4, 9, 10, 11, 12, 13, 14, 15, 16, 17, 18, 19, 20, 21, 22, 23, 24, 25, 26, 27, 28] (by decide +kernel) (by decide +kernel)
set_option maxRecDepth 20000 in
theorem gX6_sampleOf_X6_letterOf : GoodIn wsX6_sampleOf (wsV RX6 79 RX6 yX6_letterOf wsX6_letterOf) := goodIn_app (goodIn_of _ (by decide +kernel)) ggX6_sampleOf_X6_letterOf
set_option maxRecDepth 20000 in
theorem ggX6_sampleOf_X6_sizeOf : GoodIn wsX6_sampleOf wsX6_sizeOf := goodIn_r _ [9] (by decide +kernel) (by decide +kernel)
set_option maxRecDepth 20000 in
theorem gX6_sampleOf_X6_sizeOf : GoodIn wsX6_sampleOf (va_wsS RX6 76 yX6_sizeOf wsX6_sizeOf) := goodIn_app (goodIn_of _ (by decide +kernel)) ggX6_sampleOf_X6_sizeOf
theorem dX6_sampleOf_0 : decode cX6_sampleOf 0 = .ok (.aload_n 0, 1) := by decide +kernel
theorem dX6_sampleOf_1 : decode cX6_sampleOf 1 = .ok (.iload_n 1, 1) := by decide +kernel
theorem dX6_sampleOf_2 : decode cX6_sampleOf 2 = .ok (.invokevirtual 79, 3) := by decide +kernel
theorem dX6_sampleOf_5 : decode cX6_sampleOf 5 = .ok (.iload_n 2, 1) := by decide +kernel
theorem dX6_sampleOf_6 : decode cX6_sampleOf 6 = .ok (.iconst 2, 1) := by decide +kernel
theorem dX6_sampleOf_7 : decode cX6_sampleOf 7 = .ok (.if_icmp .ne 7, 3) := by decide +kernel
theorem dX6_sampleOf_10 : decode cX6_sampleOf 10 = .ok (.iconst 2, 1) := by decide +kernel
theorem dX6_sampleOf_11 : decode cX6_sampleOf 11 = .ok (.goto 4, 3) := by decide +kernel
theorem dX6_sampleOf_14 : decode cX6_sampleOf 14 = .ok (.iconst 0, 1) := by decide +kernel
theorem dX6_sampleOf_15 : decode cX6_sampleOf 15 = .ok (.isub, 1) := by decide +kernel
theorem dX6_sampleOf_16 : decode cX6_sampleOf 16 = .ok (.istore_n 3, 1) := by decide +kernel
theorem dX6_sampleOf_17 : decode cX6_sampleOf 17 = .ok (.iload_n 3, 1) := by decide +kernel
theorem dX6_sampleOf_18 : decode cX6_sampleOf 18 = .ok (.ifCond .ge 7, 3) := by decide +kernel
theorem dX6_sampleOf_21 : decode cX6_sampleOf 21 = .ok (.iconst 0, 1) := by decide +kernel
theorem dX6_sampleOf_22 : decode cX6_sampleOf 22 = .ok (.goto 4, 3) := by decide +kernel
theorem dX6_sampleOf_25 : decode cX6_sampleOf 25 = .ok (.iload_n 3, 1) := by decide +kernel
theorem dX6_sampleOf_26 : decode cX6_sampleOf 26 = .ok (.invokestatic 76, 3) := by decide +kernel
theorem dX6_sampleOf_29 : decode cX6_sampleOf 29 = .ok (.ireturn, 1) := by decide +kernel
set_option maxRecDepth 20000 in
theorem ggX6_acceptingOf_X6_letterOf : GoodIn wsX6_acceptingOf wsX6_letterOf := goodIn_r _ [6, 7, 8, 9, 5, 10, 11, 12, 13, 14, 15, 16, 17, 18, 19, 20, 21, 22, 23, 24, 25, 26, 27, 28, 29] (by decide +kernel) (by decide +kernel)
set_option maxRecDepth 20000 in
theorem gX6_acceptingOf_X6_letterOf : GoodIn wsX6_acceptingOf (wsV RX6 79 RX6 yX6_letterOf wsX6_letterOf) := goodIn_app (goodIn_of _ (by decide +kernel)) ggX6_acceptingOf_X6_letterOf
set_option maxRecDepth 20000 in
theorem ggX6_acceptingOf_X6_sizeOf : GoodIn wsX6_acceptingOf wsX6_sizeOf := goodIn_r _ [10] (by decide +kernel) (by decide +kernel)
set_option maxRecDepth 20000 in
theorem gX6_acceptingOf_X6_sizeOf : GoodIn wsX6_acceptingOf (va_wsS RX6 76 yX6_sizeOf wsX6_sizeOf) := goodIn_app (goodIn_of _ (by decide +kernel)) ggX6_acceptingOf_X6_sizeOf
theorem dX6_acceptingOf_0 : decode cX6_acceptingOf 0 = .ok (.aload_n 0, 1) := by decide +kernel
theorem dX6_acceptingOf_1 : decode cX6_acceptingOf 1 = .ok (.iload_n 1, 1) := by decide +kernel
theorem dX6_acceptingOf_2 : decode cX6_acceptingOf 2 = .ok (.invokevirtual 79, 3) := by decide +kernel
theorem dX6_acceptingOf_5 : decode cX6_acceptingOf 5 = .ok (.invokestatic 76, 3) := by decide +kernel
theorem dX6_acceptingOf_8 : decode cX6_acceptingOf 8 = .ok (.iconst 2, 1) := by decide +kernel
theorem dX6_acceptingOf_9 : decode cX6_acceptingOf 9 = .ok (.aload_n 0, 1) := by decide +kernel
theorem dX6_acceptingOf_10 : decode cX6_acceptingOf 10 = .ok (.getfield 13, 3) := by decide +kernel
theorem dX6_acceptingOf_13 : decode cX6_acceptingOf 13 = .ok (.imul, 1) := by decide +kernel
theorem dX6_acceptingOf_14 : decode cX6_acceptingOf 14 = .ok (.iconst 1, 1) := by decide +kernel
theorem dX6_acceptingOf_15 : decode cX6_acceptingOf 15 = .ok (.iadd, 1) := by decide +kernel
theorem dX6_acceptingOf_16 : decode cX6_acceptingOf 16 = .ok (.imul, 1) := by decide +kernel
theorem dX6_acceptingOf_17 : decode cX6_acceptingOf 17 = .ok (.bipush 40, 2) := by decide +kernel
theorem dX6_acceptingOf_19 : decode cX6_acceptingOf 19 = .ok (.idiv, 1) := by decide +kernel
theorem dX6_acceptingOf_20 : decode cX6_acceptingOf 20 = .ok (.istore_n 3, 1) := by decide +kernel
theorem dX6_acceptingOf_21 : decode cX6_acceptingOf 21 = .ok (.iload_n 2, 1) := by decide +kernel
theorem dX6_acceptingOf_22 : decode cX6_acceptingOf 22 = .ok (.ifCond .eq 7, 3) := by decide +kernel
theorem dX6_acceptingOf_25 : decode cX6_acceptingOf 25 = .ok (.iload_n 3, 1) := by decide +kernel
theorem dX6_acceptingOf_26 : decode cX6_acceptingOf 26 = .ok (.ifCond .ne 7, 3) := by decide +kernel
theorem dX6_acceptingOf_29 : decode cX6_acceptingOf 29 = .ok (.iload_n 3, 1) := by decide +kernel
theorem dX6_acceptingOf_30 : decode cX6_acceptingOf 30 = .ok (.goto 6, 3) := by decide +kernel
theorem dX6_acceptingOf_33 : decode cX6_acceptingOf 33 = .ok (.iload_n 3, 1) := by decide +kernel
theorem dX6_acceptingOf_34 : decode cX6_acceptingOf 34 = .ok (.iconst 1, 1) := by decide +kernel
theorem dX6_acceptingOf_35 : decode cX6_acceptingOf 35 = .ok (.isub, 1) := by decide +kernel
theorem dX6_acceptingOf_36 : decode cX6_acceptingOf 36 = .ok (.ireturn, 1) := by decide +kernel
theorem dX6_badAmong_0 : decode cX6_badAmong 0 = .ok (.iconst 0, 1) := by decide +kernel
theorem dX6_badAmong_1 : decode cX6_badAmong 1 = .ok (.istore_n 3, 1) := by decide +kernel
theorem dX6_badAmong_2 : decode cX6_badAmong 2 = .ok (.iconst 0, 1) := by decide +kernel
theorem dX6_badAmong_3 : decode cX6_badAmong 3 = .ok (.istore 4, 2) := by decide +kernel
theorem dX6_badAmong_5 : decode cX6_badAmong 5 = .ok (.iload 4, 2) := by decide +kernel
theorem dX6_badAmong_7 : decode cX6_badAmong 7 = .ok (.iload_n 2, 1) := by decide +kernel
theorem dX6_badAmong_8 : decode cX6_badAmong 8 = .ok (.if_icmp .ge 24, 3) := by decide +kernel
theorem dX6_badAmong_11 : decode cX6_badAmong 11 = .ok (.iload_n 3, 1) := by decide +kernel
theorem dX6_badAmong_12 : decode cX6_badAmong 12 = .ok (.aload_n 0, 1) := by decide +kernel
theorem dX6_badAmong_13 : decode cX6_badAmong 13 = .ok (.getfield 26, 3) := by decide +kernel
theorem dX6_badAmong_16 : decode cX6_badAmong 16 = .ok (.iload_n 1, 1) := by decide +kernel
theorem dX6_badAmong_17 : decode cX6_badAmong 17 = .ok (.laload, 1) := by decide +kernel
theorem dX6_badAmong_18 : decode cX6_badAmong 18 = .ok (.iload 4, 2) := by decide +kernel
theorem dX6_badAmong_20 : decode cX6_badAmong 20 = .ok (.lshr, 1) := by decide +kernel
theorem dX6_badAmong_21 : decode cX6_badAmong 21 = .ok (.lconst 1, 1) := by decide +kernel
theorem dX6_badAmong_22 : decode cX6_badAmong 22 = .ok (.land, 1) := by decide +kernel
theorem dX6_badAmong_23 : decode cX6_badAmong 23 = .ok (.l2i, 1) := by decide +kernel
theorem dX6_badAmong_24 : decode cX6_badAmong 24 = .ok (.iadd, 1) := by decide +kernel
theorem dX6_badAmong_25 : decode cX6_badAmong 25 = .ok (.istore_n 3, 1) := by decide +kernel
theorem dX6_badAmong_26 : decode cX6_badAmong 26 = .ok (.iinc 4 1, 3) := by decide +kernel
theorem dX6_badAmong_29 : decode cX6_badAmong 29 = .ok (.goto (-24), 3) := by decide +kernel
theorem dX6_badAmong_32 : decode cX6_badAmong 32 = .ok (.iload_n 3, 1) := by decide +kernel
theorem dX6_badAmong_33 : decode cX6_badAmong 33 = .ok (.ireturn, 1) := by decide +kernel
set_option maxRecDepth 20000 in
theorem ggX6_inspects_X6_sampleOf : GoodIn wsX6_inspects wsX6_sampleOf := goodIn_r _ [12, 13, 14, 15, 11, 16, 17, 18, 19, 20, 31, 32, 33, 34, 35, 36, 37, 38, 39, 40, 41, 42, 43, 44, 45, 46, 47, 48, 49] (by decide +kernel) (by decide +kernel)
set_option maxRecDepth 20000 in
theorem gX6_inspects_X6_sampleOf : GoodIn wsX6_inspects (wsV RX6 85 RX6 yX6_sampleOf wsX6_sampleOf) := goodIn_app (goodIn_of _ (by decide +kernel)) ggX6_inspects_X6_sampleOf
set_option maxRecDepth 20000 in
theorem ggX6_inspects_X6_acceptingOf : GoodIn wsX6_inspects wsX6_acceptingOf := goodIn_r _ [24, 25, 13, 14, 15, 11, 16, 17, 18, 19, 20, 31, 32, 33, 34, 35, 36, 37, 38, 39, 40, 41, 42, 43, 44, 45, 46, 47, 48, 49] (by decide +kernel) (by decide +kernel)
set_option maxRecDepth 20000 in
theorem gX6_inspects_X6_acceptingOf : GoodIn wsX6_inspects (wsV RX6 89 RX6 yX6_acceptingOf wsX6_acceptingOf) := goodIn_app (goodIn_of _ (by decide +kernel)) ggX6_inspects_X6_acceptingOf
set_option maxRecDepth 20000 in
theorem ggX6_inspects_X6_badAmong : GoodIn wsX6_inspects wsX6_badAmong := goodIn_r _ [29, 30, 31, 32, 33, 34, 35, 36, 37, 38, 39, 40, 41, 42, 43, 44, 45, 46, 47, 48, 49] (by decide +kernel) (by decide +kernel)
set_option maxRecDepth 20000 in
theorem gX6_inspects_X6_badAmong : GoodIn wsX6_inspects (wsV RX6 92 RX6 yX6_badAmong wsX6_badAmong) := goodIn_app (goodIn_of _ (by decide +kernel)) ggX6_inspects_X6_badAmong
theorem dX6_inspects_0 : decode cX6_inspects 0 = .ok (.aload_n 0, 1) := by decide +kernel
theorem dX6_inspects_1 : decode cX6_inspects 1 = .ok (.aload_n 0, 1) := by decide +kernel
theorem dX6_inspects_2 : decode cX6_inspects 2 = .ok (.getfield 23, 3) := by decide +kernel
theorem dX6_inspects_5 : decode cX6_inspects 5 = .ok (.iload_n 1, 1) := by decide +kernel
theorem dX6_inspects_6 : decode cX6_inspects 6 = .ok (.iaload, 1) := by decide +kernel
theorem dX6_inspects_7 : decode cX6_inspects 7 = .ok (.aload_n 0, 1) := by decide +kernel
theorem dX6_inspects_8 : decode cX6_inspects 8 = .ok (.getfield 82, 3) := by decide +kernel
theorem dX6_inspects_11 : decode cX6_inspects 11 = .ok (.invokevirtual 85, 3) := by decide +kernel
theorem dX6_inspects_14 : decode cX6_inspects 14 = .ok (.istore_n 2, 1) := by decide +kernel
theorem dX6_inspects_15 : decode cX6_inspects 15 = .ok (.aload_n 0, 1) := by decide +kernel
theorem dX6_inspects_16 : decode cX6_inspects 16 = .ok (.aload_n 0, 1) := by decide +kernel
theorem dX6_inspects_17 : decode cX6_inspects 17 = .ok (.getfield 23, 3) := by decide +kernel
theorem dX6_inspects_20 : decode cX6_inspects 20 = .ok (.iload_n 1, 1) := by decide +kernel
theorem dX6_inspects_21 : decode cX6_inspects 21 = .ok (.iaload, 1) := by decide +kernel
theorem dX6_inspects_22 : decode cX6_inspects 22 = .ok (.aload_n 0, 1) := by decide +kernel
theorem dX6_inspects_23 : decode cX6_inspects 23 = .ok (.getfield 82, 3) := by decide +kernel
theorem dX6_inspects_26 : decode cX6_inspects 26 = .ok (.invokevirtual 89, 3) := by decide +kernel
theorem dX6_inspects_29 : decode cX6_inspects 29 = .ok (.istore_n 3, 1) := by decide +kernel
theorem dX6_inspects_30 : decode cX6_inspects 30 = .ok (.aload_n 0, 1) := by decide +kernel
theorem dX6_inspects_31 : decode cX6_inspects 31 = .ok (.getfield 33, 3) := by decide +kernel
theorem dX6_inspects_34 : decode cX6_inspects 34 = .ok (.iload_n 1, 1) := by decide +kernel
theorem dX6_inspects_35 : decode cX6_inspects 35 = .ok (.aload_n 0, 1) := by decide +kernel
theorem dX6_inspects_36 : decode cX6_inspects 36 = .ok (.getfield 82, 3) := by decide +kernel
theorem dX6_inspects_39 : decode cX6_inspects 39 = .ok (.iastore, 1) := by decide +kernel
theorem dX6_inspects_40 : decode cX6_inspects 40 = .ok (.aload_n 0, 1) := by decide +kernel
theorem dX6_inspects_41 : decode cX6_inspects 41 = .ok (.getfield 36, 3) := by decide +kernel
theorem dX6_inspects_44 : decode cX6_inspects 44 = .ok (.iload_n 1, 1) := by decide +kernel
theorem dX6_inspects_45 : decode cX6_inspects 45 = .ok (.iload_n 2, 1) := by decide +kernel
theorem dX6_inspects_46 : decode cX6_inspects 46 = .ok (.iastore, 1) := by decide +kernel
theorem dX6_inspects_47 : decode cX6_inspects 47 = .ok (.aload_n 0, 1) := by decide +kernel
theorem dX6_inspects_48 : decode cX6_inspects 48 = .ok (.getfield 52, 3) := by decide +kernel
theorem dX6_inspects_51 : decode cX6_inspects 51 = .ok (.ifCond .eq 109, 3) := by decide +kernel
theorem dX6_inspects_54 : decode cX6_inspects 54 = .ok (.aload_n 0, 1) := by decide +kernel
theorem dX6_inspects_55 : decode cX6_inspects 55 = .ok (.getfield 82, 3) := by decide +kernel
theorem dX6_inspects_58 : decode cX6_inspects 58 = .ok (.iconst 2, 1) := by decide +kernel
theorem dX6_inspects_59 : decode cX6_inspects 59 = .ok (.if_icmp .eq 101, 3) := by decide +kernel
theorem dX6_inspects_62 : decode cX6_inspects 62 = .ok (.iload_n 2, 1) := by decide +kernel
theorem dX6_inspects_63 : decode cX6_inspects 63 = .ok (.iconst 5, 1) := by decide +kernel
theorem dX6_inspects_64 : decode cX6_inspects 64 = .ok (.if_icmp .lt 96, 3) := by decide +kernel
theorem dX6_inspects_67 : decode cX6_inspects 67 = .ok (.iload_n 2, 1) := by decide +kernel
theorem dX6_inspects_68 : decode cX6_inspects 68 = .ok (.iconst 2, 1) := by decide +kernel
theorem dX6_inspects_69 : decode cX6_inspects 69 = .ok (.imul, 1) := by decide +kernel
theorem dX6_inspects_70 : decode cX6_inspects 70 = .ok (.iconst 2, 1) := by decide +kernel
theorem dX6_inspects_71 : decode cX6_inspects 71 = .ok (.iadd, 1) := by decide +kernel
theorem dX6_inspects_72 : decode cX6_inspects 72 = .ok (.iconst 3, 1) := by decide +kernel
theorem dX6_inspects_73 : decode cX6_inspects 73 = .ok (.idiv, 1) := by decide +kernel
theorem dX6_inspects_74 : decode cX6_inspects 74 = .ok (.istore 4, 2) := by decide +kernel
theorem dX6_inspects_76 : decode cX6_inspects 76 = .ok (.aload_n 0, 1) := by decide +kernel
theorem dX6_inspects_77 : decode cX6_inspects 77 = .ok (.iload_n 1, 1) := by decide +kernel
theorem dX6_inspects_78 : decode cX6_inspects 78 = .ok (.iload 4, 2) := by decide +kernel
theorem dX6_inspects_80 : decode cX6_inspects 80 = .ok (.invokevirtual 92, 3) := by decide +kernel
theorem dX6_inspects_83 : decode cX6_inspects 83 = .ok (.istore 5, 2) := by decide +kernel
theorem dX6_inspects_85 : decode cX6_inspects 85 = .ok (.aload_n 0, 1) := by decide +kernel
theorem dX6_inspects_86 : decode cX6_inspects 86 = .ok (.getfield 36, 3) := by decide +kernel
theorem dX6_inspects_89 : decode cX6_inspects 89 = .ok (.iload_n 1, 1) := by decide +kernel
theorem dX6_inspects_90 : decode cX6_inspects 90 = .ok (.iload 4, 2) := by decide +kernel
theorem dX6_inspects_92 : decode cX6_inspects 92 = .ok (.iastore, 1) := by decide +kernel
theorem dX6_inspects_93 : decode cX6_inspects 93 = .ok (.iload 5, 2) := by decide +kernel
theorem dX6_inspects_95 : decode cX6_inspects 95 = .ok (.iload_n 3, 1) := by decide +kernel
theorem dX6_inspects_96 : decode cX6_inspects 96 = .ok (.if_icmp .gt 64, 3) := by decide +kernel
theorem dX6_inspects_99 : decode cX6_inspects 99 = .ok (.iload_n 3, 1) := by decide +kernel
theorem dX6_inspects_100 : decode cX6_inspects 100 = .ok (.iconst 2, 1) := by decide +kernel
theorem dX6_inspects_101 : decode cX6_inspects 101 = .ok (.if_icmp .lt 11, 3) := by decide +kernel
theorem dX6_inspects_104 : decode cX6_inspects 104 = .ok (.iload 5, 2) := by decide +kernel
theorem dX6_inspects_106 : decode cX6_inspects 106 = .ok (.iload_n 3, 1) := by decide +kernel
theorem dX6_inspects_107 : decode cX6_inspects 107 = .ok (.iconst 2, 1) := by decide +kernel
theorem dX6_inspects_108 : decode cX6_inspects 108 = .ok (.isub, 1) := by decide +kernel
theorem dX6_inspects_109 : decode cX6_inspects 109 = .ok (.if_icmp .le 51, 3) := by decide +kernel
theorem dX6_inspects_112 : decode cX6_inspects 112 = .ok (.iconst 2, 1) := by decide +kernel
theorem dX6_inspects_113 : decode cX6_inspects 113 = .ok (.iload 4, 2) := by decide +kernel
theorem dX6_inspects_115 : decode cX6_inspects 115 = .ok (.imul, 1) := by decide +kernel
theorem dX6_inspects_116 : decode cX6_inspects 116 = .ok (.aload_n 0, 1) := by decide +kernel
theorem dX6_inspects_117 : decode cX6_inspects 117 = .ok (.getfield 23, 3) := by decide +kernel
theorem dX6_inspects_120 : decode cX6_inspects 120 = .ok (.iload_n 1, 1) := by decide +kernel
theorem dX6_inspects_121 : decode cX6_inspects 121 = .ok (.iaload, 1) := by decide +kernel
theorem dX6_inspects_122 : decode cX6_inspects 122 = .ok (.if_icmp .ge 10, 3) := by decide +kernel
theorem dX6_inspects_125 : decode cX6_inspects 125 = .ok (.iconst 2, 1) := by decide +kernel
theorem dX6_inspects_126 : decode cX6_inspects 126 = .ok (.iload 4, 2) := by decide +kernel
theorem dX6_inspects_128 : decode cX6_inspects 128 = .ok (.imul, 1) := by decide +kernel
theorem dX6_inspects_129 : decode cX6_inspects 129 = .ok (.goto 9, 3) := by decide +kernel
theorem dX6_inspects_132 : decode cX6_inspects 132 = .ok (.aload_n 0, 1) := by decide +kernel
theorem dX6_inspects_133 : decode cX6_inspects 133 = .ok (.getfield 23, 3) := by decide +kernel
theorem dX6_inspects_136 : decode cX6_inspects 136 = .ok (.iload_n 1, 1) := by decide +kernel
theorem dX6_inspects_137 : decode cX6_inspects 137 = .ok (.iaload, 1) := by decide +kernel
theorem dX6_inspects_138 : decode cX6_inspects 138 = .ok (.istore 6, 2) := by decide +kernel
theorem dX6_inspects_140 : decode cX6_inspects 140 = .ok (.aload_n 0, 1) := by decide +kernel
theorem dX6_inspects_141 : decode cX6_inspects 141 = .ok (.getfield 36, 3) := by decide +kernel
theorem dX6_inspects_144 : decode cX6_inspects 144 = .ok (.iload_n 1, 1) := by decide +kernel
theorem dX6_inspects_145 : decode cX6_inspects 145 = .ok (.iload 6, 2) := by decide +kernel
theorem dX6_inspects_147 : decode cX6_inspects 147 = .ok (.bipush 50, 2) := by decide +kernel
theorem dX6_inspects_149 : decode cX6_inspects 149 = .ok (.if_icmp .ge 8, 3) := by decide +kernel
theorem dX6_inspects_152 : decode cX6_inspects 152 = .ok (.iload 6, 2) := by decide +kernel
theorem dX6_inspects_154 : decode cX6_inspects 154 = .ok (.goto 5, 3) := by decide +kernel
theorem dX6_inspects_157 : decode cX6_inspects 157 = .ok (.bipush 50, 2) := by decide +kernel
theorem dX6_inspects_159 : decode cX6_inspects 159 = .ok (.iastore, 1) := by decide +kernel
theorem dX6_inspects_160 : decode cX6_inspects 160 = .ok (.aload_n 0, 1) := by decide +kernel
theorem dX6_inspects_161 : decode cX6_inspects 161 = .ok (.getfield 39, 3) := by decide +kernel
theorem dX6_inspects_164 : decode cX6_inspects 164 = .ok (.iload_n 1, 1) := by decide +kernel
theorem dX6_inspects_165 : decode cX6_inspects 165 = .ok (.aload_n 0, 1) := by decide +kernel
theorem dX6_inspects_166 : decode cX6_inspects 166 = .ok (.iload_n 1, 1) := by decide +kernel
theorem dX6_inspects_167 : decode cX6_inspects 167 = .ok (.aload_n 0, 1) := by decide +kernel
theorem dX6_inspects_168 : decode cX6_inspects 168 = .ok (.getfield 36, 3) := by decide +kernel
theorem dX6_inspects_171 : decode cX6_inspects 171 = .ok (.iload_n 1, 1) := by decide +kernel
theorem dX6_inspects_172 : decode cX6_inspects 172 = .ok (.iaload, 1) := by decide +kernel
theorem dX6_inspects_173 : decode cX6_inspects 173 = .ok (.invokevirtual 92, 3) := by decide +kernel
theorem dX6_inspects_176 : decode cX6_inspects 176 = .ok (.iastore, 1) := by decide +kernel
theorem dX6_inspects_177 : decode cX6_inspects 177 = .ok (.aload_n 0, 1) := by decide +kernel
theorem dX6_inspects_178 : decode cX6_inspects 178 = .ok (.getfield 82, 3) := by decide +kernel
theorem dX6_inspects_181 : decode cX6_inspects 181 = .ok (.iconst 2, 1) := by decide +kernel
theorem dX6_inspects_182 : decode cX6_inspects 182 = .ok (.if_icmp .ne 17, 3) := by decide +kernel
theorem dX6_inspects_185 : decode cX6_inspects 185 = .ok (.aload_n 0, 1) := by decide +kernel
theorem dX6_inspects_186 : decode cX6_inspects 186 = .ok (.getfield 39, 3) := by decide +kernel
theorem dX6_inspects_189 : decode cX6_inspects 189 = .ok (.iload_n 1, 1) := by decide +kernel
theorem dX6_inspects_190 : decode cX6_inspects 190 = .ok (.iaload, 1) := by decide +kernel
theorem dX6_inspects_191 : decode cX6_inspects 191 = .ok (.iload_n 3, 1) := by decide +kernel
theorem dX6_inspects_192 : decode cX6_inspects 192 = .ok (.if_icmp .le 7, 3) := by decide +kernel
theorem dX6_inspects_195 : decode cX6_inspects 195 = .ok (.iconst 1, 1) := by decide +kernel
theorem dX6_inspects_196 : decode cX6_inspects 196 = .ok (.goto 4, 3) := by decide +kernel
theorem dX6_inspects_199 : decode cX6_inspects 199 = .ok (.iconst 0, 1) := by decide +kernel
theorem dX6_inspects_200 : decode cX6_inspects 200 = .ok (.istore 4, 2) := by decide +kernel
theorem dX6_inspects_202 : decode cX6_inspects 202 = .ok (.aload_n 0, 1) := by decide +kernel
theorem dX6_inspects_203 : decode cX6_inspects 203 = .ok (.getfield 30, 3) := by decide +kernel
theorem dX6_inspects_206 : decode cX6_inspects 206 = .ok (.iload_n 1, 1) := by decide +kernel
theorem dX6_inspects_207 : decode cX6_inspects 207 = .ok (.aload_n 0, 1) := by decide +kernel
theorem dX6_inspects_208 : decode cX6_inspects 208 = .ok (.getfield 39, 3) := by decide +kernel
theorem dX6_inspects_211 : decode cX6_inspects 211 = .ok (.iload_n 1, 1) := by decide +kernel
theorem dX6_inspects_212 : decode cX6_inspects 212 = .ok (.iaload, 1) := by decide +kernel
theorem dX6_inspects_213 : decode cX6_inspects 213 = .ok (.iload_n 3, 1) := by decide +kernel
theorem dX6_inspects_214 : decode cX6_inspects 214 = .ok (.if_icmp .le 23, 3) := by decide +kernel
theorem dX6_inspects_217 : decode cX6_inspects 217 = .ok (.aload_n 0, 1) := by decide +kernel
theorem dX6_inspects_218 : decode cX6_inspects 218 = .ok (.getfield 82, 3) := by decide +kernel
theorem dX6_inspects_221 : decode cX6_inspects 221 = .ok (.iconst 2, 1) := by decide +kernel
theorem dX6_inspects_222 : decode cX6_inspects 222 = .ok (.if_icmp .ne 19, 3) := by decide +kernel
theorem dX6_inspects_225 : decode cX6_inspects 225 = .ok (.aload_n 0, 1) := by decide +kernel
theorem dX6_inspects_226 : decode cX6_inspects 226 = .ok (.getfield 39, 3) := by decide +kernel
theorem dX6_inspects_229 : decode cX6_inspects 229 = .ok (.iload_n 1, 1) := by decide +kernel
theorem dX6_inspects_230 : decode cX6_inspects 230 = .ok (.iaload, 1) := by decide +kernel
theorem dX6_inspects_231 : decode cX6_inspects 231 = .ok (.iload_n 3, 1) := by decide +kernel
theorem dX6_inspects_232 : decode cX6_inspects 232 = .ok (.iconst 1, 1) := by decide +kernel
theorem dX6_inspects_233 : decode cX6_inspects 233 = .ok (.iadd, 1) := by decide +kernel
theorem dX6_inspects_234 : decode cX6_inspects 234 = .ok (.if_icmp .ne 7, 3) := by decide +kernel
theorem dX6_inspects_237 : decode cX6_inspects 237 = .ok (.iconst 1, 1) := by decide +kernel
theorem dX6_inspects_238 : decode cX6_inspects 238 = .ok (.goto 4, 3) := by decide +kernel
theorem dX6_inspects_241 : decode cX6_inspects 241 = .ok (.iconst 0, 1) := by decide +kernel
theorem dX6_inspects_242 : decode cX6_inspects 242 = .ok (.iastore, 1) := by decide +kernel
theorem dX6_inspects_243 : decode cX6_inspects 243 = .ok (.iload 4, 2) := by decide +kernel
theorem dX6_inspects_245 : decode cX6_inspects 245 = .ok (.ireturn, 1) := by decide +kernel
theorem dX6_refused_0 : decode cX6_refused 0 = .ok (.iconst 0, 1) := by decide +kernel
theorem dX6_refused_1 : decode cX6_refused 1 = .ok (.istore_n 2, 1) := by decide +kernel
theorem dX6_refused_2 : decode cX6_refused 2 = .ok (.aload_n 0, 1) := by decide +kernel
theorem dX6_refused_3 : decode cX6_refused 3 = .ok (.getfield 95, 3) := by decide +kernel
theorem dX6_refused_6 : decode cX6_refused 6 = .ok (.iconst 1, 1) := by decide +kernel
theorem dX6_refused_7 : decode cX6_refused 7 = .ok (.isub, 1) := by decide +kernel
theorem dX6_refused_8 : decode cX6_refused 8 = .ok (.istore_n 3, 1) := by decide +kernel
theorem dX6_refused_9 : decode cX6_refused 9 = .ok (.iload_n 3, 1) := by decide +kernel
theorem dX6_refused_10 : decode cX6_refused 10 = .ok (.ifCond .lt 41, 3) := by decide +kernel
theorem dX6_refused_13 : decode cX6_refused 13 = .ok (.iload_n 3, 1) := by decide +kernel
theorem dX6_refused_14 : decode cX6_refused 14 = .ok (.aload_n 0, 1) := by decide +kernel
theorem dX6_refused_15 : decode cX6_refused 15 = .ok (.getfield 95, 3) := by decide +kernel
theorem dX6_refused_18 : decode cX6_refused 18 = .ok (.iload_n 1, 1) := by decide +kernel
theorem dX6_refused_19 : decode cX6_refused 19 = .ok (.isub, 1) := by decide +kernel
theorem dX6_refused_20 : decode cX6_refused 20 = .ok (.if_icmp .lt 31, 3) := by decide +kernel
theorem dX6_refused_23 : decode cX6_refused 23 = .ok (.iload_n 2, 1) := by decide +kernel
theorem dX6_refused_24 : decode cX6_refused 24 = .ok (.aload_n 0, 1) := by decide +kernel
theorem dX6_refused_25 : decode cX6_refused 25 = .ok (.getfield 30, 3) := by decide +kernel
theorem dX6_refused_28 : decode cX6_refused 28 = .ok (.aload_n 0, 1) := by decide +kernel
theorem dX6_refused_29 : decode cX6_refused 29 = .ok (.getfield 42, 3) := by decide +kernel
theorem dX6_refused_32 : decode cX6_refused 32 = .ok (.iload_n 3, 1) := by decide +kernel
theorem dX6_refused_33 : decode cX6_refused 33 = .ok (.iaload, 1) := by decide +kernel
theorem dX6_refused_34 : decode cX6_refused 34 = .ok (.iaload, 1) := by decide +kernel
theorem dX6_refused_35 : decode cX6_refused 35 = .ok (.ifCond .ne 7, 3) := by decide +kernel
theorem dX6_refused_38 : decode cX6_refused 38 = .ok (.iconst 1, 1) := by decide +kernel
theorem dX6_refused_39 : decode cX6_refused 39 = .ok (.goto 4, 3) := by decide +kernel
theorem dX6_refused_42 : decode cX6_refused 42 = .ok (.iconst 0, 1) := by decide +kernel
theorem dX6_refused_43 : decode cX6_refused 43 = .ok (.iadd, 1) := by decide +kernel
theorem dX6_refused_44 : decode cX6_refused 44 = .ok (.istore_n 2, 1) := by decide +kernel
theorem dX6_refused_45 : decode cX6_refused 45 = .ok (.iinc 3 (-1), 3) := by decide +kernel
theorem dX6_refused_48 : decode cX6_refused 48 = .ok (.goto (-39), 3) := by decide +kernel
theorem dX6_refused_51 : decode cX6_refused 51 = .ok (.iload_n 2, 1) := by decide +kernel
theorem dX6_refused_52 : decode cX6_refused 52 = .ok (.ireturn, 1) := by decide +kernel
theorem dX6_badsOf_0 : decode cX6_badsOf 0 = .ok (.iconst 0, 1) := by decide +kernel
theorem dX6_badsOf_1 : decode cX6_badsOf 1 = .ok (.istore_n 2, 1) := by decide +kernel
theorem dX6_badsOf_2 : decode cX6_badsOf 2 = .ok (.aload_n 0, 1) := by decide +kernel
theorem dX6_badsOf_3 : decode cX6_badsOf 3 = .ok (.getfield 95, 3) := by decide +kernel
theorem dX6_badsOf_6 : decode cX6_badsOf 6 = .ok (.iconst 1, 1) := by decide +kernel
theorem dX6_badsOf_7 : decode cX6_badsOf 7 = .ok (.isub, 1) := by decide +kernel
theorem dX6_badsOf_8 : decode cX6_badsOf 8 = .ok (.istore_n 3, 1) := by decide +kernel
theorem dX6_badsOf_9 : decode cX6_badsOf 9 = .ok (.iload_n 3, 1) := by decide +kernel
theorem dX6_badsOf_10 : decode cX6_badsOf 10 = .ok (.ifCond .lt 33, 3) := by decide +kernel
theorem dX6_badsOf_13 : decode cX6_badsOf 13 = .ok (.iload_n 3, 1) := by decide +kernel
theorem dX6_badsOf_14 : decode cX6_badsOf 14 = .ok (.aload_n 0, 1) := by decide +kernel
theorem dX6_badsOf_15 : decode cX6_badsOf 15 = .ok (.getfield 95, 3) := by decide +kernel
theorem dX6_badsOf_18 : decode cX6_badsOf 18 = .ok (.iload_n 1, 1) := by decide +kernel
theorem dX6_badsOf_19 : decode cX6_badsOf 19 = .ok (.isub, 1) := by decide +kernel
theorem dX6_badsOf_20 : decode cX6_badsOf 20 = .ok (.if_icmp .lt 23, 3) := by decide +kernel
theorem dX6_badsOf_23 : decode cX6_badsOf 23 = .ok (.iload_n 2, 1) := by decide +kernel
theorem dX6_badsOf_24 : decode cX6_badsOf 24 = .ok (.aload_n 0, 1) := by decide +kernel
theorem dX6_badsOf_25 : decode cX6_badsOf 25 = .ok (.getfield 39, 3) := by decide +kernel
theorem dX6_badsOf_28 : decode cX6_badsOf 28 = .ok (.aload_n 0, 1) := by decide +kernel
theorem dX6_badsOf_29 : decode cX6_badsOf 29 = .ok (.getfield 42, 3) := by decide +kernel
theorem dX6_badsOf_32 : decode cX6_badsOf 32 = .ok (.iload_n 3, 1) := by decide +kernel
theorem dX6_badsOf_33 : decode cX6_badsOf 33 = .ok (.iaload, 1) := by decide +kernel
theorem dX6_badsOf_34 : decode cX6_badsOf 34 = .ok (.iaload, 1) := by decide +kernel
theorem dX6_badsOf_35 : decode cX6_badsOf 35 = .ok (.iadd, 1) := by decide +kernel
theorem dX6_badsOf_36 : decode cX6_badsOf 36 = .ok (.istore_n 2, 1) := by decide +kernel
theorem dX6_badsOf_37 : decode cX6_badsOf 37 = .ok (.iinc 3 (-1), 3) := by decide +kernel
theorem dX6_badsOf_40 : decode cX6_badsOf 40 = .ok (.goto (-31), 3) := by decide +kernel
theorem dX6_badsOf_43 : decode cX6_badsOf 43 = .ok (.iload_n 2, 1) := by decide +kernel
theorem dX6_badsOf_44 : decode cX6_badsOf 44 = .ok (.ireturn, 1) := by decide +kernel
set_option maxRecDepth 20000 in
theorem ggX6_behind_X6_refused : GoodIn wsX6_behind wsX6_refused := goodIn_r _ [8, 3, 9, 10, 16, 17, 18, 19, 20, 21, 22, 23, 24, 25, 26, 27, 28, 29, 30, 31, 32, 33, 34] (by decide +kernel) (by decide +kernel)
set_option maxRecDepth 20000 in
theorem gX6_behind_X6_refused : GoodIn wsX6_behind (wsV RX6 98 RX6 yX6_refused wsX6_refused) := goodIn_app (goodIn_of _ (by decide +kernel)) ggX6_behind_X6_refused
set_option maxRecDepth 20000 in
theorem ggX6_behind_X6_badsOf : GoodIn wsX6_behind wsX6_badsOf := goodIn_r _ [14, 3, 15, 10, 16, 17, 18, 19, 20, 21, 22, 23, 24, 25, 26, 27, 28, 29, 30, 31, 32, 33, 34] (by decide +kernel) (by decide +kernel)
set_option maxRecDepth 20000 in
theorem gX6_behind_X6_badsOf : GoodIn wsX6_behind (wsV RX6 101 RX6 yX6_badsOf wsX6_badsOf) := goodIn_app (goodIn_of _ (by decide +kernel)) ggX6_behind_X6_badsOf
theorem dX6_behind_0 : decode cX6_behind 0 = .ok (.aload_n 0, 1) := by decide +kernel
theorem dX6_behind_1 : decode cX6_behind 1 = .ok (.getfield 82, 3) := by decide +kernel
theorem dX6_behind_4 : decode cX6_behind 4 = .ok (.ifCond .ne 55, 3) := by decide +kernel
theorem dX6_behind_7 : decode cX6_behind 7 = .ok (.aload_n 0, 1) := by decide +kernel
theorem dX6_behind_8 : decode cX6_behind 8 = .ok (.iconst 5, 1) := by decide +kernel
theorem dX6_behind_9 : decode cX6_behind 9 = .ok (.invokevirtual 98, 3) := by decide +kernel
theorem dX6_behind_12 : decode cX6_behind 12 = .ok (.iconst 2, 1) := by decide +kernel
theorem dX6_behind_13 : decode cX6_behind 13 = .ok (.if_icmp .lt 5, 3) := by decide +kernel
theorem dX6_behind_16 : decode cX6_behind 16 = .ok (.iconst 1, 1) := by decide +kernel
theorem dX6_behind_17 : decode cX6_behind 17 = .ok (.ireturn, 1) := by decide +kernel
theorem dX6_behind_18 : decode cX6_behind 18 = .ok (.aload_n 0, 1) := by decide +kernel
theorem dX6_behind_19 : decode cX6_behind 19 = .ok (.getfield 56, 3) := by decide +kernel
theorem dX6_behind_22 : decode cX6_behind 22 = .ok (.ifCond .eq 35, 3) := by decide +kernel
theorem dX6_behind_25 : decode cX6_behind 25 = .ok (.aload_n 0, 1) := by decide +kernel
theorem dX6_behind_26 : decode cX6_behind 26 = .ok (.getfield 95, 3) := by decide +kernel
theorem dX6_behind_29 : decode cX6_behind 29 = .ok (.bipush 10, 2) := by decide +kernel
theorem dX6_behind_31 : decode cX6_behind 31 = .ok (.if_icmp .lt 26, 3) := by decide +kernel
theorem dX6_behind_34 : decode cX6_behind 34 = .ok (.aload_n 0, 1) := by decide +kernel
theorem dX6_behind_35 : decode cX6_behind 35 = .ok (.bipush 10, 2) := by decide +kernel
theorem dX6_behind_37 : decode cX6_behind 37 = .ok (.invokevirtual 98, 3) := by decide +kernel
theorem dX6_behind_40 : decode cX6_behind 40 = .ok (.ifCond .ne 17, 3) := by decide +kernel
theorem dX6_behind_43 : decode cX6_behind 43 = .ok (.aload_n 0, 1) := by decide +kernel
theorem dX6_behind_44 : decode cX6_behind 44 = .ok (.bipush 10, 2) := by decide +kernel
theorem dX6_behind_46 : decode cX6_behind 46 = .ok (.invokevirtual 101, 3) := by decide +kernel
theorem dX6_behind_49 : decode cX6_behind 49 = .ok (.iconst 4, 1) := by decide +kernel
theorem dX6_behind_50 : decode cX6_behind 50 = .ok (.if_icmp .gt 7, 3) := by decide +kernel
theorem dX6_behind_53 : decode cX6_behind 53 = .ok (.iconst 2, 1) := by decide +kernel
theorem dX6_behind_54 : decode cX6_behind 54 = .ok (.goto 4, 3) := by decide +kernel
theorem dX6_behind_57 : decode cX6_behind 57 = .ok (.iconst 0, 1) := by decide +kernel
theorem dX6_behind_58 : decode cX6_behind 58 = .ok (.ireturn, 1) := by decide +kernel
theorem dX6_behind_59 : decode cX6_behind 59 = .ok (.aload_n 0, 1) := by decide +kernel
theorem dX6_behind_60 : decode cX6_behind 60 = .ok (.getfield 82, 3) := by decide +kernel
theorem dX6_behind_63 : decode cX6_behind 63 = .ok (.iconst 1, 1) := by decide +kernel
theorem dX6_behind_64 : decode cX6_behind 64 = .ok (.if_icmp .ne 37, 3) := by decide +kernel
theorem dX6_behind_67 : decode cX6_behind 67 = .ok (.aload_n 0, 1) := by decide +kernel
theorem dX6_behind_68 : decode cX6_behind 68 = .ok (.bipush 60, 2) := by decide +kernel
theorem dX6_behind_70 : decode cX6_behind 70 = .ok (.invokevirtual 98, 3) := by decide +kernel
theorem dX6_behind_73 : decode cX6_behind 73 = .ok (.iconst 5, 1) := by decide +kernel
theorem dX6_behind_74 : decode cX6_behind 74 = .ok (.if_icmp .lt 5, 3) := by decide +kernel
theorem dX6_behind_77 : decode cX6_behind 77 = .ok (.iconst 3, 1) := by decide +kernel
theorem dX6_behind_78 : decode cX6_behind 78 = .ok (.ireturn, 1) := by decide +kernel
theorem dX6_behind_79 : decode cX6_behind 79 = .ok (.aload_n 0, 1) := by decide +kernel
theorem dX6_behind_80 : decode cX6_behind 80 = .ok (.getfield 95, 3) := by decide +kernel
theorem dX6_behind_83 : decode cX6_behind 83 = .ok (.iconst 5, 1) := by decide +kernel
theorem dX6_behind_84 : decode cX6_behind 84 = .ok (.if_icmp .lt 15, 3) := by decide +kernel
theorem dX6_behind_87 : decode cX6_behind 87 = .ok (.aload_n 0, 1) := by decide +kernel
theorem dX6_behind_88 : decode cX6_behind 88 = .ok (.iconst 5, 1) := by decide +kernel
theorem dX6_behind_89 : decode cX6_behind 89 = .ok (.invokevirtual 98, 3) := by decide +kernel
theorem dX6_behind_92 : decode cX6_behind 92 = .ok (.ifCond .ne 7, 3) := by decide +kernel
theorem dX6_behind_95 : decode cX6_behind 95 = .ok (.iconst 0, 1) := by decide +kernel
theorem dX6_behind_96 : decode cX6_behind 96 = .ok (.goto 4, 3) := by decide +kernel
theorem dX6_behind_99 : decode cX6_behind 99 = .ok (.iconst 1, 1) := by decide +kernel
theorem dX6_behind_100 : decode cX6_behind 100 = .ok (.ireturn, 1) := by decide +kernel
theorem dX6_behind_101 : decode cX6_behind 101 = .ok (.iload_n 1, 1) := by decide +kernel
theorem dX6_behind_102 : decode cX6_behind 102 = .ok (.ifCond .eq 7, 3) := by decide +kernel
theorem dX6_behind_105 : decode cX6_behind 105 = .ok (.iconst 0, 1) := by decide +kernel
theorem dX6_behind_106 : decode cX6_behind 106 = .ok (.goto 4, 3) := by decide +kernel
theorem dX6_behind_109 : decode cX6_behind 109 = .ok (.iconst 2, 1) := by decide +kernel
theorem dX6_behind_110 : decode cX6_behind 110 = .ok (.ireturn, 1) := by decide +kernel
theorem dX6_isMarked_0 : decode cX6_isMarked 0 = .ok (.iconst 0, 1) := by decide +kernel
theorem dX6_isMarked_1 : decode cX6_isMarked 1 = .ok (.istore_n 3, 1) := by decide +kernel
theorem dX6_isMarked_2 : decode cX6_isMarked 2 = .ok (.iload_n 1, 1) := by decide +kernel
theorem dX6_isMarked_3 : decode cX6_isMarked 3 = .ok (.istore 4, 2) := by decide +kernel
theorem dX6_isMarked_5 : decode cX6_isMarked 5 = .ok (.iload 4, 2) := by decide +kernel
theorem dX6_isMarked_7 : decode cX6_isMarked 7 = .ok (.iload_n 2, 1) := by decide +kernel
theorem dX6_isMarked_8 : decode cX6_isMarked 8 = .ok (.if_icmp .gt 30, 3) := by decide +kernel
theorem dX6_isMarked_11 : decode cX6_isMarked 11 = .ok (.iload_n 3, 1) := by decide +kernel
theorem dX6_isMarked_12 : decode cX6_isMarked 12 = .ok (.ifCond .ne 14, 3) := by decide +kernel
theorem dX6_isMarked_15 : decode cX6_isMarked 15 = .ok (.aload_n 0, 1) := by decide +kernel
theorem dX6_isMarked_16 : decode cX6_isMarked 16 = .ok (.getfield 16, 3) := by decide +kernel
theorem dX6_isMarked_19 : decode cX6_isMarked 19 = .ok (.iload 4, 2) := by decide +kernel
theorem dX6_isMarked_21 : decode cX6_isMarked 21 = .ok (.iaload, 1) := by decide +kernel
theorem dX6_isMarked_22 : decode cX6_isMarked 22 = .ok (.iconst 1, 1) := by decide +kernel
theorem dX6_isMarked_23 : decode cX6_isMarked 23 = .ok (.if_icmp .ne 7, 3) := by decide +kernel
theorem dX6_isMarked_26 : decode cX6_isMarked 26 = .ok (.iconst 1, 1) := by decide +kernel
theorem dX6_isMarked_27 : decode cX6_isMarked 27 = .ok (.goto 4, 3) := by decide +kernel
theorem dX6_isMarked_30 : decode cX6_isMarked 30 = .ok (.iconst 0, 1) := by decide +kernel
theorem dX6_isMarked_31 : decode cX6_isMarked 31 = .ok (.istore_n 3, 1) := by decide +kernel
theorem dX6_isMarked_32 : decode cX6_isMarked 32 = .ok (.iinc 4 1, 3) := by decide +kernel
theorem dX6_isMarked_35 : decode cX6_isMarked 35 = .ok (.goto (-30), 3) := by decide +kernel
theorem dX6_isMarked_38 : decode cX6_isMarked 38 = .ok (.iload_n 3, 1) := by decide +kernel
theorem dX6_isMarked_39 : decode cX6_isMarked 39 = .ok (.ireturn, 1) := by decide +kernel
set_option maxRecDepth 20000 in
theorem ggX6_goesThrough_X6_isMarked : GoodIn wsX6_goesThrough wsX6_isMarked := goodIn_r _ [16, 17, 59, 60, 61, 62, 63, 64, 65, 66, 67, 68, 69, 70, 71, 72, 73, 74, 75, 76, 77] (by decide +kernel) (by decide +kernel)
set_option maxRecDepth 20000 in
theorem gX6_goesThrough_X6_isMarked : GoodIn wsX6_goesThrough (wsV RX6 107 RX6 yX6_isMarked wsX6_isMarked) := goodIn_app (goodIn_of _ (by decide +kernel)) ggX6_goesThrough_X6_isMarked
set_option maxRecDepth 20000 in
theorem ggX6_goesThrough_X6_inspects : GoodIn wsX6_goesThrough wsX6_inspects := goodIn_r _ [21, 22, 1, 8, 9, 23, 10, 7, 24, 25, 26, 15, 27, 28, 29, 30, 31, 32, 33, 34, 35, 36, 37, 38, 39, 40, 41, 42, 43, 44, 45, 59, 60, 61, 62, 63, 64, 65, 66, 67, 68, 69, 70, 71, 72, 73, 74, 75, 76, 77] (by decide +kernel) (by decide +kernel)
set_option maxRecDepth 20000 in
theorem gX6_goesThrough_X6_inspects : GoodIn wsX6_goesThrough (wsV RX6 111 RX6 yX6_inspects wsX6_inspects) := goodIn_app (goodIn_of _ (by decide +kernel)) ggX6_goesThrough_X6_inspects
set_option maxRecDepth 20000 in
theorem ggX6_goesThrough_X6_behind : GoodIn wsX6_goesThrough wsX6_behind := goodIn_r _ [49, 1, 50, 3, 51, 52, 53, 15, 54, 7, 11, 55, 56, 57, 58, 10, 59, 60, 61, 62, 63, 64, 65, 66, 67, 68, 69, 70, 71, 72, 73, 74, 75, 76, 77] (by decide +kernel) (by decide +kernel)
set_option maxRecDepth 20000 in
theorem gX6_goesThrough_X6_behind : GoodIn wsX6_goesThrough (wsV RX6 115 RX6 yX6_behind wsX6_behind) := goodIn_app (goodIn_of _ (by decide +kernel)) ggX6_goesThrough_X6_behind
theorem dX6_goesThrough_0 : decode cX6_goesThrough 0 = .ok (.aload_n 0, 1) := by decide +kernel
theorem dX6_goesThrough_1 : decode cX6_goesThrough 1 = .ok (.iconst 0, 1) := by decide +kernel
theorem dX6_goesThrough_2 : decode cX6_goesThrough 2 = .ok (.putfield 82, 3) := by decide +kernel
theorem dX6_goesThrough_5 : decode cX6_goesThrough 5 = .ok (.aload_n 0, 1) := by decide +kernel
theorem dX6_goesThrough_6 : decode cX6_goesThrough 6 = .ok (.iconst 0, 1) := by decide +kernel
theorem dX6_goesThrough_7 : decode cX6_goesThrough 7 = .ok (.putfield 104, 3) := by decide +kernel
theorem dX6_goesThrough_10 : decode cX6_goesThrough 10 = .ok (.aload_n 0, 1) := by decide +kernel
theorem dX6_goesThrough_11 : decode cX6_goesThrough 11 = .ok (.iconst 0, 1) := by decide +kernel
theorem dX6_goesThrough_12 : decode cX6_goesThrough 12 = .ok (.putfield 95, 3) := by decide +kernel
theorem dX6_goesThrough_15 : decode cX6_goesThrough 15 = .ok (.iconst (-1), 1) := by decide +kernel
theorem dX6_goesThrough_16 : decode cX6_goesThrough 16 = .ok (.istore_n 1, 1) := by decide +kernel
theorem dX6_goesThrough_17 : decode cX6_goesThrough 17 = .ok (.iconst 0, 1) := by decide +kernel
theorem dX6_goesThrough_18 : decode cX6_goesThrough 18 = .ok (.istore_n 2, 1) := by decide +kernel
theorem dX6_goesThrough_19 : decode cX6_goesThrough 19 = .ok (.iconst 0, 1) := by decide +kernel
theorem dX6_goesThrough_20 : decode cX6_goesThrough 20 = .ok (.istore_n 3, 1) := by decide +kernel
theorem dX6_goesThrough_21 : decode cX6_goesThrough 21 = .ok (.iconst 0, 1) := by decide +kernel
theorem dX6_goesThrough_22 : decode cX6_goesThrough 22 = .ok (.istore 4, 2) := by decide +kernel
theorem dX6_goesThrough_24 : decode cX6_goesThrough 24 = .ok (.iload 4, 2) := by decide +kernel
theorem dX6_goesThrough_26 : decode cX6_goesThrough 26 = .ok (.aload_n 0, 1) := by decide +kernel
theorem dX6_goesThrough_27 : decode cX6_goesThrough 27 = .ok (.getfield 62, 3) := by decide +kernel
theorem dX6_goesThrough_30 : decode cX6_goesThrough 30 = .ok (.if_icmp .ge 320, 3) := by decide +kernel
theorem dX6_goesThrough_33 : decode cX6_goesThrough 33 = .ok (.aload_n 0, 1) := by decide +kernel
theorem dX6_goesThrough_34 : decode cX6_goesThrough 34 = .ok (.getfield 82, 3) := by decide +kernel
theorem dX6_goesThrough_37 : decode cX6_goesThrough 37 = .ok (.iconst 3, 1) := by decide +kernel
theorem dX6_goesThrough_38 : decode cX6_goesThrough 38 = .ok (.if_icmp .ne 30, 3) := by decide +kernel
theorem dX6_goesThrough_41 : decode cX6_goesThrough 41 = .ok (.aload_n 0, 1) := by decide +kernel
theorem dX6_goesThrough_42 : decode cX6_goesThrough 42 = .ok (.iload_n 1, 1) := by decide +kernel
theorem dX6_goesThrough_43 : decode cX6_goesThrough 43 = .ok (.iconst 1, 1) := by decide +kernel
theorem dX6_goesThrough_44 : decode cX6_goesThrough 44 = .ok (.iadd, 1) := by decide +kernel
theorem dX6_goesThrough_45 : decode cX6_goesThrough 45 = .ok (.aload_n 0, 1) := by decide +kernel
theorem dX6_goesThrough_46 : decode cX6_goesThrough 46 = .ok (.getfield 20, 3) := by decide +kernel
theorem dX6_goesThrough_49 : decode cX6_goesThrough 49 = .ok (.iload 4, 2) := by decide +kernel
theorem dX6_goesThrough_51 : decode cX6_goesThrough 51 = .ok (.iaload, 1) := by decide +kernel
theorem dX6_goesThrough_52 : decode cX6_goesThrough 52 = .ok (.invokevirtual 107, 3) := by decide +kernel
theorem dX6_goesThrough_55 : decode cX6_goesThrough 55 = .ok (.ifCond .eq 13, 3) := by decide +kernel
theorem dX6_goesThrough_58 : decode cX6_goesThrough 58 = .ok (.aload_n 0, 1) := by decide +kernel
theorem dX6_goesThrough_59 : decode cX6_goesThrough 59 = .ok (.iconst 1, 1) := by decide +kernel
theorem dX6_goesThrough_60 : decode cX6_goesThrough 60 = .ok (.putfield 82, 3) := by decide +kernel
theorem dX6_goesThrough_63 : decode cX6_goesThrough 63 = .ok (.aload_n 0, 1) := by decide +kernel
theorem dX6_goesThrough_64 : decode cX6_goesThrough 64 = .ok (.iconst 0, 1) := by decide +kernel
theorem dX6_goesThrough_65 : decode cX6_goesThrough 65 = .ok (.putfield 95, 3) := by decide +kernel
theorem dX6_goesThrough_68 : decode cX6_goesThrough 68 = .ok (.iload_n 3, 1) := by decide +kernel
theorem dX6_goesThrough_69 : decode cX6_goesThrough 69 = .ok (.aload_n 0, 1) := by decide +kernel
theorem dX6_goesThrough_70 : decode cX6_goesThrough 70 = .ok (.getfield 104, 3) := by decide +kernel
theorem dX6_goesThrough_73 : decode cX6_goesThrough 73 = .ok (.ifCond .eq 7, 3) := by decide +kernel
theorem dX6_goesThrough_76 : decode cX6_goesThrough 76 = .ok (.iconst 1, 1) := by decide +kernel
theorem dX6_goesThrough_77 : decode cX6_goesThrough 77 = .ok (.goto 4, 3) := by decide +kernel
theorem dX6_goesThrough_80 : decode cX6_goesThrough 80 = .ok (.iconst 0, 1) := by decide +kernel
theorem dX6_goesThrough_81 : decode cX6_goesThrough 81 = .ok (.iadd, 1) := by decide +kernel
theorem dX6_goesThrough_82 : decode cX6_goesThrough 82 = .ok (.istore_n 3, 1) := by decide +kernel
theorem dX6_goesThrough_83 : decode cX6_goesThrough 83 = .ok (.aload_n 0, 1) := by decide +kernel
theorem dX6_goesThrough_84 : decode cX6_goesThrough 84 = .ok (.getfield 82, 3) := by decide +kernel
theorem dX6_goesThrough_87 : decode cX6_goesThrough 87 = .ok (.iconst 3, 1) := by decide +kernel
theorem dX6_goesThrough_88 : decode cX6_goesThrough 88 = .ok (.if_icmp .eq 18, 3) := by decide +kernel
theorem dX6_goesThrough_91 : decode cX6_goesThrough 91 = .ok (.aload_n 0, 1) := by decide +kernel
theorem dX6_goesThrough_92 : decode cX6_goesThrough 92 = .ok (.getfield 104, 3) := by decide +kernel
theorem dX6_goesThrough_95 : decode cX6_goesThrough 95 = .ok (.ifCond .eq 61, 3) := by decide +kernel
theorem dX6_goesThrough_98 : decode cX6_goesThrough 98 = .ok (.iload_n 3, 1) := by decide +kernel
theorem dX6_goesThrough_99 : decode cX6_goesThrough 99 = .ok (.aload_n 0, 1) := by decide +kernel
theorem dX6_goesThrough_100 : decode cX6_goesThrough 100 = .ok (.getfield 59, 3) := by decide +kernel
theorem dX6_goesThrough_103 : decode cX6_goesThrough 103 = .ok (.if_icmp .ge 53, 3) := by decide +kernel
theorem dX6_goesThrough_106 : decode cX6_goesThrough 106 = .ok (.aload_n 0, 1) := by decide +kernel
theorem dX6_goesThrough_107 : decode cX6_goesThrough 107 = .ok (.getfield 30, 3) := by decide +kernel
theorem dX6_goesThrough_110 : decode cX6_goesThrough 110 = .ok (.iload 4, 2) := by decide +kernel
theorem dX6_goesThrough_112 : decode cX6_goesThrough 112 = .ok (.aload_n 0, 1) := by decide +kernel
theorem dX6_goesThrough_113 : decode cX6_goesThrough 113 = .ok (.getfield 82, 3) := by decide +kernel
theorem dX6_goesThrough_116 : decode cX6_goesThrough 116 = .ok (.iconst 3, 1) := by decide +kernel
theorem dX6_goesThrough_117 : decode cX6_goesThrough 117 = .ok (.if_icmp .ne 7, 3) := by decide +kernel
theorem dX6_goesThrough_120 : decode cX6_goesThrough 120 = .ok (.iconst 3, 1) := by decide +kernel
theorem dX6_goesThrough_121 : decode cX6_goesThrough 121 = .ok (.goto 4, 3) := by decide +kernel
theorem dX6_goesThrough_124 : decode cX6_goesThrough 124 = .ok (.iconst 2, 1) := by decide +kernel
theorem dX6_goesThrough_125 : decode cX6_goesThrough 125 = .ok (.iastore, 1) := by decide +kernel
theorem dX6_goesThrough_126 : decode cX6_goesThrough 126 = .ok (.aload_n 0, 1) := by decide +kernel
theorem dX6_goesThrough_127 : decode cX6_goesThrough 127 = .ok (.getfield 33, 3) := by decide +kernel
theorem dX6_goesThrough_130 : decode cX6_goesThrough 130 = .ok (.iload 4, 2) := by decide +kernel
theorem dX6_goesThrough_132 : decode cX6_goesThrough 132 = .ok (.aload_n 0, 1) := by decide +kernel
theorem dX6_goesThrough_133 : decode cX6_goesThrough 133 = .ok (.getfield 82, 3) := by decide +kernel
theorem dX6_goesThrough_136 : decode cX6_goesThrough 136 = .ok (.iastore, 1) := by decide +kernel
theorem dX6_goesThrough_137 : decode cX6_goesThrough 137 = .ok (.aload_n 0, 1) := by decide +kernel
theorem dX6_goesThrough_138 : decode cX6_goesThrough 138 = .ok (.getfield 36, 3) := by decide +kernel
theorem dX6_goesThrough_141 : decode cX6_goesThrough 141 = .ok (.iload 4, 2) := by decide +kernel
theorem dX6_goesThrough_143 : decode cX6_goesThrough 143 = .ok (.iconst 0, 1) := by decide +kernel
theorem dX6_goesThrough_144 : decode cX6_goesThrough 144 = .ok (.iastore, 1) := by decide +kernel
theorem dX6_goesThrough_145 : decode cX6_goesThrough 145 = .ok (.aload_n 0, 1) := by decide +kernel
theorem dX6_goesThrough_146 : decode cX6_goesThrough 146 = .ok (.getfield 39, 3) := by decide +kernel
theorem dX6_goesThrough_149 : decode cX6_goesThrough 149 = .ok (.iload 4, 2) := by decide +kernel
theorem dX6_goesThrough_151 : decode cX6_goesThrough 151 = .ok (.iconst 0, 1) := by decide +kernel
theorem dX6_goesThrough_152 : decode cX6_goesThrough 152 = .ok (.iastore, 1) := by decide +kernel
theorem dX6_goesThrough_153 : decode cX6_goesThrough 153 = .ok (.goto 191, 3) := by decide +kernel
theorem dX6_goesThrough_156 : decode cX6_goesThrough 156 = .ok (.iconst 0, 1) := by decide +kernel
theorem dX6_goesThrough_157 : decode cX6_goesThrough 157 = .ok (.istore_n 3, 1) := by decide +kernel
theorem dX6_goesThrough_158 : decode cX6_goesThrough 158 = .ok (.aload_n 0, 1) := by decide +kernel
theorem dX6_goesThrough_159 : decode cX6_goesThrough 159 = .ok (.iload 4, 2) := by decide +kernel
theorem dX6_goesThrough_161 : decode cX6_goesThrough 161 = .ok (.invokevirtual 111, 3) := by decide +kernel
theorem dX6_goesThrough_164 : decode cX6_goesThrough 164 = .ok (.istore 5, 2) := by decide +kernel
theorem dX6_goesThrough_166 : decode cX6_goesThrough 166 = .ok (.aload_n 0, 1) := by decide +kernel
theorem dX6_goesThrough_167 : decode cX6_goesThrough 167 = .ok (.getfield 82, 3) := by decide +kernel
theorem dX6_goesThrough_170 : decode cX6_goesThrough 170 = .ok (.iconst 1, 1) := by decide +kernel
theorem dX6_goesThrough_171 : decode cX6_goesThrough 171 = .ok (.if_icmp .eq 27, 3) := by decide +kernel
theorem dX6_goesThrough_174 : decode cX6_goesThrough 174 = .ok (.aload_n 0, 1) := by decide +kernel
theorem dX6_goesThrough_175 : decode cX6_goesThrough 175 = .ok (.getfield 30, 3) := by decide +kernel
theorem dX6_goesThrough_178 : decode cX6_goesThrough 178 = .ok (.iload 4, 2) := by decide +kernel
theorem dX6_goesThrough_180 : decode cX6_goesThrough 180 = .ok (.iaload, 1) := by decide +kernel
theorem dX6_goesThrough_181 : decode cX6_goesThrough 181 = .ok (.iconst 1, 1) := by decide +kernel
theorem dX6_goesThrough_182 : decode cX6_goesThrough 182 = .ok (.if_icmp .ne 16, 3) := by decide +kernel
theorem dX6_goesThrough_185 : decode cX6_goesThrough 185 = .ok (.aload_n 0, 1) := by decide +kernel
theorem dX6_goesThrough_186 : decode cX6_goesThrough 186 = .ok (.getfield 104, 3) := by decide +kernel
theorem dX6_goesThrough_189 : decode cX6_goesThrough 189 = .ok (.ifCond .ne 9, 3) := by decide +kernel
theorem dX6_goesThrough_192 : decode cX6_goesThrough 192 = .ok (.iload_n 2, 1) := by decide +kernel
theorem dX6_goesThrough_193 : decode cX6_goesThrough 193 = .ok (.iconst 1, 1) := by decide +kernel
theorem dX6_goesThrough_194 : decode cX6_goesThrough 194 = .ok (.iadd, 1) := by decide +kernel
theorem dX6_goesThrough_195 : decode cX6_goesThrough 195 = .ok (.goto 4, 3) := by decide +kernel
theorem dX6_goesThrough_198 : decode cX6_goesThrough 198 = .ok (.iconst 0, 1) := by decide +kernel
theorem dX6_goesThrough_199 : decode cX6_goesThrough 199 = .ok (.istore_n 2, 1) := by decide +kernel
theorem dX6_goesThrough_200 : decode cX6_goesThrough 200 = .ok (.aload_n 0, 1) := by decide +kernel
theorem dX6_goesThrough_201 : decode cX6_goesThrough 201 = .ok (.aload_n 0, 1) := by decide +kernel
theorem dX6_goesThrough_202 : decode cX6_goesThrough 202 = .ok (.getfield 104, 3) := by decide +kernel
theorem dX6_goesThrough_205 : decode cX6_goesThrough 205 = .ok (.ifCond .eq 22, 3) := by decide +kernel
theorem dX6_goesThrough_208 : decode cX6_goesThrough 208 = .ok (.aload_n 0, 1) := by decide +kernel
theorem dX6_goesThrough_209 : decode cX6_goesThrough 209 = .ok (.getfield 30, 3) := by decide +kernel
theorem dX6_goesThrough_212 : decode cX6_goesThrough 212 = .ok (.iload 4, 2) := by decide +kernel
theorem dX6_goesThrough_214 : decode cX6_goesThrough 214 = .ok (.iaload, 1) := by decide +kernel
theorem dX6_goesThrough_215 : decode cX6_goesThrough 215 = .ok (.iconst 1, 1) := by decide +kernel
theorem dX6_goesThrough_216 : decode cX6_goesThrough 216 = .ok (.if_icmp .ne 7, 3) := by decide +kernel
theorem dX6_goesThrough_219 : decode cX6_goesThrough 219 = .ok (.iconst 1, 1) := by decide +kernel
theorem dX6_goesThrough_220 : decode cX6_goesThrough 220 = .ok (.goto 25, 3) := by decide +kernel
theorem dX6_goesThrough_223 : decode cX6_goesThrough 223 = .ok (.iconst 0, 1) := by decide +kernel
theorem dX6_goesThrough_224 : decode cX6_goesThrough 224 = .ok (.goto 21, 3) := by decide +kernel
theorem dX6_goesThrough_227 : decode cX6_goesThrough 227 = .ok (.aload_n 0, 1) := by decide +kernel
theorem dX6_goesThrough_228 : decode cX6_goesThrough 228 = .ok (.getfield 59, 3) := by decide +kernel
theorem dX6_goesThrough_231 : decode cX6_goesThrough 231 = .ok (.ifCond .le 13, 3) := by decide +kernel
theorem dX6_goesThrough_234 : decode cX6_goesThrough 234 = .ok (.iload_n 2, 1) := by decide +kernel
theorem dX6_goesThrough_235 : decode cX6_goesThrough 235 = .ok (.bipush 8, 2) := by decide +kernel
theorem dX6_goesThrough_237 : decode cX6_goesThrough 237 = .ok (.if_icmp .lt 7, 3) := by decide +kernel
theorem dX6_goesThrough_240 : decode cX6_goesThrough 240 = .ok (.iconst 1, 1) := by decide +kernel
theorem dX6_goesThrough_241 : decode cX6_goesThrough 241 = .ok (.goto 4, 3) := by decide +kernel
theorem dX6_goesThrough_244 : decode cX6_goesThrough 244 = .ok (.iconst 0, 1) := by decide +kernel
theorem dX6_goesThrough_245 : decode cX6_goesThrough 245 = .ok (.putfield 104, 3) := by decide +kernel
theorem dX6_goesThrough_248 : decode cX6_goesThrough 248 = .ok (.aload_n 0, 1) := by decide +kernel
theorem dX6_goesThrough_249 : decode cX6_goesThrough 249 = .ok (.getfield 42, 3) := by decide +kernel
theorem dX6_goesThrough_252 : decode cX6_goesThrough 252 = .ok (.aload_n 0, 1) := by decide +kernel
theorem dX6_goesThrough_253 : decode cX6_goesThrough 253 = .ok (.getfield 95, 3) := by decide +kernel
theorem dX6_goesThrough_256 : decode cX6_goesThrough 256 = .ok (.iload 4, 2) := by decide +kernel
theorem dX6_goesThrough_258 : decode cX6_goesThrough 258 = .ok (.iastore, 1) := by decide +kernel
theorem dX6_goesThrough_259 : decode cX6_goesThrough 259 = .ok (.aload_n 0, 1) := by decide +kernel
theorem dX6_goesThrough_260 : decode cX6_goesThrough 260 = .ok (.dup, 1) := by decide +kernel
theorem dX6_goesThrough_261 : decode cX6_goesThrough 261 = .ok (.getfield 95, 3) := by decide +kernel
theorem dX6_goesThrough_264 : decode cX6_goesThrough 264 = .ok (.iconst 1, 1) := by decide +kernel
theorem dX6_goesThrough_265 : decode cX6_goesThrough 265 = .ok (.iadd, 1) := by decide +kernel
theorem dX6_goesThrough_266 : decode cX6_goesThrough 266 = .ok (.putfield 95, 3) := by decide +kernel
theorem dX6_goesThrough_269 : decode cX6_goesThrough 269 = .ok (.aload_n 0, 1) := by decide +kernel
theorem dX6_goesThrough_270 : decode cX6_goesThrough 270 = .ok (.iload 5, 2) := by decide +kernel
theorem dX6_goesThrough_272 : decode cX6_goesThrough 272 = .ok (.invokevirtual 115, 3) := by decide +kernel
theorem dX6_goesThrough_275 : decode cX6_goesThrough 275 = .ok (.istore 6, 2) := by decide +kernel
theorem dX6_goesThrough_277 : decode cX6_goesThrough 277 = .ok (.aload_n 0, 1) := by decide +kernel
theorem dX6_goesThrough_278 : decode cX6_goesThrough 278 = .ok (.aload_n 0, 1) := by decide +kernel
theorem dX6_goesThrough_279 : decode cX6_goesThrough 279 = .ok (.getfield 104, 3) := by decide +kernel
theorem dX6_goesThrough_282 : decode cX6_goesThrough 282 = .ok (.ifCond .eq 13, 3) := by decide +kernel
theorem dX6_goesThrough_285 : decode cX6_goesThrough 285 = .ok (.iload 6, 2) := by decide +kernel
theorem dX6_goesThrough_287 : decode cX6_goesThrough 287 = .ok (.iconst 1, 1) := by decide +kernel
theorem dX6_goesThrough_288 : decode cX6_goesThrough 288 = .ok (.if_icmp .eq 7, 3) := by decide +kernel
theorem dX6_goesThrough_291 : decode cX6_goesThrough 291 = .ok (.iconst 1, 1) := by decide +kernel
theorem dX6_goesThrough_292 : decode cX6_goesThrough 292 = .ok (.goto 4, 3) := by decide +kernel
theorem dX6_goesThrough_295 : decode cX6_goesThrough 295 = .ok (.iconst 0, 1) := by decide +kernel
theorem dX6_goesThrough_296 : decode cX6_goesThrough 296 = .ok (.putfield 104, 3) := by decide +kernel
theorem dX6_goesThrough_299 : decode cX6_goesThrough 299 = .ok (.iload 6, 2) := by decide +kernel
theorem dX6_goesThrough_301 : decode cX6_goesThrough 301 = .ok (.iconst 3, 1) := by decide +kernel
theorem dX6_goesThrough_302 : decode cX6_goesThrough 302 = .ok (.if_icmp .ne 13, 3) := by decide +kernel
theorem dX6_goesThrough_305 : decode cX6_goesThrough 305 = .ok (.aload_n 0, 1) := by decide +kernel
theorem dX6_goesThrough_306 : decode cX6_goesThrough 306 = .ok (.getfield 20, 3) := by decide +kernel
theorem dX6_goesThrough_309 : decode cX6_goesThrough 309 = .ok (.iload 4, 2) := by decide +kernel
theorem dX6_goesThrough_311 : decode cX6_goesThrough 311 = .ok (.iaload, 1) := by decide +kernel
theorem dX6_goesThrough_312 : decode cX6_goesThrough 312 = .ok (.goto 4, 3) := by decide +kernel
theorem dX6_goesThrough_315 : decode cX6_goesThrough 315 = .ok (.iload_n 1, 1) := by decide +kernel
theorem dX6_goesThrough_316 : decode cX6_goesThrough 316 = .ok (.istore_n 1, 1) := by decide +kernel
theorem dX6_goesThrough_317 : decode cX6_goesThrough 317 = .ok (.aload_n 0, 1) := by decide +kernel
theorem dX6_goesThrough_318 : decode cX6_goesThrough 318 = .ok (.iload 6, 2) := by decide +kernel
theorem dX6_goesThrough_320 : decode cX6_goesThrough 320 = .ok (.aload_n 0, 1) := by decide +kernel
theorem dX6_goesThrough_321 : decode cX6_goesThrough 321 = .ok (.getfield 82, 3) := by decide +kernel
theorem dX6_goesThrough_324 : decode cX6_goesThrough 324 = .ok (.if_icmp .ne 10, 3) := by decide +kernel
theorem dX6_goesThrough_327 : decode cX6_goesThrough 327 = .ok (.aload_n 0, 1) := by decide +kernel
theorem dX6_goesThrough_328 : decode cX6_goesThrough 328 = .ok (.getfield 95, 3) := by decide +kernel
theorem dX6_goesThrough_331 : decode cX6_goesThrough 331 = .ok (.goto 4, 3) := by decide +kernel
theorem dX6_goesThrough_334 : decode cX6_goesThrough 334 = .ok (.iconst 0, 1) := by decide +kernel
theorem dX6_goesThrough_335 : decode cX6_goesThrough 335 = .ok (.putfield 95, 3) := by decide +kernel
theorem dX6_goesThrough_338 : decode cX6_goesThrough 338 = .ok (.aload_n 0, 1) := by decide +kernel
theorem dX6_goesThrough_339 : decode cX6_goesThrough 339 = .ok (.iload 6, 2) := by decide +kernel
theorem dX6_goesThrough_341 : decode cX6_goesThrough 341 = .ok (.putfield 82, 3) := by decide +kernel
theorem dX6_goesThrough_344 : decode cX6_goesThrough 344 = .ok (.iinc 4 1, 3) := by decide +kernel
theorem dX6_goesThrough_347 : decode cX6_goesThrough 347 = .ok (.goto (-323), 3) := by decide +kernel
theorem dX6_goesThrough_350 : decode cX6_goesThrough 350 = .ok (.return_, 1) := by decide +kernel
set_option maxRecDepth 20000 in
theorem ggX6_looked_X6_place : GoodIn wsX6_looked wsX6_place := goodIn_r _ [7, 1, 8, 68, 69, 70, 71, 72, 73, 74, 75, 76, 77, 78, 79, 80, 81, 82, 83, 84, 85, 86] (by decide +kernel) (by decide +kernel)
set_option maxRecDepth 20000 in
theorem gX6_looked_X6_place : GoodIn wsX6_looked (wsV RX6 73 RX6 yX6_place wsX6_place) := goodIn_app (goodIn_of _ (by decide +kernel)) ggX6_looked_X6_place
set_option maxRecDepth 20000 in
theorem ggX6_looked_X6_goesThrough : GoodIn wsX6_looked wsX6_goesThrough := goodIn_r _ [12, 13, 14, 15, 1, 8, 16, 17, 18, 19, 20, 21, 22, 23, 24, 6, 25, 26, 27, 28, 29, 30, 31, 32, 33, 34, 35, 36, 37, 38, 39, 40, 41, 42, 43, 44, 45, 46, 47, 48, 49, 50, 51, 52, 53, 54, 55, 56, 57, 58, 59, 60, 61, 62, 63, 64, 65, 66, 67, 68, 69, 70, 71, 72, 73, 74, 75, 76, 77, 78, 79, 80, 81, 82, 83, 84, 85, 86] (by decide +kernel) (by decide +kernel)
set_option maxRecDepth 20000 in
theorem gX6_looked_X6_goesThrough : GoodIn wsX6_looked (wsV RX6 119 RX6 yX6_goesThrough wsX6_goesThrough) := goodIn_app (goodIn_of _ (by decide +kernel)) ggX6_looked_X6_goesThrough
theorem dX6_looked_0 : decode cX6_looked 0 = .ok (.aload_n 0, 1) := by decide +kernel
theorem dX6_looked_1 : decode cX6_looked 1 = .ok (.iload_n 1, 1) := by decide +kernel
theorem dX6_looked_2 : decode cX6_looked 2 = .ok (.invokevirtual 73, 3) := by decide +kernel
theorem dX6_looked_5 : decode cX6_looked 5 = .ok (.istore_n 2, 1) := by decide +kernel
theorem dX6_looked_6 : decode cX6_looked 6 = .ok (.aload_n 0, 1) := by decide +kernel
theorem dX6_looked_7 : decode cX6_looked 7 = .ok (.iload_n 2, 1) := by decide +kernel
theorem dX6_looked_8 : decode cX6_looked 8 = .ok (.aload_n 0, 1) := by decide +kernel
theorem dX6_looked_9 : decode cX6_looked 9 = .ok (.getfield 62, 3) := by decide +kernel
theorem dX6_looked_12 : decode cX6_looked 12 = .ok (.if_icmp .ne 7, 3) := by decide +kernel
theorem dX6_looked_15 : decode cX6_looked 15 = .ok (.iconst 1, 1) := by decide +kernel
theorem dX6_looked_16 : decode cX6_looked 16 = .ok (.goto 4, 3) := by decide +kernel
theorem dX6_looked_19 : decode cX6_looked 19 = .ok (.iconst 0, 1) := by decide +kernel
theorem dX6_looked_20 : decode cX6_looked 20 = .ok (.putfield 45, 3) := by decide +kernel
theorem dX6_looked_23 : decode cX6_looked 23 = .ok (.aload_n 0, 1) := by decide +kernel
theorem dX6_looked_24 : decode cX6_looked 24 = .ok (.invokevirtual 119, 3) := by decide +kernel
theorem dX6_looked_27 : decode cX6_looked 27 = .ok (.aload_n 0, 1) := by decide +kernel
theorem dX6_looked_28 : decode cX6_looked 28 = .ok (.getfield 45, 3) := by decide +kernel
theorem dX6_looked_31 : decode cX6_looked 31 = .ok (.ifCond .ne 7, 3) := by decide +kernel
theorem dX6_looked_34 : decode cX6_looked 34 = .ok (.iload_n 2, 1) := by decide +kernel
theorem dX6_looked_35 : decode cX6_looked 35 = .ok (.goto 4, 3) := by decide +kernel
theorem dX6_looked_38 : decode cX6_looked 38 = .ok (.iconst (-1), 1) := by decide +kernel
theorem dX6_looked_39 : decode cX6_looked 39 = .ok (.ireturn, 1) := by decide +kernel
set_option maxRecDepth 20000 in
theorem ggX6_verdict_X6_looked : GoodIn wsX6_verdict wsX6_looked := goodIn_r _ [6, 7, 8, 9, 10, 11, 5, 12, 13, 14, 15, 16, 17, 18, 19, 20, 21, 1, 22, 23, 24, 25, 26, 27, 28, 29, 30, 31, 32, 33, 34, 35, 36, 37, 38, 39, 40, 41, 42, 43, 44, 45, 46, 47, 48, 49, 50, 51, 52, 53, 54, 55, 56, 57, 58, 59, 60, 61, 62, 63, 64, 65, 66, 67, 68, 69, 70, 71, 72, 73, 74, 75, 76, 77, 78, 79, 80, 81, 82, 83, 84, 85, 86, 87, 88, 89, 90] (by decide +kernel) (by decide +kernel)
set_option maxRecDepth 20000 in
theorem gX6_verdict_X6_looked : GoodIn wsX6_verdict (wsV RX6 122 RX6 yX6_looked wsX6_looked) := goodIn_app (goodIn_of _ (by decide +kernel)) ggX6_verdict_X6_looked
theorem dX6_verdict_0 : decode cX6_verdict 0 = .ok (.aload_n 0, 1) := by decide +kernel
theorem dX6_verdict_1 : decode cX6_verdict 1 = .ok (.iload_n 1, 1) := by decide +kernel
theorem dX6_verdict_2 : decode cX6_verdict 2 = .ok (.invokevirtual 122, 3) := by decide +kernel
theorem dX6_verdict_5 : decode cX6_verdict 5 = .ok (.istore_n 2, 1) := by decide +kernel
theorem dX6_verdict_6 : decode cX6_verdict 6 = .ok (.iload_n 2, 1) := by decide +kernel
theorem dX6_verdict_7 : decode cX6_verdict 7 = .ok (.ifCond .ge 7, 3) := by decide +kernel
theorem dX6_verdict_10 : decode cX6_verdict 10 = .ok (.iconst 0, 1) := by decide +kernel
theorem dX6_verdict_11 : decode cX6_verdict 11 = .ok (.goto 9, 3) := by decide +kernel
theorem dX6_verdict_14 : decode cX6_verdict 14 = .ok (.aload_n 0, 1) := by decide +kernel
theorem dX6_verdict_15 : decode cX6_verdict 15 = .ok (.getfield 30, 3) := by decide +kernel
theorem dX6_verdict_18 : decode cX6_verdict 18 = .ok (.iload_n 2, 1) := by decide +kernel
theorem dX6_verdict_19 : decode cX6_verdict 19 = .ok (.iaload, 1) := by decide +kernel
theorem dX6_verdict_20 : decode cX6_verdict 20 = .ok (.ireturn, 1) := by decide +kernel
set_option maxRecDepth 20000 in
theorem ggX6_stateAt_X6_looked : GoodIn wsX6_stateAt wsX6_looked := goodIn_r _ [6, 7, 8, 9, 10, 11, 5, 12, 13, 14, 15, 16, 17, 18, 19, 20, 21, 22, 1, 23, 24, 25, 26, 27, 28, 29, 30, 31, 32, 33, 34, 35, 36, 37, 38, 39, 40, 41, 42, 43, 44, 45, 46, 47, 48, 49, 50, 51, 52, 53, 54, 55, 56, 57, 58, 59, 60, 61, 62, 63, 64, 65, 66, 67, 68, 69, 70, 71, 72, 73, 74, 75, 76, 77, 78, 79, 80, 81, 82, 83, 84, 85, 86, 87, 88, 89, 90] (by decide +kernel) (by decide +kernel)
set_option maxRecDepth 20000 in
theorem gX6_stateAt_X6_looked : GoodIn wsX6_stateAt (wsV RX6 122 RX6 yX6_looked wsX6_looked) := goodIn_app (goodIn_of _ (by decide +kernel)) ggX6_stateAt_X6_looked
theorem dX6_stateAt_0 : decode cX6_stateAt 0 = .ok (.aload_n 0, 1) := by decide +kernel
theorem dX6_stateAt_1 : decode cX6_stateAt 1 = .ok (.iload_n 1, 1) := by decide +kernel
theorem dX6_stateAt_2 : decode cX6_stateAt 2 = .ok (.invokevirtual 122, 3) := by decide +kernel
theorem dX6_stateAt_5 : decode cX6_stateAt 5 = .ok (.istore_n 2, 1) := by decide +kernel
theorem dX6_stateAt_6 : decode cX6_stateAt 6 = .ok (.iload_n 2, 1) := by decide +kernel
theorem dX6_stateAt_7 : decode cX6_stateAt 7 = .ok (.ifCond .ge 7, 3) := by decide +kernel
theorem dX6_stateAt_10 : decode cX6_stateAt 10 = .ok (.iconst 0, 1) := by decide +kernel
theorem dX6_stateAt_11 : decode cX6_stateAt 11 = .ok (.goto 9, 3) := by decide +kernel
theorem dX6_stateAt_14 : decode cX6_stateAt 14 = .ok (.aload_n 0, 1) := by decide +kernel
theorem dX6_stateAt_15 : decode cX6_stateAt 15 = .ok (.getfield 33, 3) := by decide +kernel
theorem dX6_stateAt_18 : decode cX6_stateAt 18 = .ok (.iload_n 2, 1) := by decide +kernel
theorem dX6_stateAt_19 : decode cX6_stateAt 19 = .ok (.iaload, 1) := by decide +kernel
theorem dX6_stateAt_20 : decode cX6_stateAt 20 = .ok (.ireturn, 1) := by decide +kernel
set_option maxRecDepth 20000 in
theorem ggX6_state_X6_goesThrough : GoodIn wsX6_state wsX6_goesThrough := goodIn_r _ [7, 2, 8, 9, 10, 11, 12, 13, 14, 15, 16, 17, 18, 19, 20, 6, 21, 22, 23, 24, 25, 26, 27, 28, 29, 30, 31, 32, 33, 34, 35, 36, 37, 38, 39, 40, 41, 42, 43, 44, 45, 46, 47, 48, 49, 50, 51, 52, 53, 54, 55, 56, 57, 58, 59, 60, 61, 62, 63, 64, 65, 66, 67, 68, 69, 70, 71, 72, 73, 74, 75, 76, 77, 78, 79, 80, 81, 82] (by decide +kernel) (by decide +kernel)
set_option maxRecDepth 20000 in
theorem gX6_state_X6_goesThrough : GoodIn wsX6_state (wsV RX6 119 RX6 yX6_goesThrough wsX6_goesThrough) := goodIn_app (goodIn_of _ (by decide +kernel)) ggX6_state_X6_goesThrough
theorem dX6_state_0 : decode cX6_state 0 = .ok (.aload_n 0, 1) := by decide +kernel
theorem dX6_state_1 : decode cX6_state 1 = .ok (.iconst 0, 1) := by decide +kernel
theorem dX6_state_2 : decode cX6_state 2 = .ok (.putfield 45, 3) := by decide +kernel
theorem dX6_state_5 : decode cX6_state 5 = .ok (.aload_n 0, 1) := by decide +kernel
theorem dX6_state_6 : decode cX6_state 6 = .ok (.invokevirtual 119, 3) := by decide +kernel
theorem dX6_state_9 : decode cX6_state 9 = .ok (.aload_n 0, 1) := by decide +kernel
theorem dX6_state_10 : decode cX6_state 10 = .ok (.getfield 82, 3) := by decide +kernel
theorem dX6_state_13 : decode cX6_state 13 = .ok (.ireturn, 1) := by decide +kernel
set_option maxRecDepth 20000 in
theorem ggX6_isSkipping_X6_goesThrough : GoodIn wsX6_isSkipping wsX6_goesThrough := goodIn_r _ [7, 8, 2, 9, 10, 11, 12, 13, 14, 15, 16, 17, 18, 19, 20, 6, 21, 22, 23, 24, 25, 26, 27, 28, 29, 30, 31, 32, 33, 34, 35, 36, 37, 38, 39, 40, 41, 42, 43, 44, 45, 46, 47, 48, 49, 50, 51, 52, 53, 54, 55, 56, 57, 58, 59, 60, 61, 62, 63, 64, 65, 66, 67, 68, 69, 70, 71, 72, 73, 74, 75, 76, 77, 78, 79, 80, 81, 82] (by decide +kernel) (by decide +kernel)
set_option maxRecDepth 20000 in
theorem gX6_isSkipping_X6_goesThrough : GoodIn wsX6_isSkipping (wsV RX6 119 RX6 yX6_goesThrough wsX6_goesThrough) := goodIn_app (goodIn_of _ (by decide +kernel)) ggX6_isSkipping_X6_goesThrough
theorem dX6_isSkipping_0 : decode cX6_isSkipping 0 = .ok (.aload_n 0, 1) := by decide +kernel
theorem dX6_isSkipping_1 : decode cX6_isSkipping 1 = .ok (.iconst 0, 1) := by decide +kernel
theorem dX6_isSkipping_2 : decode cX6_isSkipping 2 = .ok (.putfield 45, 3) := by decide +kernel
theorem dX6_isSkipping_5 : decode cX6_isSkipping 5 = .ok (.aload_n 0, 1) := by decide +kernel
theorem dX6_isSkipping_6 : decode cX6_isSkipping 6 = .ok (.invokevirtual 119, 3) := by decide +kernel
theorem dX6_isSkipping_9 : decode cX6_isSkipping 9 = .ok (.aload_n 0, 1) := by decide +kernel
theorem dX6_isSkipping_10 : decode cX6_isSkipping 10 = .ok (.getfield 104, 3) := by decide +kernel
theorem dX6_isSkipping_13 : decode cX6_isSkipping 13 = .ok (.ireturn, 1) := by decide +kernel
set_option maxRecDepth 20000 in
theorem ggX6_inspected_X6_looked : GoodIn wsX6_inspected wsX6_looked := goodIn_r _ [6, 7, 8, 9, 10, 11, 5, 12, 13, 14, 15, 16, 17, 18, 19, 20, 21, 22, 23, 1, 24, 25, 26, 27, 28, 29, 30, 31, 32, 33, 34, 35, 36, 37, 38, 39, 40, 41, 42, 43, 44, 45, 46, 47, 48, 49, 50, 51, 52, 53, 54, 55, 56, 57, 58, 59, 60, 61, 62, 63, 64, 65, 66, 67, 68, 69, 70, 71, 72, 73, 74, 75, 76, 77, 78, 79, 80, 81, 82, 83, 84, 85, 86, 87, 88, 89, 90] (by decide +kernel) (by decide +kernel)
set_option maxRecDepth 20000 in
theorem gX6_inspected_X6_looked : GoodIn wsX6_inspected (wsV RX6 122 RX6 yX6_looked wsX6_looked) := goodIn_app (goodIn_of _ (by decide +kernel)) ggX6_inspected_X6_looked
theorem dX6_inspected_0 : decode cX6_inspected 0 = .ok (.aload_n 0, 1) := by decide +kernel
theorem dX6_inspected_1 : decode cX6_inspected 1 = .ok (.iload_n 1, 1) := by decide +kernel
theorem dX6_inspected_2 : decode cX6_inspected 2 = .ok (.invokevirtual 122, 3) := by decide +kernel
theorem dX6_inspected_5 : decode cX6_inspected 5 = .ok (.istore_n 2, 1) := by decide +kernel
theorem dX6_inspected_6 : decode cX6_inspected 6 = .ok (.iload_n 2, 1) := by decide +kernel
theorem dX6_inspected_7 : decode cX6_inspected 7 = .ok (.ifCond .ge 7, 3) := by decide +kernel
theorem dX6_inspected_10 : decode cX6_inspected 10 = .ok (.iconst 0, 1) := by decide +kernel
theorem dX6_inspected_11 : decode cX6_inspected 11 = .ok (.goto 9, 3) := by decide +kernel
theorem dX6_inspected_14 : decode cX6_inspected 14 = .ok (.aload_n 0, 1) := by decide +kernel
theorem dX6_inspected_15 : decode cX6_inspected 15 = .ok (.getfield 36, 3) := by decide +kernel
theorem dX6_inspected_18 : decode cX6_inspected 18 = .ok (.iload_n 2, 1) := by decide +kernel
theorem dX6_inspected_19 : decode cX6_inspected 19 = .ok (.iaload, 1) := by decide +kernel
theorem dX6_inspected_20 : decode cX6_inspected 20 = .ok (.ireturn, 1) := by decide +kernel
set_option maxRecDepth 20000 in
theorem ggX6_badIn_X6_looked : GoodIn wsX6_badIn wsX6_looked := goodIn_r _ [6, 7, 8, 9, 10, 11, 5, 12, 13, 14, 15, 16, 17, 18, 19, 20, 21, 22, 23, 24, 1, 25, 26, 27, 28, 29, 30, 31, 32, 33, 34, 35, 36, 37, 38, 39, 40, 41, 42, 43, 44, 45, 46, 47, 48, 49, 50, 51, 52, 53, 54, 55, 56, 57, 58, 59, 60, 61, 62, 63, 64, 65, 66, 67, 68, 69, 70, 71, 72, 73, 74, 75, 76, 77, 78, 79, 80, 81, 82, 83, 84, 85, 86, 87, 88, 89, 90] (by decide +kernel) (by decide +kernel)
set_option maxRecDepth 20000 in
theorem gX6_badIn_X6_looked : GoodIn wsX6_badIn (wsV RX6 122 RX6 yX6_looked wsX6_looked) := goodIn_app (goodIn_of _ (by decide +kernel)) ggX6_badIn_X6_looked
theorem dX6_badIn_0 : decode cX6_badIn 0 = .ok (.aload_n 0, 1) := by decide +kernel
theorem dX6_badIn_1 : decode cX6_badIn 1 = .ok (.iload_n 1, 1) := by decide +kernel
theorem dX6_badIn_2 : decode cX6_badIn 2 = .ok (.invokevirtual 122, 3) := by decide +kernel
theorem dX6_badIn_5 : decode cX6_badIn 5 = .ok (.istore_n 2, 1) := by decide +kernel
theorem dX6_badIn_6 : decode cX6_badIn 6 = .ok (.iload_n 2, 1) := by decide +kernel
theorem dX6_badIn_7 : decode cX6_badIn 7 = .ok (.ifCond .ge 7, 3) := by decide +kernel
theorem dX6_badIn_10 : decode cX6_badIn 10 = .ok (.iconst 0, 1) := by decide +kernel
theorem dX6_badIn_11 : decode cX6_badIn 11 = .ok (.goto 9, 3) := by decide +kernel
theorem dX6_badIn_14 : decode cX6_badIn 14 = .ok (.aload_n 0, 1) := by decide +kernel
theorem dX6_badIn_15 : decode cX6_badIn 15 = .ok (.getfield 39, 3) := by decide +kernel
theorem dX6_badIn_18 : decode cX6_badIn 18 = .ok (.iload_n 2, 1) := by decide +kernel
theorem dX6_badIn_19 : decode cX6_badIn 19 = .ok (.iaload, 1) := by decide +kernel
theorem dX6_badIn_20 : decode cX6_badIn 20 = .ok (.ireturn, 1) := by decide +kernel
set_option maxRecDepth 20000 in
theorem ggX6_count_X6_in : GoodIn wsX6_count wsX6_in := goodIn_r _ [7] (by decide +kernel) (by decide +kernel)
set_option maxRecDepth 20000 in
theorem gX6_count_X6_in : GoodIn wsX6_count (va_wsS RX6 48 yX6_in wsX6_in) := goodIn_app (goodIn_of _ (by decide +kernel)) ggX6_count_X6_in
set_option maxRecDepth 20000 in
theorem ggX6_count_X6_goesThrough : GoodIn wsX6_count wsX6_goesThrough := goodIn_r _ [11, 12, 13, 14, 2, 15, 16, 3, 17, 18, 19, 20, 21, 22, 23, 6, 24, 25, 26, 27, 28, 29, 30, 31, 32, 33, 34, 35, 36, 37, 38, 39, 40, 41, 42, 43, 44, 45, 46, 47, 48, 49, 50, 51, 52, 53, 54, 55, 56, 57, 58, 59, 60, 61, 62, 63, 64, 65, 66, 67, 68, 69, 70, 71, 72, 73, 74, 75, 76, 77, 78, 79, 80, 81, 82, 83, 84, 85] (by decide +kernel) (by decide +kernel)
set_option maxRecDepth 20000 in
theorem gX6_count_X6_goesThrough : GoodIn wsX6_count (wsV RX6 119 RX6 yX6_goesThrough wsX6_goesThrough) := goodIn_app (goodIn_of _ (by decide +kernel)) ggX6_count_X6_goesThrough
theorem dX6_count_0 : decode cX6_count 0 = .ok (.aload_n 0, 1) := by decide +kernel
theorem dX6_count_1 : decode cX6_count 1 = .ok (.iload_n 1, 1) := by decide +kernel
theorem dX6_count_2 : decode cX6_count 2 = .ok (.iconst 0, 1) := by decide +kernel
theorem dX6_count_3 : decode cX6_count 3 = .ok (.iconst 3, 1) := by decide +kernel
theorem dX6_count_4 : decode cX6_count 4 = .ok (.invokestatic 48, 3) := by decide +kernel
theorem dX6_count_7 : decode cX6_count 7 = .ok (.ifCond .eq 7, 3) := by decide +kernel
theorem dX6_count_10 : decode cX6_count 10 = .ok (.iconst 0, 1) := by decide +kernel
theorem dX6_count_11 : decode cX6_count 11 = .ok (.goto 4, 3) := by decide +kernel
theorem dX6_count_14 : decode cX6_count 14 = .ok (.iconst 1, 1) := by decide +kernel
theorem dX6_count_15 : decode cX6_count 15 = .ok (.putfield 45, 3) := by decide +kernel
theorem dX6_count_18 : decode cX6_count 18 = .ok (.aload_n 0, 1) := by decide +kernel
theorem dX6_count_19 : decode cX6_count 19 = .ok (.invokevirtual 119, 3) := by decide +kernel
theorem dX6_count_22 : decode cX6_count 22 = .ok (.iconst 0, 1) := by decide +kernel
theorem dX6_count_23 : decode cX6_count 23 = .ok (.istore_n 2, 1) := by decide +kernel
theorem dX6_count_24 : decode cX6_count 24 = .ok (.iconst 0, 1) := by decide +kernel
theorem dX6_count_25 : decode cX6_count 25 = .ok (.istore_n 3, 1) := by decide +kernel
theorem dX6_count_26 : decode cX6_count 26 = .ok (.iload_n 3, 1) := by decide +kernel
theorem dX6_count_27 : decode cX6_count 27 = .ok (.aload_n 0, 1) := by decide +kernel
theorem dX6_count_28 : decode cX6_count 28 = .ok (.getfield 62, 3) := by decide +kernel
theorem dX6_count_31 : decode cX6_count 31 = .ok (.if_icmp .ge 34, 3) := by decide +kernel
theorem dX6_count_34 : decode cX6_count 34 = .ok (.aload_n 0, 1) := by decide +kernel
theorem dX6_count_35 : decode cX6_count 35 = .ok (.getfield 45, 3) := by decide +kernel
theorem dX6_count_38 : decode cX6_count 38 = .ok (.ifCond .ne 27, 3) := by decide +kernel
theorem dX6_count_41 : decode cX6_count 41 = .ok (.iload_n 2, 1) := by decide +kernel
theorem dX6_count_42 : decode cX6_count 42 = .ok (.aload_n 0, 1) := by decide +kernel
theorem dX6_count_43 : decode cX6_count 43 = .ok (.getfield 30, 3) := by decide +kernel
theorem dX6_count_46 : decode cX6_count 46 = .ok (.iload_n 3, 1) := by decide +kernel
theorem dX6_count_47 : decode cX6_count 47 = .ok (.iaload, 1) := by decide +kernel
theorem dX6_count_48 : decode cX6_count 48 = .ok (.iload_n 1, 1) := by decide +kernel
theorem dX6_count_49 : decode cX6_count 49 = .ok (.if_icmp .ne 7, 3) := by decide +kernel
theorem dX6_count_52 : decode cX6_count 52 = .ok (.iconst 1, 1) := by decide +kernel
theorem dX6_count_53 : decode cX6_count 53 = .ok (.goto 4, 3) := by decide +kernel
theorem dX6_count_56 : decode cX6_count 56 = .ok (.iconst 0, 1) := by decide +kernel
theorem dX6_count_57 : decode cX6_count 57 = .ok (.iadd, 1) := by decide +kernel
theorem dX6_count_58 : decode cX6_count 58 = .ok (.istore_n 2, 1) := by decide +kernel
theorem dX6_count_59 : decode cX6_count 59 = .ok (.iinc 3 1, 3) := by decide +kernel
theorem dX6_count_62 : decode cX6_count 62 = .ok (.goto (-36), 3) := by decide +kernel
theorem dX6_count_65 : decode cX6_count 65 = .ok (.iload_n 2, 1) := by decide +kernel
theorem dX6_count_66 : decode cX6_count 66 = .ok (.ireturn, 1) := by decide +kernel
set_option maxRecDepth 20000 in
theorem ggX6_letter_X6_in : GoodIn wsX6_letter wsX6_in := goodIn_r _ [5] (by decide +kernel) (by decide +kernel)
set_option maxRecDepth 20000 in
theorem gX6_letter_X6_in : GoodIn wsX6_letter (va_wsS RX6 48 yX6_in wsX6_in) := goodIn_app (goodIn_of _ (by decide +kernel)) ggX6_letter_X6_in
set_option maxRecDepth 20000 in
theorem ggX6_letter_X6_letterOf : GoodIn wsX6_letter wsX6_letterOf := goodIn_r _ [9, 10, 11, 12, 4, 13, 14, 15, 16, 17, 18, 19, 20, 21, 22, 23, 24, 25, 26, 27, 28, 29, 30, 31, 32] (by decide +kernel) (by decide +kernel)
set_option maxRecDepth 20000 in
theorem gX6_letter_X6_letterOf : GoodIn wsX6_letter (wsV RX6 79 RX6 yX6_letterOf wsX6_letterOf) := goodIn_app (goodIn_of _ (by decide +kernel)) ggX6_letter_X6_letterOf
theorem dX6_letter_0 : decode cX6_letter 0 = .ok (.aload_n 0, 1) := by decide +kernel
theorem dX6_letter_1 : decode cX6_letter 1 = .ok (.iload_n 1, 1) := by decide +kernel
theorem dX6_letter_2 : decode cX6_letter 2 = .ok (.iconst 2, 1) := by decide +kernel
theorem dX6_letter_3 : decode cX6_letter 3 = .ok (.sipush 5000, 3) := by decide +kernel
theorem dX6_letter_6 : decode cX6_letter 6 = .ok (.invokestatic 48, 3) := by decide +kernel
theorem dX6_letter_9 : decode cX6_letter 9 = .ok (.ifCond .eq 7, 3) := by decide +kernel
theorem dX6_letter_12 : decode cX6_letter 12 = .ok (.iconst 0, 1) := by decide +kernel
theorem dX6_letter_13 : decode cX6_letter 13 = .ok (.goto 4, 3) := by decide +kernel
theorem dX6_letter_16 : decode cX6_letter 16 = .ok (.iconst 1, 1) := by decide +kernel
theorem dX6_letter_17 : decode cX6_letter 17 = .ok (.putfield 45, 3) := by decide +kernel
theorem dX6_letter_20 : decode cX6_letter 20 = .ok (.aload_n 0, 1) := by decide +kernel
theorem dX6_letter_21 : decode cX6_letter 21 = .ok (.getfield 45, 3) := by decide +kernel
theorem dX6_letter_24 : decode cX6_letter 24 = .ok (.ifCond .ne 11, 3) := by decide +kernel
theorem dX6_letter_27 : decode cX6_letter 27 = .ok (.aload_n 0, 1) := by decide +kernel
theorem dX6_letter_28 : decode cX6_letter 28 = .ok (.iload_n 1, 1) := by decide +kernel
theorem dX6_letter_29 : decode cX6_letter 29 = .ok (.invokevirtual 79, 3) := by decide +kernel
theorem dX6_letter_32 : decode cX6_letter 32 = .ok (.goto 4, 3) := by decide +kernel
theorem dX6_letter_35 : decode cX6_letter 35 = .ok (.iconst 0, 1) := by decide +kernel
theorem dX6_letter_36 : decode cX6_letter 36 = .ok (.ireturn, 1) := by decide +kernel
set_option maxRecDepth 20000 in
theorem ggX6_sample_X6_in : GoodIn wsX6_sample wsX6_in := goodIn_r _ [5] (by decide +kernel) (by decide +kernel)
set_option maxRecDepth 20000 in
theorem gX6_sample_X6_in : GoodIn wsX6_sample (va_wsS RX6 48 yX6_in wsX6_in) := goodIn_app (goodIn_of _ (by decide +kernel)) ggX6_sample_X6_in
set_option maxRecDepth 20000 in
theorem ggX6_sample_X6_sampleOf : GoodIn wsX6_sample wsX6_sampleOf := goodIn_r _ [9, 10, 11, 12, 4, 13, 14, 15, 16, 17, 18, 19, 20, 21, 22, 23, 24, 25, 26, 27, 28, 29, 30, 31, 32, 33, 34, 35, 36] (by decide +kernel) (by decide +kernel)
set_option maxRecDepth 20000 in
theorem gX6_sample_X6_sampleOf : GoodIn wsX6_sample (wsV RX6 85 RX6 yX6_sampleOf wsX6_sampleOf) := goodIn_app (goodIn_of _ (by decide +kernel)) ggX6_sample_X6_sampleOf
theorem dX6_sample_0 : decode cX6_sample 0 = .ok (.aload_n 0, 1) := by decide +kernel
theorem dX6_sample_1 : decode cX6_sample 1 = .ok (.iload_n 1, 1) := by decide +kernel
theorem dX6_sample_2 : decode cX6_sample 2 = .ok (.iconst 2, 1) := by decide +kernel
theorem dX6_sample_3 : decode cX6_sample 3 = .ok (.sipush 5000, 3) := by decide +kernel
theorem dX6_sample_6 : decode cX6_sample 6 = .ok (.invokestatic 48, 3) := by decide +kernel
theorem dX6_sample_9 : decode cX6_sample 9 = .ok (.ifCond .eq 16, 3) := by decide +kernel
theorem dX6_sample_12 : decode cX6_sample 12 = .ok (.iload_n 2, 1) := by decide +kernel
theorem dX6_sample_13 : decode cX6_sample 13 = .ok (.iconst 0, 1) := by decide +kernel
theorem dX6_sample_14 : decode cX6_sample 14 = .ok (.iconst 2, 1) := by decide +kernel
theorem dX6_sample_15 : decode cX6_sample 15 = .ok (.invokestatic 48, 3) := by decide +kernel
theorem dX6_sample_18 : decode cX6_sample 18 = .ok (.ifCond .eq 7, 3) := by decide +kernel
theorem dX6_sample_21 : decode cX6_sample 21 = .ok (.iconst 0, 1) := by decide +kernel
theorem dX6_sample_22 : decode cX6_sample 22 = .ok (.goto 4, 3) := by decide +kernel
theorem dX6_sample_25 : decode cX6_sample 25 = .ok (.iconst 1, 1) := by decide +kernel
theorem dX6_sample_26 : decode cX6_sample 26 = .ok (.putfield 45, 3) := by decide +kernel
theorem dX6_sample_29 : decode cX6_sample 29 = .ok (.aload_n 0, 1) := by decide +kernel
theorem dX6_sample_30 : decode cX6_sample 30 = .ok (.getfield 45, 3) := by decide +kernel
theorem dX6_sample_33 : decode cX6_sample 33 = .ok (.ifCond .ne 12, 3) := by decide +kernel
theorem dX6_sample_36 : decode cX6_sample 36 = .ok (.aload_n 0, 1) := by decide +kernel
theorem dX6_sample_37 : decode cX6_sample 37 = .ok (.iload_n 1, 1) := by decide +kernel
theorem dX6_sample_38 : decode cX6_sample 38 = .ok (.iload_n 2, 1) := by decide +kernel
theorem dX6_sample_39 : decode cX6_sample 39 = .ok (.invokevirtual 85, 3) := by decide +kernel
theorem dX6_sample_42 : decode cX6_sample 42 = .ok (.goto 4, 3) := by decide +kernel
theorem dX6_sample_45 : decode cX6_sample 45 = .ok (.iconst 0, 1) := by decide +kernel
theorem dX6_sample_46 : decode cX6_sample 46 = .ok (.ireturn, 1) := by decide +kernel
set_option maxRecDepth 20000 in
theorem ggX6_accepting_X6_in : GoodIn wsX6_accepting wsX6_in := goodIn_r _ [5] (by decide +kernel) (by decide +kernel)
set_option maxRecDepth 20000 in
theorem gX6_accepting_X6_in : GoodIn wsX6_accepting (va_wsS RX6 48 yX6_in wsX6_in) := goodIn_app (goodIn_of _ (by decide +kernel)) ggX6_accepting_X6_in
set_option maxRecDepth 20000 in
theorem ggX6_accepting_X6_acceptingOf : GoodIn wsX6_accepting wsX6_acceptingOf := goodIn_r _ [9, 10, 11, 12, 13, 4, 14, 15, 16, 17, 18, 19, 20, 21, 22, 23, 24, 25, 26, 27, 28, 29, 30, 31, 32, 33, 34, 35, 36, 37] (by decide +kernel) (by decide +kernel)
set_option maxRecDepth 20000 in
theorem gX6_accepting_X6_acceptingOf : GoodIn wsX6_accepting (wsV RX6 89 RX6 yX6_acceptingOf wsX6_acceptingOf) := goodIn_app (goodIn_of _ (by decide +kernel)) ggX6_accepting_X6_acceptingOf
theorem dX6_accepting_0 : decode cX6_accepting 0 = .ok (.aload_n 0, 1) := by decide +kernel
theorem dX6_accepting_1 : decode cX6_accepting 1 = .ok (.iload_n 1, 1) := by decide +kernel
theorem dX6_accepting_2 : decode cX6_accepting 2 = .ok (.iconst 2, 1) := by decide +kernel
theorem dX6_accepting_3 : decode cX6_accepting 3 = .ok (.sipush 5000, 3) := by decide +kernel
theorem dX6_accepting_6 : decode cX6_accepting 6 = .ok (.invokestatic 48, 3) := by decide +kernel
theorem dX6_accepting_9 : decode cX6_accepting 9 = .ok (.ifCond .eq 16, 3) := by decide +kernel
theorem dX6_accepting_12 : decode cX6_accepting 12 = .ok (.iload_n 2, 1) := by decide +kernel
theorem dX6_accepting_13 : decode cX6_accepting 13 = .ok (.iconst 0, 1) := by decide +kernel
theorem dX6_accepting_14 : decode cX6_accepting 14 = .ok (.iconst 2, 1) := by decide +kernel
theorem dX6_accepting_15 : decode cX6_accepting 15 = .ok (.invokestatic 48, 3) := by decide +kernel
theorem dX6_accepting_18 : decode cX6_accepting 18 = .ok (.ifCond .eq 7, 3) := by decide +kernel
theorem dX6_accepting_21 : decode cX6_accepting 21 = .ok (.iconst 0, 1) := by decide +kernel
theorem dX6_accepting_22 : decode cX6_accepting 22 = .ok (.goto 4, 3) := by decide +kernel
theorem dX6_accepting_25 : decode cX6_accepting 25 = .ok (.iconst 1, 1) := by decide +kernel
theorem dX6_accepting_26 : decode cX6_accepting 26 = .ok (.putfield 45, 3) := by decide +kernel
theorem dX6_accepting_29 : decode cX6_accepting 29 = .ok (.aload_n 0, 1) := by decide +kernel
theorem dX6_accepting_30 : decode cX6_accepting 30 = .ok (.getfield 45, 3) := by decide +kernel
theorem dX6_accepting_33 : decode cX6_accepting 33 = .ok (.ifCond .ne 12, 3) := by decide +kernel
theorem dX6_accepting_36 : decode cX6_accepting 36 = .ok (.aload_n 0, 1) := by decide +kernel
theorem dX6_accepting_37 : decode cX6_accepting 37 = .ok (.iload_n 1, 1) := by decide +kernel
theorem dX6_accepting_38 : decode cX6_accepting 38 = .ok (.iload_n 2, 1) := by decide +kernel
theorem dX6_accepting_39 : decode cX6_accepting 39 = .ok (.invokevirtual 89, 3) := by decide +kernel
theorem dX6_accepting_42 : decode cX6_accepting 42 = .ok (.goto 4, 3) := by decide +kernel
theorem dX6_accepting_45 : decode cX6_accepting 45 = .ok (.iconst 0, 1) := by decide +kernel
theorem dX6_accepting_46 : decode cX6_accepting 46 = .ok (.ireturn, 1) := by decide +kernel
set_option maxRecDepth 20000 in
theorem ggX6_ways_X6_shared : GoodIn wsX6_ways wsX6_shared := goodIn_r _ [4] (by decide +kernel) (by decide +kernel)
set_option maxRecDepth 20000 in
theorem gX6_ways_X6_shared : GoodIn wsX6_ways (va_wsS RX6 125 yX6_shared wsX6_shared) := goodIn_app (goodIn_of _ (by decide +kernel)) ggX6_ways_X6_shared
theorem dX6_ways_0 : decode cX6_ways 0 = .ok (.iload_n 1, 1) := by decide +kernel
theorem dX6_ways_1 : decode cX6_ways 1 = .ok (.ifCond .lt 8, 3) := by decide +kernel
theorem dX6_ways_4 : decode cX6_ways 4 = .ok (.iload_n 1, 1) := by decide +kernel
theorem dX6_ways_5 : decode cX6_ways 5 = .ok (.iload_n 0, 1) := by decide +kernel
theorem dX6_ways_6 : decode cX6_ways 6 = .ok (.if_icmp .le 5, 3) := by decide +kernel
theorem dX6_ways_9 : decode cX6_ways 9 = .ok (.lconst 0, 1) := by decide +kernel
theorem dX6_ways_10 : decode cX6_ways 10 = .ok (.lreturn, 1) := by decide +kernel
theorem dX6_ways_11 : decode cX6_ways 11 = .ok (.iload_n 1, 1) := by decide +kernel
theorem dX6_ways_12 : decode cX6_ways 12 = .ok (.iload_n 0, 1) := by decide +kernel
theorem dX6_ways_13 : decode cX6_ways 13 = .ok (.iload_n 1, 1) := by decide +kernel
theorem dX6_ways_14 : decode cX6_ways 14 = .ok (.isub, 1) := by decide +kernel
theorem dX6_ways_15 : decode cX6_ways 15 = .ok (.if_icmp .ge 7, 3) := by decide +kernel
theorem dX6_ways_18 : decode cX6_ways 18 = .ok (.iload_n 1, 1) := by decide +kernel
theorem dX6_ways_19 : decode cX6_ways 19 = .ok (.goto 6, 3) := by decide +kernel
theorem dX6_ways_22 : decode cX6_ways 22 = .ok (.iload_n 0, 1) := by decide +kernel
theorem dX6_ways_23 : decode cX6_ways 23 = .ok (.iload_n 1, 1) := by decide +kernel
theorem dX6_ways_24 : decode cX6_ways 24 = .ok (.isub, 1) := by decide +kernel
theorem dX6_ways_25 : decode cX6_ways 25 = .ok (.istore_n 2, 1) := by decide +kernel
theorem dX6_ways_26 : decode cX6_ways 26 = .ok (.lconst 1, 1) := by decide +kernel
theorem dX6_ways_27 : decode cX6_ways 27 = .ok (.lstore_n 3, 1) := by decide +kernel
theorem dX6_ways_28 : decode cX6_ways 28 = .ok (.iconst 1, 1) := by decide +kernel
theorem dX6_ways_29 : decode cX6_ways 29 = .ok (.istore 5, 2) := by decide +kernel
theorem dX6_ways_31 : decode cX6_ways 31 = .ok (.iload 5, 2) := by decide +kernel
theorem dX6_ways_33 : decode cX6_ways 33 = .ok (.iload_n 2, 1) := by decide +kernel
theorem dX6_ways_34 : decode cX6_ways 34 = .ok (.if_icmp .gt 43, 3) := by decide +kernel
theorem dX6_ways_37 : decode cX6_ways 37 = .ok (.iload_n 0, 1) := by decide +kernel
theorem dX6_ways_38 : decode cX6_ways 38 = .ok (.iload_n 2, 1) := by decide +kernel
theorem dX6_ways_39 : decode cX6_ways 39 = .ok (.isub, 1) := by decide +kernel
theorem dX6_ways_40 : decode cX6_ways 40 = .ok (.iload 5, 2) := by decide +kernel
theorem dX6_ways_42 : decode cX6_ways 42 = .ok (.iadd, 1) := by decide +kernel
theorem dX6_ways_43 : decode cX6_ways 43 = .ok (.i2l, 1) := by decide +kernel
theorem dX6_ways_44 : decode cX6_ways 44 = .ok (.lstore 6, 2) := by decide +kernel
theorem dX6_ways_46 : decode cX6_ways 46 = .ok (.lload 6, 2) := by decide +kernel
theorem dX6_ways_48 : decode cX6_ways 48 = .ok (.iload 5, 2) := by decide +kernel
theorem dX6_ways_50 : decode cX6_ways 50 = .ok (.i2l, 1) := by decide +kernel
theorem dX6_ways_51 : decode cX6_ways 51 = .ok (.invokestatic 125, 3) := by decide +kernel
theorem dX6_ways_54 : decode cX6_ways 54 = .ok (.lstore 8, 2) := by decide +kernel
theorem dX6_ways_56 : decode cX6_ways 56 = .ok (.lload_n 3, 1) := by decide +kernel
theorem dX6_ways_57 : decode cX6_ways 57 = .ok (.iload 5, 2) := by decide +kernel
theorem dX6_ways_59 : decode cX6_ways 59 = .ok (.i2l, 1) := by decide +kernel
theorem dX6_ways_60 : decode cX6_ways 60 = .ok (.lload 8, 2) := by decide +kernel
theorem dX6_ways_62 : decode cX6_ways 62 = .ok (.ldiv, 1) := by decide +kernel
theorem dX6_ways_63 : decode cX6_ways 63 = .ok (.ldiv, 1) := by decide +kernel
theorem dX6_ways_64 : decode cX6_ways 64 = .ok (.lload 6, 2) := by decide +kernel
theorem dX6_ways_66 : decode cX6_ways 66 = .ok (.lload 8, 2) := by decide +kernel
theorem dX6_ways_68 : decode cX6_ways 68 = .ok (.ldiv, 1) := by decide +kernel
theorem dX6_ways_69 : decode cX6_ways 69 = .ok (.lmul, 1) := by decide +kernel
theorem dX6_ways_70 : decode cX6_ways 70 = .ok (.lstore_n 3, 1) := by decide +kernel
theorem dX6_ways_71 : decode cX6_ways 71 = .ok (.iinc 5 1, 3) := by decide +kernel
theorem dX6_ways_74 : decode cX6_ways 74 = .ok (.goto (-43), 3) := by decide +kernel
theorem dX6_ways_77 : decode cX6_ways 77 = .ok (.lload_n 3, 1) := by decide +kernel
theorem dX6_ways_78 : decode cX6_ways 78 = .ok (.lreturn, 1) := by decide +kernel
theorem dX6_shared_0 : decode cX6_shared 0 = .ok (.lload_n 0, 1) := by decide +kernel
theorem dX6_shared_1 : decode cX6_shared 1 = .ok (.lstore 4, 2) := by decide +kernel
theorem dX6_shared_3 : decode cX6_shared 3 = .ok (.lload_n 2, 1) := by decide +kernel
theorem dX6_shared_4 : decode cX6_shared 4 = .ok (.lstore 6, 2) := by decide +kernel
theorem dX6_shared_6 : decode cX6_shared 6 = .ok (.lload 6, 2) := by decide +kernel
theorem dX6_shared_8 : decode cX6_shared 8 = .ok (.lconst 0, 1) := by decide +kernel
theorem dX6_shared_9 : decode cX6_shared 9 = .ok (.lcmp, 1) := by decide +kernel
theorem dX6_shared_10 : decode cX6_shared 10 = .ok (.ifCond .le 21, 3) := by decide +kernel
theorem dX6_shared_13 : decode cX6_shared 13 = .ok (.lload 4, 2) := by decide +kernel
theorem dX6_shared_15 : decode cX6_shared 15 = .ok (.lload 6, 2) := by decide +kernel
theorem dX6_shared_17 : decode cX6_shared 17 = .ok (.lrem, 1) := by decide +kernel
theorem dX6_shared_18 : decode cX6_shared 18 = .ok (.lstore 8, 2) := by decide +kernel
theorem dX6_shared_20 : decode cX6_shared 20 = .ok (.lload 6, 2) := by decide +kernel
theorem dX6_shared_22 : decode cX6_shared 22 = .ok (.lstore 4, 2) := by decide +kernel
theorem dX6_shared_24 : decode cX6_shared 24 = .ok (.lload 8, 2) := by decide +kernel
theorem dX6_shared_26 : decode cX6_shared 26 = .ok (.lstore 6, 2) := by decide +kernel
theorem dX6_shared_28 : decode cX6_shared 28 = .ok (.goto (-22), 3) := by decide +kernel
theorem dX6_shared_31 : decode cX6_shared 31 = .ok (.lload 4, 2) := by decide +kernel
theorem dX6_shared_33 : decode cX6_shared 33 = .ok (.lreturn, 1) := by decide +kernel
set_option maxRecDepth 20000 in
theorem ggX6_samples_X6_in : GoodIn wsX6_samples wsX6_in := goodIn_r _ [5] (by decide +kernel) (by decide +kernel)
set_option maxRecDepth 20000 in
theorem gX6_samples_X6_in : GoodIn wsX6_samples (va_wsS RX6 48 yX6_in wsX6_in) := goodIn_app (goodIn_of _ (by decide +kernel)) ggX6_samples_X6_in
set_option maxRecDepth 20000 in
theorem ggX6_samples_X6_ways : GoodIn wsX6_samples wsX6_ways := goodIn_r _ [8, 9, 10, 4, 11] (by decide +kernel) (by decide +kernel)
set_option maxRecDepth 20000 in
theorem gX6_samples_X6_ways : GoodIn wsX6_samples (va_wsS RX6 129 yX6_ways wsX6_ways) := goodIn_app (goodIn_of _ (by decide +kernel)) ggX6_samples_X6_ways
theorem dX6_samples_0 : decode cX6_samples 0 = .ok (.aload_n 0, 1) := by decide +kernel
theorem dX6_samples_1 : decode cX6_samples 1 = .ok (.iload_n 1, 1) := by decide +kernel
theorem dX6_samples_2 : decode cX6_samples 2 = .ok (.iconst 2, 1) := by decide +kernel
theorem dX6_samples_3 : decode cX6_samples 3 = .ok (.bipush 60, 2) := by decide +kernel
theorem dX6_samples_5 : decode cX6_samples 5 = .ok (.invokestatic 48, 3) := by decide +kernel
theorem dX6_samples_8 : decode cX6_samples 8 = .ok (.ifCond .eq 16, 3) := by decide +kernel
theorem dX6_samples_11 : decode cX6_samples 11 = .ok (.iload_n 2, 1) := by decide +kernel
theorem dX6_samples_12 : decode cX6_samples 12 = .ok (.iconst 1, 1) := by decide +kernel
theorem dX6_samples_13 : decode cX6_samples 13 = .ok (.iload_n 1, 1) := by decide +kernel
theorem dX6_samples_14 : decode cX6_samples 14 = .ok (.invokestatic 48, 3) := by decide +kernel
theorem dX6_samples_17 : decode cX6_samples 17 = .ok (.ifCond .eq 7, 3) := by decide +kernel
theorem dX6_samples_20 : decode cX6_samples 20 = .ok (.iconst 0, 1) := by decide +kernel
theorem dX6_samples_21 : decode cX6_samples 21 = .ok (.goto 4, 3) := by decide +kernel
theorem dX6_samples_24 : decode cX6_samples 24 = .ok (.iconst 1, 1) := by decide +kernel
theorem dX6_samples_25 : decode cX6_samples 25 = .ok (.putfield 45, 3) := by decide +kernel
theorem dX6_samples_28 : decode cX6_samples 28 = .ok (.aload_n 0, 1) := by decide +kernel
theorem dX6_samples_29 : decode cX6_samples 29 = .ok (.getfield 45, 3) := by decide +kernel
theorem dX6_samples_32 : decode cX6_samples 32 = .ok (.ifCond .ne 11, 3) := by decide +kernel
theorem dX6_samples_35 : decode cX6_samples 35 = .ok (.iload_n 1, 1) := by decide +kernel
theorem dX6_samples_36 : decode cX6_samples 36 = .ok (.iload_n 2, 1) := by decide +kernel
theorem dX6_samples_37 : decode cX6_samples 37 = .ok (.invokestatic 129, 3) := by decide +kernel
theorem dX6_samples_40 : decode cX6_samples 40 = .ok (.goto 4, 3) := by decide +kernel
theorem dX6_samples_43 : decode cX6_samples 43 = .ok (.lconst 0, 1) := by decide +kernel
theorem dX6_samples_44 : decode cX6_samples 44 = .ok (.lreturn, 1) := by decide +kernel
set_option maxRecDepth 20000 in
theorem ggX6_upTo_X6_ways : GoodIn wsX6_upTo wsX6_ways := goodIn_r _ [4, 5, 6, 3, 7] (by decide +kernel) (by decide +kernel)
set_option maxRecDepth 20000 in
theorem gX6_upTo_X6_ways : GoodIn wsX6_upTo (va_wsS RX6 129 yX6_ways wsX6_ways) := goodIn_app (goodIn_of _ (by decide +kernel)) ggX6_upTo_X6_ways
theorem dX6_upTo_0 : decode cX6_upTo 0 = .ok (.lconst 0, 1) := by decide +kernel
theorem dX6_upTo_1 : decode cX6_upTo 1 = .ok (.lstore 4, 2) := by decide +kernel
theorem dX6_upTo_3 : decode cX6_upTo 3 = .ok (.iconst 0, 1) := by decide +kernel
theorem dX6_upTo_4 : decode cX6_upTo 4 = .ok (.istore 6, 2) := by decide +kernel
theorem dX6_upTo_6 : decode cX6_upTo 6 = .ok (.iload 6, 2) := by decide +kernel
theorem dX6_upTo_8 : decode cX6_upTo 8 = .ok (.iload_n 3, 1) := by decide +kernel
theorem dX6_upTo_9 : decode cX6_upTo 9 = .ok (.if_icmp .gt 37, 3) := by decide +kernel
theorem dX6_upTo_12 : decode cX6_upTo 12 = .ok (.iload 6, 2) := by decide +kernel
theorem dX6_upTo_14 : decode cX6_upTo 14 = .ok (.iload_n 2, 1) := by decide +kernel
theorem dX6_upTo_15 : decode cX6_upTo 15 = .ok (.if_icmp .gt 31, 3) := by decide +kernel
theorem dX6_upTo_18 : decode cX6_upTo 18 = .ok (.lload 4, 2) := by decide +kernel
theorem dX6_upTo_20 : decode cX6_upTo 20 = .ok (.iload_n 1, 1) := by decide +kernel
theorem dX6_upTo_21 : decode cX6_upTo 21 = .ok (.iload 6, 2) := by decide +kernel
theorem dX6_upTo_23 : decode cX6_upTo 23 = .ok (.invokestatic 129, 3) := by decide +kernel
theorem dX6_upTo_26 : decode cX6_upTo 26 = .ok (.iload_n 0, 1) := by decide +kernel
theorem dX6_upTo_27 : decode cX6_upTo 27 = .ok (.iload_n 1, 1) := by decide +kernel
theorem dX6_upTo_28 : decode cX6_upTo 28 = .ok (.isub, 1) := by decide +kernel
theorem dX6_upTo_29 : decode cX6_upTo 29 = .ok (.iload_n 2, 1) := by decide +kernel
theorem dX6_upTo_30 : decode cX6_upTo 30 = .ok (.iload 6, 2) := by decide +kernel
theorem dX6_upTo_32 : decode cX6_upTo 32 = .ok (.isub, 1) := by decide +kernel
theorem dX6_upTo_33 : decode cX6_upTo 33 = .ok (.invokestatic 129, 3) := by decide +kernel
theorem dX6_upTo_36 : decode cX6_upTo 36 = .ok (.lmul, 1) := by decide +kernel
theorem dX6_upTo_37 : decode cX6_upTo 37 = .ok (.ladd, 1) := by decide +kernel
theorem dX6_upTo_38 : decode cX6_upTo 38 = .ok (.lstore 4, 2) := by decide +kernel
theorem dX6_upTo_40 : decode cX6_upTo 40 = .ok (.iinc 6 1, 3) := by decide +kernel
theorem dX6_upTo_43 : decode cX6_upTo 43 = .ok (.goto (-37), 3) := by decide +kernel
theorem dX6_upTo_46 : decode cX6_upTo 46 = .ok (.lload 4, 2) := by decide +kernel
theorem dX6_upTo_48 : decode cX6_upTo 48 = .ok (.lreturn, 1) := by decide +kernel
set_option maxRecDepth 20000 in
theorem ggX6_accepted_X6_in : GoodIn wsX6_accepted wsX6_in := goodIn_r _ [5] (by decide +kernel) (by decide +kernel)
set_option maxRecDepth 20000 in
theorem gX6_accepted_X6_in : GoodIn wsX6_accepted (va_wsS RX6 48 yX6_in wsX6_in) := goodIn_app (goodIn_of _ (by decide +kernel)) ggX6_accepted_X6_in
set_option maxRecDepth 20000 in
theorem ggX6_accepted_X6_upTo : GoodIn wsX6_accepted wsX6_upTo := goodIn_r _ [8, 9, 10, 4, 11, 12, 13, 14] (by decide +kernel) (by decide +kernel)
set_option maxRecDepth 20000 in
theorem gX6_accepted_X6_upTo : GoodIn wsX6_accepted (va_wsS RX6 133 yX6_upTo wsX6_upTo) := goodIn_app (goodIn_of _ (by decide +kernel)) ggX6_accepted_X6_upTo
theorem dX6_accepted_0 : decode cX6_accepted 0 = .ok (.aload_n 0, 1) := by decide +kernel
theorem dX6_accepted_1 : decode cX6_accepted 1 = .ok (.iload_n 1, 1) := by decide +kernel
theorem dX6_accepted_2 : decode cX6_accepted 2 = .ok (.iconst 2, 1) := by decide +kernel
theorem dX6_accepted_3 : decode cX6_accepted 3 = .ok (.bipush 60, 2) := by decide +kernel
theorem dX6_accepted_5 : decode cX6_accepted 5 = .ok (.invokestatic 48, 3) := by decide +kernel
theorem dX6_accepted_8 : decode cX6_accepted 8 = .ok (.ifCond .eq 36, 3) := by decide +kernel
theorem dX6_accepted_11 : decode cX6_accepted 11 = .ok (.iload_n 2, 1) := by decide +kernel
theorem dX6_accepted_12 : decode cX6_accepted 12 = .ok (.iconst 0, 1) := by decide +kernel
theorem dX6_accepted_13 : decode cX6_accepted 13 = .ok (.iload_n 1, 1) := by decide +kernel
theorem dX6_accepted_14 : decode cX6_accepted 14 = .ok (.invokestatic 48, 3) := by decide +kernel
theorem dX6_accepted_17 : decode cX6_accepted 17 = .ok (.ifCond .eq 27, 3) := by decide +kernel
theorem dX6_accepted_20 : decode cX6_accepted 20 = .ok (.iload_n 3, 1) := by decide +kernel
theorem dX6_accepted_21 : decode cX6_accepted 21 = .ok (.iconst 1, 1) := by decide +kernel
theorem dX6_accepted_22 : decode cX6_accepted 22 = .ok (.iload_n 1, 1) := by decide +kernel
theorem dX6_accepted_23 : decode cX6_accepted 23 = .ok (.invokestatic 48, 3) := by decide +kernel
theorem dX6_accepted_26 : decode cX6_accepted 26 = .ok (.ifCond .eq 18, 3) := by decide +kernel
theorem dX6_accepted_29 : decode cX6_accepted 29 = .ok (.iload 4, 2) := by decide +kernel
theorem dX6_accepted_31 : decode cX6_accepted 31 = .ok (.iconst 0, 1) := by decide +kernel
theorem dX6_accepted_32 : decode cX6_accepted 32 = .ok (.bipush 60, 2) := by decide +kernel
theorem dX6_accepted_34 : decode cX6_accepted 34 = .ok (.invokestatic 48, 3) := by decide +kernel
theorem dX6_accepted_37 : decode cX6_accepted 37 = .ok (.ifCond .eq 7, 3) := by decide +kernel
theorem dX6_accepted_40 : decode cX6_accepted 40 = .ok (.iconst 0, 1) := by decide +kernel
theorem dX6_accepted_41 : decode cX6_accepted 41 = .ok (.goto 4, 3) := by decide +kernel
theorem dX6_accepted_44 : decode cX6_accepted 44 = .ok (.iconst 1, 1) := by decide +kernel
theorem dX6_accepted_45 : decode cX6_accepted 45 = .ok (.putfield 45, 3) := by decide +kernel
theorem dX6_accepted_48 : decode cX6_accepted 48 = .ok (.aload_n 0, 1) := by decide +kernel
theorem dX6_accepted_49 : decode cX6_accepted 49 = .ok (.getfield 45, 3) := by decide +kernel
theorem dX6_accepted_52 : decode cX6_accepted 52 = .ok (.ifCond .ne 14, 3) := by decide +kernel
theorem dX6_accepted_55 : decode cX6_accepted 55 = .ok (.iload_n 1, 1) := by decide +kernel
theorem dX6_accepted_56 : decode cX6_accepted 56 = .ok (.iload_n 2, 1) := by decide +kernel
theorem dX6_accepted_57 : decode cX6_accepted 57 = .ok (.iload_n 3, 1) := by decide +kernel
theorem dX6_accepted_58 : decode cX6_accepted 58 = .ok (.iload 4, 2) := by decide +kernel
theorem dX6_accepted_60 : decode cX6_accepted 60 = .ok (.invokestatic 133, 3) := by decide +kernel
theorem dX6_accepted_63 : decode cX6_accepted 63 = .ok (.goto 4, 3) := by decide +kernel
theorem dX6_accepted_66 : decode cX6_accepted 66 = .ok (.lconst 0, 1) := by decide +kernel
theorem dX6_accepted_67 : decode cX6_accepted 67 = .ok (.lreturn, 1) := by decide +kernel
set_option maxRecDepth 20000 in
theorem ggX6_acceptedByListing_X6_in : GoodIn wsX6_acceptedByListing wsX6_in := goodIn_r _ [5] (by decide +kernel) (by decide +kernel)
set_option maxRecDepth 20000 in
theorem gX6_acceptedByListing_X6_in : GoodIn wsX6_acceptedByListing (va_wsS RX6 48 yX6_in wsX6_in) := goodIn_app (goodIn_of _ (by decide +kernel)) ggX6_acceptedByListing_X6_in
theorem dX6_acceptedByListing_0 : decode cX6_acceptedByListing 0 = .ok (.aload_n 0, 1) := by decide +kernel
theorem dX6_acceptedByListing_1 : decode cX6_acceptedByListing 1 = .ok (.iload_n 1, 1) := by decide +kernel
theorem dX6_acceptedByListing_2 : decode cX6_acceptedByListing 2 = .ok (.iconst 2, 1) := by decide +kernel
theorem dX6_acceptedByListing_3 : decode cX6_acceptedByListing 3 = .ok (.bipush 14, 2) := by decide +kernel
theorem dX6_acceptedByListing_5 : decode cX6_acceptedByListing 5 = .ok (.invokestatic 48, 3) := by decide +kernel
theorem dX6_acceptedByListing_8 : decode cX6_acceptedByListing 8 = .ok (.ifCond .eq 36, 3) := by decide +kernel
theorem dX6_acceptedByListing_11 : decode cX6_acceptedByListing 11 = .ok (.iload_n 2, 1) := by decide +kernel
theorem dX6_acceptedByListing_12 : decode cX6_acceptedByListing 12 = .ok (.iconst 0, 1) := by decide +kernel
theorem dX6_acceptedByListing_13 : decode cX6_acceptedByListing 13 = .ok (.iload_n 1, 1) := by decide +kernel
theorem dX6_acceptedByListing_14 : decode cX6_acceptedByListing 14 = .ok (.invokestatic 48, 3) := by decide +kernel
theorem dX6_acceptedByListing_17 : decode cX6_acceptedByListing 17 = .ok (.ifCond .eq 27, 3) := by decide +kernel
theorem dX6_acceptedByListing_20 : decode cX6_acceptedByListing 20 = .ok (.iload_n 3, 1) := by decide +kernel
theorem dX6_acceptedByListing_21 : decode cX6_acceptedByListing 21 = .ok (.iconst 1, 1) := by decide +kernel
theorem dX6_acceptedByListing_22 : decode cX6_acceptedByListing 22 = .ok (.iload_n 1, 1) := by decide +kernel
theorem dX6_acceptedByListing_23 : decode cX6_acceptedByListing 23 = .ok (.invokestatic 48, 3) := by decide +kernel
theorem dX6_acceptedByListing_26 : decode cX6_acceptedByListing 26 = .ok (.ifCond .eq 18, 3) := by decide +kernel
theorem dX6_acceptedByListing_29 : decode cX6_acceptedByListing 29 = .ok (.iload 4, 2) := by decide +kernel
theorem dX6_acceptedByListing_31 : decode cX6_acceptedByListing 31 = .ok (.iconst 0, 1) := by decide +kernel
theorem dX6_acceptedByListing_32 : decode cX6_acceptedByListing 32 = .ok (.bipush 60, 2) := by decide +kernel
theorem dX6_acceptedByListing_34 : decode cX6_acceptedByListing 34 = .ok (.invokestatic 48, 3) := by decide +kernel
theorem dX6_acceptedByListing_37 : decode cX6_acceptedByListing 37 = .ok (.ifCond .eq 7, 3) := by decide +kernel
theorem dX6_acceptedByListing_40 : decode cX6_acceptedByListing 40 = .ok (.iconst 0, 1) := by decide +kernel
theorem dX6_acceptedByListing_41 : decode cX6_acceptedByListing 41 = .ok (.goto 4, 3) := by decide +kernel
theorem dX6_acceptedByListing_44 : decode cX6_acceptedByListing 44 = .ok (.iconst 1, 1) := by decide +kernel
theorem dX6_acceptedByListing_45 : decode cX6_acceptedByListing 45 = .ok (.putfield 45, 3) := by decide +kernel
theorem dX6_acceptedByListing_48 : decode cX6_acceptedByListing 48 = .ok (.lconst 0, 1) := by decide +kernel
theorem dX6_acceptedByListing_49 : decode cX6_acceptedByListing 49 = .ok (.lstore 5, 2) := by decide +kernel
theorem dX6_acceptedByListing_51 : decode cX6_acceptedByListing 51 = .ok (.iconst 0, 1) := by decide +kernel
theorem dX6_acceptedByListing_52 : decode cX6_acceptedByListing 52 = .ok (.istore 7, 2) := by decide +kernel
theorem dX6_acceptedByListing_54 : decode cX6_acceptedByListing 54 = .ok (.aload_n 0, 1) := by decide +kernel
theorem dX6_acceptedByListing_55 : decode cX6_acceptedByListing 55 = .ok (.getfield 45, 3) := by decide +kernel
theorem dX6_acceptedByListing_58 : decode cX6_acceptedByListing 58 = .ok (.ifCond .ne 95, 3) := by decide +kernel
theorem dX6_acceptedByListing_61 : decode cX6_acceptedByListing 61 = .ok (.iload 7, 2) := by decide +kernel
theorem dX6_acceptedByListing_63 : decode cX6_acceptedByListing 63 = .ok (.iconst 1, 1) := by decide +kernel
theorem dX6_acceptedByListing_64 : decode cX6_acceptedByListing 64 = .ok (.iload_n 1, 1) := by decide +kernel
theorem dX6_acceptedByListing_65 : decode cX6_acceptedByListing 65 = .ok (.ishl, 1) := by decide +kernel
theorem dX6_acceptedByListing_66 : decode cX6_acceptedByListing 66 = .ok (.if_icmp .ge 87, 3) := by decide +kernel
theorem dX6_acceptedByListing_69 : decode cX6_acceptedByListing 69 = .ok (.iconst 0, 1) := by decide +kernel
theorem dX6_acceptedByListing_70 : decode cX6_acceptedByListing 70 = .ok (.istore 8, 2) := by decide +kernel
theorem dX6_acceptedByListing_72 : decode cX6_acceptedByListing 72 = .ok (.iconst 0, 1) := by decide +kernel
theorem dX6_acceptedByListing_73 : decode cX6_acceptedByListing 73 = .ok (.istore 9, 2) := by decide +kernel
theorem dX6_acceptedByListing_75 : decode cX6_acceptedByListing 75 = .ok (.iconst 0, 1) := by decide +kernel
theorem dX6_acceptedByListing_76 : decode cX6_acceptedByListing 76 = .ok (.istore 10, 2) := by decide +kernel
theorem dX6_acceptedByListing_78 : decode cX6_acceptedByListing 78 = .ok (.iload 10, 2) := by decide +kernel
theorem dX6_acceptedByListing_80 : decode cX6_acceptedByListing 80 = .ok (.iload_n 1, 1) := by decide +kernel
theorem dX6_acceptedByListing_81 : decode cX6_acceptedByListing 81 = .ok (.if_icmp .ge 43, 3) := by decide +kernel
theorem dX6_acceptedByListing_84 : decode cX6_acceptedByListing 84 = .ok (.iload 8, 2) := by decide +kernel
theorem dX6_acceptedByListing_86 : decode cX6_acceptedByListing 86 = .ok (.iload 7, 2) := by decide +kernel
theorem dX6_acceptedByListing_88 : decode cX6_acceptedByListing 88 = .ok (.iload 10, 2) := by decide +kernel
theorem dX6_acceptedByListing_90 : decode cX6_acceptedByListing 90 = .ok (.ishr, 1) := by decide +kernel
theorem dX6_acceptedByListing_91 : decode cX6_acceptedByListing 91 = .ok (.iconst 1, 1) := by decide +kernel
theorem dX6_acceptedByListing_92 : decode cX6_acceptedByListing 92 = .ok (.iand, 1) := by decide +kernel
theorem dX6_acceptedByListing_93 : decode cX6_acceptedByListing 93 = .ok (.iadd, 1) := by decide +kernel
theorem dX6_acceptedByListing_94 : decode cX6_acceptedByListing 94 = .ok (.istore 8, 2) := by decide +kernel
theorem dX6_acceptedByListing_96 : decode cX6_acceptedByListing 96 = .ok (.iload 9, 2) := by decide +kernel
theorem dX6_acceptedByListing_98 : decode cX6_acceptedByListing 98 = .ok (.iload 10, 2) := by decide +kernel
theorem dX6_acceptedByListing_100 : decode cX6_acceptedByListing 100 = .ok (.iload_n 2, 1) := by decide +kernel
theorem dX6_acceptedByListing_101 : decode cX6_acceptedByListing 101 = .ok (.if_icmp .ge 13, 3) := by decide +kernel
theorem dX6_acceptedByListing_104 : decode cX6_acceptedByListing 104 = .ok (.iload 7, 2) := by decide +kernel
theorem dX6_acceptedByListing_106 : decode cX6_acceptedByListing 106 = .ok (.iload 10, 2) := by decide +kernel
theorem dX6_acceptedByListing_108 : decode cX6_acceptedByListing 108 = .ok (.ishr, 1) := by decide +kernel
theorem dX6_acceptedByListing_109 : decode cX6_acceptedByListing 109 = .ok (.iconst 1, 1) := by decide +kernel
theorem dX6_acceptedByListing_110 : decode cX6_acceptedByListing 110 = .ok (.iand, 1) := by decide +kernel
theorem dX6_acceptedByListing_111 : decode cX6_acceptedByListing 111 = .ok (.goto 4, 3) := by decide +kernel
theorem dX6_acceptedByListing_114 : decode cX6_acceptedByListing 114 = .ok (.iconst 0, 1) := by decide +kernel
theorem dX6_acceptedByListing_115 : decode cX6_acceptedByListing 115 = .ok (.iadd, 1) := by decide +kernel
theorem dX6_acceptedByListing_116 : decode cX6_acceptedByListing 116 = .ok (.istore 9, 2) := by decide +kernel
theorem dX6_acceptedByListing_118 : decode cX6_acceptedByListing 118 = .ok (.iinc 10 1, 3) := by decide +kernel
theorem dX6_acceptedByListing_121 : decode cX6_acceptedByListing 121 = .ok (.goto (-43), 3) := by decide +kernel
theorem dX6_acceptedByListing_124 : decode cX6_acceptedByListing 124 = .ok (.lload 5, 2) := by decide +kernel
theorem dX6_acceptedByListing_126 : decode cX6_acceptedByListing 126 = .ok (.iload 8, 2) := by decide +kernel
theorem dX6_acceptedByListing_128 : decode cX6_acceptedByListing 128 = .ok (.iload_n 3, 1) := by decide +kernel
theorem dX6_acceptedByListing_129 : decode cX6_acceptedByListing 129 = .ok (.if_icmp .ne 14, 3) := by decide +kernel
theorem dX6_acceptedByListing_132 : decode cX6_acceptedByListing 132 = .ok (.iload 9, 2) := by decide +kernel
theorem dX6_acceptedByListing_134 : decode cX6_acceptedByListing 134 = .ok (.iload 4, 2) := by decide +kernel
theorem dX6_acceptedByListing_136 : decode cX6_acceptedByListing 136 = .ok (.if_icmp .gt 7, 3) := by decide +kernel
theorem dX6_acceptedByListing_139 : decode cX6_acceptedByListing 139 = .ok (.lconst 1, 1) := by decide +kernel
theorem dX6_acceptedByListing_140 : decode cX6_acceptedByListing 140 = .ok (.goto 4, 3) := by decide +kernel
theorem dX6_acceptedByListing_143 : decode cX6_acceptedByListing 143 = .ok (.lconst 0, 1) := by decide +kernel
theorem dX6_acceptedByListing_144 : decode cX6_acceptedByListing 144 = .ok (.ladd, 1) := by decide +kernel
theorem dX6_acceptedByListing_145 : decode cX6_acceptedByListing 145 = .ok (.lstore 5, 2) := by decide +kernel
theorem dX6_acceptedByListing_147 : decode cX6_acceptedByListing 147 = .ok (.iinc 7 1, 3) := by decide +kernel
theorem dX6_acceptedByListing_150 : decode cX6_acceptedByListing 150 = .ok (.goto (-96), 3) := by decide +kernel
theorem dX6_acceptedByListing_153 : decode cX6_acceptedByListing 153 = .ok (.lload 5, 2) := by decide +kernel
theorem dX6_acceptedByListing_155 : decode cX6_acceptedByListing 155 = .ok (.lreturn, 1) := by decide +kernel
set_option maxRecDepth 20000 in
theorem ggX6_acceptedTwice_X6_in : GoodIn wsX6_acceptedTwice wsX6_in := goodIn_r _ [5] (by decide +kernel) (by decide +kernel)
set_option maxRecDepth 20000 in
theorem gX6_acceptedTwice_X6_in : GoodIn wsX6_acceptedTwice (va_wsS RX6 48 yX6_in wsX6_in) := goodIn_app (goodIn_of _ (by decide +kernel)) ggX6_acceptedTwice_X6_in
set_option maxRecDepth 20000 in
theorem ggX6_acceptedTwice_X6_ways : GoodIn wsX6_acceptedTwice wsX6_ways := goodIn_r _ [8, 9, 10, 4, 11] (by decide +kernel) (by decide +kernel)
set_option maxRecDepth 20000 in
theorem gX6_acceptedTwice_X6_ways : GoodIn wsX6_acceptedTwice (va_wsS RX6 129 yX6_ways wsX6_ways) := goodIn_app (goodIn_of _ (by decide +kernel)) ggX6_acceptedTwice_X6_ways
set_option maxRecDepth 20000 in
theorem ggX6_acceptedTwice_X6_upTo : GoodIn wsX6_acceptedTwice wsX6_upTo := goodIn_r _ [14, 6, 7, 4, 8, 9, 10, 11] (by decide +kernel) (by decide +kernel)
set_option maxRecDepth 20000 in
theorem gX6_acceptedTwice_X6_upTo : GoodIn wsX6_acceptedTwice (va_wsS RX6 133 yX6_upTo wsX6_upTo) := goodIn_app (goodIn_of _ (by decide +kernel)) ggX6_acceptedTwice_X6_upTo
theorem dX6_acceptedTwice_0 : decode cX6_acceptedTwice 0 = .ok (.aload_n 0, 1) := by decide +kernel
theorem dX6_acceptedTwice_1 : decode cX6_acceptedTwice 1 = .ok (.iload_n 1, 1) := by decide +kernel
theorem dX6_acceptedTwice_2 : decode cX6_acceptedTwice 2 = .ok (.iconst 2, 1) := by decide +kernel
theorem dX6_acceptedTwice_3 : decode cX6_acceptedTwice 3 = .ok (.bipush 30, 2) := by decide +kernel
theorem dX6_acceptedTwice_5 : decode cX6_acceptedTwice 5 = .ok (.invokestatic 48, 3) := by decide +kernel
theorem dX6_acceptedTwice_8 : decode cX6_acceptedTwice 8 = .ok (.ifCond .eq 38, 3) := by decide +kernel
theorem dX6_acceptedTwice_11 : decode cX6_acceptedTwice 11 = .ok (.iload_n 2, 1) := by decide +kernel
theorem dX6_acceptedTwice_12 : decode cX6_acceptedTwice 12 = .ok (.iconst 0, 1) := by decide +kernel
theorem dX6_acceptedTwice_13 : decode cX6_acceptedTwice 13 = .ok (.iload_n 1, 1) := by decide +kernel
theorem dX6_acceptedTwice_14 : decode cX6_acceptedTwice 14 = .ok (.invokestatic 48, 3) := by decide +kernel
theorem dX6_acceptedTwice_17 : decode cX6_acceptedTwice 17 = .ok (.ifCond .eq 29, 3) := by decide +kernel
theorem dX6_acceptedTwice_20 : decode cX6_acceptedTwice 20 = .ok (.iload_n 3, 1) := by decide +kernel
theorem dX6_acceptedTwice_21 : decode cX6_acceptedTwice 21 = .ok (.iconst 1, 1) := by decide +kernel
theorem dX6_acceptedTwice_22 : decode cX6_acceptedTwice 22 = .ok (.iload_n 1, 1) := by decide +kernel
theorem dX6_acceptedTwice_23 : decode cX6_acceptedTwice 23 = .ok (.iconst 2, 1) := by decide +kernel
theorem dX6_acceptedTwice_24 : decode cX6_acceptedTwice 24 = .ok (.idiv, 1) := by decide +kernel
theorem dX6_acceptedTwice_25 : decode cX6_acceptedTwice 25 = .ok (.invokestatic 48, 3) := by decide +kernel
theorem dX6_acceptedTwice_28 : decode cX6_acceptedTwice 28 = .ok (.ifCond .eq 18, 3) := by decide +kernel
theorem dX6_acceptedTwice_31 : decode cX6_acceptedTwice 31 = .ok (.iload 4, 2) := by decide +kernel
theorem dX6_acceptedTwice_33 : decode cX6_acceptedTwice 33 = .ok (.iconst 0, 1) := by decide +kernel
theorem dX6_acceptedTwice_34 : decode cX6_acceptedTwice 34 = .ok (.bipush 60, 2) := by decide +kernel
theorem dX6_acceptedTwice_36 : decode cX6_acceptedTwice 36 = .ok (.invokestatic 48, 3) := by decide +kernel
theorem dX6_acceptedTwice_39 : decode cX6_acceptedTwice 39 = .ok (.ifCond .eq 7, 3) := by decide +kernel
theorem dX6_acceptedTwice_42 : decode cX6_acceptedTwice 42 = .ok (.iconst 0, 1) := by decide +kernel
theorem dX6_acceptedTwice_43 : decode cX6_acceptedTwice 43 = .ok (.goto 4, 3) := by decide +kernel
theorem dX6_acceptedTwice_46 : decode cX6_acceptedTwice 46 = .ok (.iconst 1, 1) := by decide +kernel
theorem dX6_acceptedTwice_47 : decode cX6_acceptedTwice 47 = .ok (.putfield 45, 3) := by decide +kernel
theorem dX6_acceptedTwice_50 : decode cX6_acceptedTwice 50 = .ok (.lconst 0, 1) := by decide +kernel
theorem dX6_acceptedTwice_51 : decode cX6_acceptedTwice 51 = .ok (.lstore 5, 2) := by decide +kernel
theorem dX6_acceptedTwice_53 : decode cX6_acceptedTwice 53 = .ok (.iconst 0, 1) := by decide +kernel
theorem dX6_acceptedTwice_54 : decode cX6_acceptedTwice 54 = .ok (.istore 7, 2) := by decide +kernel
theorem dX6_acceptedTwice_56 : decode cX6_acceptedTwice 56 = .ok (.aload_n 0, 1) := by decide +kernel
theorem dX6_acceptedTwice_57 : decode cX6_acceptedTwice 57 = .ok (.getfield 45, 3) := by decide +kernel
theorem dX6_acceptedTwice_60 : decode cX6_acceptedTwice 60 = .ok (.ifCond .ne 108, 3) := by decide +kernel
theorem dX6_acceptedTwice_63 : decode cX6_acceptedTwice 63 = .ok (.iload 7, 2) := by decide +kernel
theorem dX6_acceptedTwice_65 : decode cX6_acceptedTwice 65 = .ok (.iload_n 3, 1) := by decide +kernel
theorem dX6_acceptedTwice_66 : decode cX6_acceptedTwice 66 = .ok (.if_icmp .gt 102, 3) := by decide +kernel
theorem dX6_acceptedTwice_69 : decode cX6_acceptedTwice 69 = .ok (.iload 7, 2) := by decide +kernel
theorem dX6_acceptedTwice_71 : decode cX6_acceptedTwice 71 = .ok (.iload 4, 2) := by decide +kernel
theorem dX6_acceptedTwice_73 : decode cX6_acceptedTwice 73 = .ok (.if_icmp .gt 95, 3) := by decide +kernel
theorem dX6_acceptedTwice_76 : decode cX6_acceptedTwice 76 = .ok (.iload_n 2, 1) := by decide +kernel
theorem dX6_acceptedTwice_77 : decode cX6_acceptedTwice 77 = .ok (.iload 7, 2) := by decide +kernel
theorem dX6_acceptedTwice_79 : decode cX6_acceptedTwice 79 = .ok (.invokestatic 129, 3) := by decide +kernel
theorem dX6_acceptedTwice_82 : decode cX6_acceptedTwice 82 = .ok (.iload_n 1, 1) := by decide +kernel
theorem dX6_acceptedTwice_83 : decode cX6_acceptedTwice 83 = .ok (.iload_n 2, 1) := by decide +kernel
theorem dX6_acceptedTwice_84 : decode cX6_acceptedTwice 84 = .ok (.isub, 1) := by decide +kernel
theorem dX6_acceptedTwice_85 : decode cX6_acceptedTwice 85 = .ok (.iload_n 3, 1) := by decide +kernel
theorem dX6_acceptedTwice_86 : decode cX6_acceptedTwice 86 = .ok (.iload 7, 2) := by decide +kernel
theorem dX6_acceptedTwice_88 : decode cX6_acceptedTwice 88 = .ok (.isub, 1) := by decide +kernel
theorem dX6_acceptedTwice_89 : decode cX6_acceptedTwice 89 = .ok (.invokestatic 129, 3) := by decide +kernel
theorem dX6_acceptedTwice_92 : decode cX6_acceptedTwice 92 = .ok (.lmul, 1) := by decide +kernel
theorem dX6_acceptedTwice_93 : decode cX6_acceptedTwice 93 = .ok (.lstore 8, 2) := by decide +kernel
theorem dX6_acceptedTwice_95 : decode cX6_acceptedTwice 95 = .ok (.iload_n 1, 1) := by decide +kernel
theorem dX6_acceptedTwice_96 : decode cX6_acceptedTwice 96 = .ok (.iload_n 3, 1) := by decide +kernel
theorem dX6_acceptedTwice_97 : decode cX6_acceptedTwice 97 = .ok (.isub, 1) := by decide +kernel
theorem dX6_acceptedTwice_98 : decode cX6_acceptedTwice 98 = .ok (.istore 10, 2) := by decide +kernel
theorem dX6_acceptedTwice_100 : decode cX6_acceptedTwice 100 = .ok (.iload 4, 2) := by decide +kernel
theorem dX6_acceptedTwice_102 : decode cX6_acceptedTwice 102 = .ok (.iconst 2, 1) := by decide +kernel
theorem dX6_acceptedTwice_103 : decode cX6_acceptedTwice 103 = .ok (.if_icmp .lt 21, 3) := by decide +kernel
theorem dX6_acceptedTwice_106 : decode cX6_acceptedTwice 106 = .ok (.iload 7, 2) := by decide +kernel
theorem dX6_acceptedTwice_108 : decode cX6_acceptedTwice 108 = .ok (.iload 4, 2) := by decide +kernel
theorem dX6_acceptedTwice_110 : decode cX6_acceptedTwice 110 = .ok (.iconst 2, 1) := by decide +kernel
theorem dX6_acceptedTwice_111 : decode cX6_acceptedTwice 111 = .ok (.isub, 1) := by decide +kernel
theorem dX6_acceptedTwice_112 : decode cX6_acceptedTwice 112 = .ok (.if_icmp .gt 12, 3) := by decide +kernel
theorem dX6_acceptedTwice_115 : decode cX6_acceptedTwice 115 = .ok (.iload 10, 2) := by decide +kernel
theorem dX6_acceptedTwice_117 : decode cX6_acceptedTwice 117 = .ok (.iload_n 3, 1) := by decide +kernel
theorem dX6_acceptedTwice_118 : decode cX6_acceptedTwice 118 = .ok (.invokestatic 129, 3) := by decide +kernel
theorem dX6_acceptedTwice_121 : decode cX6_acceptedTwice 121 = .ok (.goto 29, 3) := by decide +kernel
theorem dX6_acceptedTwice_124 : decode cX6_acceptedTwice 124 = .ok (.lload 8, 2) := by decide +kernel
theorem dX6_acceptedTwice_126 : decode cX6_acceptedTwice 126 = .ok (.lconst 0, 1) := by decide +kernel
theorem dX6_acceptedTwice_127 : decode cX6_acceptedTwice 127 = .ok (.lcmp, 1) := by decide +kernel
theorem dX6_acceptedTwice_128 : decode cX6_acceptedTwice 128 = .ok (.ifCond .ne 7, 3) := by decide +kernel
theorem dX6_acceptedTwice_131 : decode cX6_acceptedTwice 131 = .ok (.lconst 0, 1) := by decide +kernel
theorem dX6_acceptedTwice_132 : decode cX6_acceptedTwice 132 = .ok (.goto 18, 3) := by decide +kernel
theorem dX6_acceptedTwice_135 : decode cX6_acceptedTwice 135 = .ok (.iload 10, 2) := by decide +kernel
theorem dX6_acceptedTwice_137 : decode cX6_acceptedTwice 137 = .ok (.iload_n 2, 1) := by decide +kernel
theorem dX6_acceptedTwice_138 : decode cX6_acceptedTwice 138 = .ok (.iload 7, 2) := by decide +kernel
theorem dX6_acceptedTwice_140 : decode cX6_acceptedTwice 140 = .ok (.isub, 1) := by decide +kernel
theorem dX6_acceptedTwice_141 : decode cX6_acceptedTwice 141 = .ok (.iload_n 3, 1) := by decide +kernel
theorem dX6_acceptedTwice_142 : decode cX6_acceptedTwice 142 = .ok (.iload 4, 2) := by decide +kernel
theorem dX6_acceptedTwice_144 : decode cX6_acceptedTwice 144 = .ok (.iload 7, 2) := by decide +kernel
theorem dX6_acceptedTwice_146 : decode cX6_acceptedTwice 146 = .ok (.isub, 1) := by decide +kernel
theorem dX6_acceptedTwice_147 : decode cX6_acceptedTwice 147 = .ok (.invokestatic 133, 3) := by decide +kernel
theorem dX6_acceptedTwice_150 : decode cX6_acceptedTwice 150 = .ok (.lstore 11, 2) := by decide +kernel
theorem dX6_acceptedTwice_152 : decode cX6_acceptedTwice 152 = .ok (.lload 5, 2) := by decide +kernel
theorem dX6_acceptedTwice_154 : decode cX6_acceptedTwice 154 = .ok (.lload 8, 2) := by decide +kernel
theorem dX6_acceptedTwice_156 : decode cX6_acceptedTwice 156 = .ok (.lload 11, 2) := by decide +kernel
theorem dX6_acceptedTwice_158 : decode cX6_acceptedTwice 158 = .ok (.lmul, 1) := by decide +kernel
theorem dX6_acceptedTwice_159 : decode cX6_acceptedTwice 159 = .ok (.ladd, 1) := by decide +kernel
theorem dX6_acceptedTwice_160 : decode cX6_acceptedTwice 160 = .ok (.lstore 5, 2) := by decide +kernel
theorem dX6_acceptedTwice_162 : decode cX6_acceptedTwice 162 = .ok (.iinc 7 1, 3) := by decide +kernel
theorem dX6_acceptedTwice_165 : decode cX6_acceptedTwice 165 = .ok (.goto (-109), 3) := by decide +kernel
theorem dX6_acceptedTwice_168 : decode cX6_acceptedTwice 168 = .ok (.lload 5, 2) := by decide +kernel
theorem dX6_acceptedTwice_170 : decode cX6_acceptedTwice 170 = .ok (.lreturn, 1) := by decide +kernel
theorem dJ6_bitCount_0f7a4_0 : decode cJ6_bitCount_0f7a4 0 = .ok (.iload_n 0, 1) := by decide +kernel
theorem dJ6_bitCount_0f7a4_1 : decode cJ6_bitCount_0f7a4 1 = .ok (.iload_n 0, 1) := by decide +kernel
theorem dJ6_bitCount_0f7a4_2 : decode cJ6_bitCount_0f7a4 2 = .ok (.iconst 1, 1) := by decide +kernel
theorem dJ6_bitCount_0f7a4_3 : decode cJ6_bitCount_0f7a4 3 = .ok (.iushr, 1) := by decide +kernel
theorem dJ6_bitCount_0f7a4_4 : decode cJ6_bitCount_0f7a4 4 = .ok (.ldc_w 265, 3) := by decide +kernel
theorem dJ6_bitCount_0f7a4_7 : decode cJ6_bitCount_0f7a4 7 = .ok (.iand, 1) := by decide +kernel
theorem dJ6_bitCount_0f7a4_8 : decode cJ6_bitCount_0f7a4 8 = .ok (.isub, 1) := by decide +kernel
theorem dJ6_bitCount_0f7a4_9 : decode cJ6_bitCount_0f7a4 9 = .ok (.istore_n 0, 1) := by decide +kernel
theorem dJ6_bitCount_0f7a4_10 : decode cJ6_bitCount_0f7a4 10 = .ok (.iload_n 0, 1) := by decide +kernel
theorem dJ6_bitCount_0f7a4_11 : decode cJ6_bitCount_0f7a4 11 = .ok (.ldc_w 266, 3) := by decide +kernel
theorem dJ6_bitCount_0f7a4_14 : decode cJ6_bitCount_0f7a4 14 = .ok (.iand, 1) := by decide +kernel
theorem dJ6_bitCount_0f7a4_15 : decode cJ6_bitCount_0f7a4 15 = .ok (.iload_n 0, 1) := by decide +kernel
theorem dJ6_bitCount_0f7a4_16 : decode cJ6_bitCount_0f7a4 16 = .ok (.iconst 2, 1) := by decide +kernel
theorem dJ6_bitCount_0f7a4_17 : decode cJ6_bitCount_0f7a4 17 = .ok (.iushr, 1) := by decide +kernel
theorem dJ6_bitCount_0f7a4_18 : decode cJ6_bitCount_0f7a4 18 = .ok (.ldc_w 266, 3) := by decide +kernel
theorem dJ6_bitCount_0f7a4_21 : decode cJ6_bitCount_0f7a4 21 = .ok (.iand, 1) := by decide +kernel
theorem dJ6_bitCount_0f7a4_22 : decode cJ6_bitCount_0f7a4 22 = .ok (.iadd, 1) := by decide +kernel
theorem dJ6_bitCount_0f7a4_23 : decode cJ6_bitCount_0f7a4 23 = .ok (.istore_n 0, 1) := by decide +kernel
theorem dJ6_bitCount_0f7a4_24 : decode cJ6_bitCount_0f7a4 24 = .ok (.iload_n 0, 1) := by decide +kernel
theorem dJ6_bitCount_0f7a4_25 : decode cJ6_bitCount_0f7a4 25 = .ok (.iload_n 0, 1) := by decide +kernel
theorem dJ6_bitCount_0f7a4_26 : decode cJ6_bitCount_0f7a4 26 = .ok (.iconst 4, 1) := by decide +kernel
theorem dJ6_bitCount_0f7a4_27 : decode cJ6_bitCount_0f7a4 27 = .ok (.iushr, 1) := by decide +kernel
theorem dJ6_bitCount_0f7a4_28 : decode cJ6_bitCount_0f7a4 28 = .ok (.iadd, 1) := by decide +kernel
theorem dJ6_bitCount_0f7a4_29 : decode cJ6_bitCount_0f7a4 29 = .ok (.ldc_w 267, 3) := by decide +kernel
theorem dJ6_bitCount_0f7a4_32 : decode cJ6_bitCount_0f7a4 32 = .ok (.iand, 1) := by decide +kernel
theorem dJ6_bitCount_0f7a4_33 : decode cJ6_bitCount_0f7a4 33 = .ok (.istore_n 0, 1) := by decide +kernel
theorem dJ6_bitCount_0f7a4_34 : decode cJ6_bitCount_0f7a4 34 = .ok (.iload_n 0, 1) := by decide +kernel
theorem dJ6_bitCount_0f7a4_35 : decode cJ6_bitCount_0f7a4 35 = .ok (.iload_n 0, 1) := by decide +kernel
theorem dJ6_bitCount_0f7a4_36 : decode cJ6_bitCount_0f7a4 36 = .ok (.bipush 8, 2) := by decide +kernel
theorem dJ6_bitCount_0f7a4_38 : decode cJ6_bitCount_0f7a4 38 = .ok (.iushr, 1) := by decide +kernel
theorem dJ6_bitCount_0f7a4_39 : decode cJ6_bitCount_0f7a4 39 = .ok (.iadd, 1) := by decide +kernel
theorem dJ6_bitCount_0f7a4_40 : decode cJ6_bitCount_0f7a4 40 = .ok (.istore_n 0, 1) := by decide +kernel
theorem dJ6_bitCount_0f7a4_41 : decode cJ6_bitCount_0f7a4 41 = .ok (.iload_n 0, 1) := by decide +kernel
theorem dJ6_bitCount_0f7a4_42 : decode cJ6_bitCount_0f7a4 42 = .ok (.iload_n 0, 1) := by decide +kernel
theorem dJ6_bitCount_0f7a4_43 : decode cJ6_bitCount_0f7a4 43 = .ok (.bipush 16, 2) := by decide +kernel
theorem dJ6_bitCount_0f7a4_45 : decode cJ6_bitCount_0f7a4 45 = .ok (.iushr, 1) := by decide +kernel
theorem dJ6_bitCount_0f7a4_46 : decode cJ6_bitCount_0f7a4 46 = .ok (.iadd, 1) := by decide +kernel
theorem dJ6_bitCount_0f7a4_47 : decode cJ6_bitCount_0f7a4 47 = .ok (.istore_n 0, 1) := by decide +kernel
theorem dJ6_bitCount_0f7a4_48 : decode cJ6_bitCount_0f7a4 48 = .ok (.iload_n 0, 1) := by decide +kernel
theorem dJ6_bitCount_0f7a4_49 : decode cJ6_bitCount_0f7a4 49 = .ok (.bipush 63, 2) := by decide +kernel
theorem dJ6_bitCount_0f7a4_51 : decode cJ6_bitCount_0f7a4 51 = .ok (.iand, 1) := by decide +kernel
theorem dJ6_bitCount_0f7a4_52 : decode cJ6_bitCount_0f7a4 52 = .ok (.ireturn, 1) := by decide +kernel
