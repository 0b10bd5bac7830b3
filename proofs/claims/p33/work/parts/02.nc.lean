theorem dX1_isRankedSound_83 : decode cX1_isRankedSound 83 = .ok (.iload 4, 2) := by decide +kernel
theorem dX1_isRankedSound_85 : decode cX1_isRankedSound 85 = .ok (.iload_n 3, 1) := by decide +kernel
theorem dX1_isRankedSound_86 : decode cX1_isRankedSound 86 = .ok (.invokestatic 69, 3) := by decide +kernel
theorem dX1_isRankedSound_89 : decode cX1_isRankedSound 89 = .ok (.ifCond .eq 5, 3) := by decide +kernel
theorem dX1_isRankedSound_92 : decode cX1_isRankedSound 92 = .ok (.iconst 0, 1) := by decide +kernel
theorem dX1_isRankedSound_93 : decode cX1_isRankedSound 93 = .ok (.ireturn, 1) := by decide +kernel
theorem dX1_isRankedSound_94 : decode cX1_isRankedSound 94 = .ok (.iinc 3 1, 3) := by decide +kernel
theorem dX1_isRankedSound_97 : decode cX1_isRankedSound 97 = .ok (.goto (-54), 3) := by decide +kernel
theorem dX1_isRankedSound_100 : decode cX1_isRankedSound 100 = .ok (.iconst 1, 1) := by decide +kernel
theorem dX1_isRankedSound_101 : decode cX1_isRankedSound 101 = .ok (.ireturn, 1) := by decide +kernel
theorem dX1_has_0 : decode cX1_has 0 = .ok (.iload_n 0, 1) := by decide +kernel
theorem dX1_has_1 : decode cX1_has 1 = .ok (.iload_n 1, 1) := by decide +kernel
theorem dX1_has_2 : decode cX1_has 2 = .ok (.ishr, 1) := by decide +kernel
theorem dX1_has_3 : decode cX1_has 3 = .ok (.iconst 1, 1) := by decide +kernel
theorem dX1_has_4 : decode cX1_has 4 = .ok (.iand, 1) := by decide +kernel
theorem dX1_has_5 : decode cX1_has 5 = .ok (.ifCond .eq 7, 3) := by decide +kernel
theorem dX1_has_8 : decode cX1_has 8 = .ok (.iconst 1, 1) := by decide +kernel
theorem dX1_has_9 : decode cX1_has 9 = .ok (.goto 4, 3) := by decide +kernel
theorem dX1_has_12 : decode cX1_has 12 = .ok (.iconst 0, 1) := by decide +kernel
theorem dX1_has_13 : decode cX1_has 13 = .ok (.ireturn, 1) := by decide +kernel
set_option maxRecDepth 20000 in
theorem ggX1_least_X1_member : GoodIn wsX1_least wsX1_member := goodIn_rc _ [(0, 4), (0, 5), (0, 6), (0, 3), (0, 7)] (by rfl) (by decide +kernel)
set_option maxRecDepth 20000 in
theorem gX1_least_X1_member : GoodIn wsX1_least (va_wsS RX1 241 yX1_member wsX1_member) := goodIn_app (goodIn_of _ (by decide +kernel)) ggX1_least_X1_member
theorem dX1_least_0 : decode cX1_least 0 = .ok (.iload_n 0, 1) := by decide +kernel
theorem dX1_least_1 : decode cX1_least 1 = .ok (.iconst 0, 1) := by decide +kernel
theorem dX1_least_2 : decode cX1_least 2 = .ok (.invokestatic 241, 3) := by decide +kernel
theorem dX1_least_5 : decode cX1_least 5 = .ok (.ireturn, 1) := by decide +kernel
set_option maxRecDepth 20000 in
theorem ggX1_member_X1_has : GoodIn wsX1_member wsX1_has := goodIn_rc _ [(0, 4)] (by rfl) (by decide +kernel)
set_option maxRecDepth 20000 in
theorem gX1_member_X1_has : GoodIn wsX1_member (va_wsS RX1 69 yX1_has wsX1_has) := goodIn_app (goodIn_of _ (by decide +kernel)) ggX1_member_X1_has
theorem dX1_member_0 : decode cX1_member 0 = .ok (.iload_n 1, 1) := by decide +kernel
theorem dX1_member_1 : decode cX1_member 1 = .ok (.istore_n 2, 1) := by decide +kernel
theorem dX1_member_2 : decode cX1_member 2 = .ok (.iconst 0, 1) := by decide +kernel
theorem dX1_member_3 : decode cX1_member 3 = .ok (.istore_n 3, 1) := by decide +kernel
theorem dX1_member_4 : decode cX1_member 4 = .ok (.iload_n 3, 1) := by decide +kernel
theorem dX1_member_5 : decode cX1_member 5 = .ok (.bipush 12, 2) := by decide +kernel
theorem dX1_member_7 : decode cX1_member 7 = .ok (.if_icmp .ge 26, 3) := by decide +kernel
theorem dX1_member_10 : decode cX1_member 10 = .ok (.iload_n 0, 1) := by decide +kernel
theorem dX1_member_11 : decode cX1_member 11 = .ok (.iload_n 3, 1) := by decide +kernel
theorem dX1_member_12 : decode cX1_member 12 = .ok (.invokestatic 69, 3) := by decide +kernel
theorem dX1_member_15 : decode cX1_member 15 = .ok (.ifCond .eq 12, 3) := by decide +kernel
theorem dX1_member_18 : decode cX1_member 18 = .ok (.iload_n 2, 1) := by decide +kernel
theorem dX1_member_19 : decode cX1_member 19 = .ok (.ifCond .ne 5, 3) := by decide +kernel
theorem dX1_member_22 : decode cX1_member 22 = .ok (.iload_n 3, 1) := by decide +kernel
theorem dX1_member_23 : decode cX1_member 23 = .ok (.ireturn, 1) := by decide +kernel
theorem dX1_member_24 : decode cX1_member 24 = .ok (.iinc 2 (-1), 3) := by decide +kernel
theorem dX1_member_27 : decode cX1_member 27 = .ok (.iinc 3 1, 3) := by decide +kernel
theorem dX1_member_30 : decode cX1_member 30 = .ok (.goto (-26), 3) := by decide +kernel
theorem dX1_member_33 : decode cX1_member 33 = .ok (.iconst (-1), 1) := by decide +kernel
theorem dX1_member_34 : decode cX1_member 34 = .ok (.ireturn, 1) := by decide +kernel
theorem dX2_init_0 : decode cX2_init 0 = .ok (.aload_n 0, 1) := by decide +kernel
theorem dX2_init_1 : decode cX2_init 1 = .ok (.invokespecial 1, 3) := by decide +kernel
theorem dX2_init_4 : decode cX2_init 4 = .ok (.return_, 1) := by decide +kernel
set_option maxRecDepth 20000 in
theorem ggX3_init_X3_clear : GoodIn wsX3_init wsX3_clear := goodIn_rc _ [(0, 8), (0, 9), (0, 10), (0, 11), (0, 12), (0, 13), (0, 14), (0, 15), (0, 16), (0, 17), (0, 18), (0, 19), (0, 20), (0, 21), (0, 22), (0, 23), (0, 24), (0, 25), (0, 26), (0, 27)] (by rfl) (by decide +kernel)
set_option maxRecDepth 20000 in
theorem gX3_init_X3_clear : GoodIn wsX3_init (wsV RX3 7 RX3 yX3_clear wsX3_clear) := goodIn_app (goodIn_of _ (by decide +kernel)) ggX3_init_X3_clear
theorem dX3_init_0 : decode cX3_init 0 = .ok (.aload_n 0, 1) := by decide +kernel
theorem dX3_init_1 : decode cX3_init 1 = .ok (.invokespecial 1, 3) := by decide +kernel
theorem dX3_init_4 : decode cX3_init 4 = .ok (.aload_n 0, 1) := by decide +kernel
theorem dX3_init_5 : decode cX3_init 5 = .ok (.bipush 6, 2) := by decide +kernel
theorem dX3_init_7 : decode cX3_init 7 = .ok (.invokevirtual 7, 3) := by decide +kernel
theorem dX3_init_10 : decode cX3_init 10 = .ok (.return_, 1) := by decide +kernel
theorem dX3_thrown_0 : decode cX3_thrown 0 = .ok (.aload_n 0, 1) := by decide +kernel
theorem dX3_thrown_1 : decode cX3_thrown 1 = .ok (.getfield 13, 3) := by decide +kernel
theorem dX3_thrown_4 : decode cX3_thrown 4 = .ok (.ireturn, 1) := by decide +kernel
theorem dX3_clear_0 : decode cX3_clear 0 = .ok (.aload_n 0, 1) := by decide +kernel
theorem dX3_clear_1 : decode cX3_clear 1 = .ok (.iload_n 1, 1) := by decide +kernel
theorem dX3_clear_2 : decode cX3_clear 2 = .ok (.putfield 17, 3) := by decide +kernel
theorem dX3_clear_5 : decode cX3_clear 5 = .ok (.aload_n 0, 1) := by decide +kernel
theorem dX3_clear_6 : decode cX3_clear 6 = .ok (.iconst 0, 1) := by decide +kernel
theorem dX3_clear_7 : decode cX3_clear 7 = .ok (.putfield 20, 3) := by decide +kernel
theorem dX3_clear_10 : decode cX3_clear 10 = .ok (.aload_n 0, 1) := by decide +kernel
theorem dX3_clear_11 : decode cX3_clear 11 = .ok (.iconst 0, 1) := by decide +kernel
theorem dX3_clear_12 : decode cX3_clear 12 = .ok (.putfield 23, 3) := by decide +kernel
theorem dX3_clear_15 : decode cX3_clear 15 = .ok (.aload_n 0, 1) := by decide +kernel
theorem dX3_clear_16 : decode cX3_clear 16 = .ok (.aload_n 0, 1) := by decide +kernel
theorem dX3_clear_17 : decode cX3_clear 17 = .ok (.getfield 17, 3) := by decide +kernel
theorem dX3_clear_20 : decode cX3_clear 20 = .ok (.newarray .int, 2) := by decide +kernel
theorem dX3_clear_22 : decode cX3_clear 22 = .ok (.putfield 26, 3) := by decide +kernel
theorem dX3_clear_25 : decode cX3_clear 25 = .ok (.aload_n 0, 1) := by decide +kernel
theorem dX3_clear_26 : decode cX3_clear 26 = .ok (.aload_n 0, 1) := by decide +kernel
theorem dX3_clear_27 : decode cX3_clear 27 = .ok (.getfield 17, 3) := by decide +kernel
theorem dX3_clear_30 : decode cX3_clear 30 = .ok (.newarray .int, 2) := by decide +kernel
theorem dX3_clear_32 : decode cX3_clear 32 = .ok (.putfield 30, 3) := by decide +kernel
theorem dX3_clear_35 : decode cX3_clear 35 = .ok (.iconst 0, 1) := by decide +kernel
theorem dX3_clear_36 : decode cX3_clear 36 = .ok (.istore_n 2, 1) := by decide +kernel
theorem dX3_clear_37 : decode cX3_clear 37 = .ok (.iload_n 2, 1) := by decide +kernel
theorem dX3_clear_38 : decode cX3_clear 38 = .ok (.aload_n 0, 1) := by decide +kernel
theorem dX3_clear_39 : decode cX3_clear 39 = .ok (.getfield 17, 3) := by decide +kernel
theorem dX3_clear_42 : decode cX3_clear 42 = .ok (.if_icmp .ge 16, 3) := by decide +kernel
theorem dX3_clear_45 : decode cX3_clear 45 = .ok (.aload_n 0, 1) := by decide +kernel
theorem dX3_clear_46 : decode cX3_clear 46 = .ok (.getfield 26, 3) := by decide +kernel
theorem dX3_clear_49 : decode cX3_clear 49 = .ok (.iload_n 2, 1) := by decide +kernel
theorem dX3_clear_50 : decode cX3_clear 50 = .ok (.iconst 2, 1) := by decide +kernel
theorem dX3_clear_51 : decode cX3_clear 51 = .ok (.iastore, 1) := by decide +kernel
theorem dX3_clear_52 : decode cX3_clear 52 = .ok (.iinc 2 1, 3) := by decide +kernel
theorem dX3_clear_55 : decode cX3_clear 55 = .ok (.goto (-18), 3) := by decide +kernel
theorem dX3_clear_58 : decode cX3_clear 58 = .ok (.aload_n 0, 1) := by decide +kernel
theorem dX3_clear_59 : decode cX3_clear 59 = .ok (.iconst 0, 1) := by decide +kernel
theorem dX3_clear_60 : decode cX3_clear 60 = .ok (.putfield 33, 3) := by decide +kernel
theorem dX3_clear_63 : decode cX3_clear 63 = .ok (.aload_n 0, 1) := by decide +kernel
theorem dX3_clear_64 : decode cX3_clear 64 = .ok (.iconst 0, 1) := by decide +kernel
theorem dX3_clear_65 : decode cX3_clear 65 = .ok (.putfield 36, 3) := by decide +kernel
theorem dX3_clear_68 : decode cX3_clear 68 = .ok (.return_, 1) := by decide +kernel
theorem dX3_all_0 : decode cX3_all 0 = .ok (.iconst 1, 1) := by decide +kernel
theorem dX3_all_1 : decode cX3_all 1 = .ok (.aload_n 0, 1) := by decide +kernel
theorem dX3_all_2 : decode cX3_all 2 = .ok (.getfield 17, 3) := by decide +kernel
theorem dX3_all_5 : decode cX3_all 5 = .ok (.ishl, 1) := by decide +kernel
theorem dX3_all_6 : decode cX3_all 6 = .ok (.iconst 1, 1) := by decide +kernel
theorem dX3_all_7 : decode cX3_all 7 = .ok (.isub, 1) := by decide +kernel
theorem dX3_all_8 : decode cX3_all 8 = .ok (.ireturn, 1) := by decide +kernel
theorem dX3_sideOf_0 : decode cX3_sideOf 0 = .ok (.aload_n 0, 1) := by decide +kernel
theorem dX3_sideOf_1 : decode cX3_sideOf 1 = .ok (.getfield 20, 3) := by decide +kernel
theorem dX3_sideOf_4 : decode cX3_sideOf 4 = .ok (.iload_n 1, 1) := by decide +kernel
theorem dX3_sideOf_5 : decode cX3_sideOf 5 = .ok (.ishr, 1) := by decide +kernel
theorem dX3_sideOf_6 : decode cX3_sideOf 6 = .ok (.iconst 1, 1) := by decide +kernel
theorem dX3_sideOf_7 : decode cX3_sideOf 7 = .ok (.iand, 1) := by decide +kernel
theorem dX3_sideOf_8 : decode cX3_sideOf 8 = .ok (.ireturn, 1) := by decide +kernel
theorem dX3_isIn_0 : decode cX3_isIn 0 = .ok (.iload_n 0, 1) := by decide +kernel
theorem dX3_isIn_1 : decode cX3_isIn 1 = .ok (.iload_n 1, 1) := by decide +kernel
theorem dX3_isIn_2 : decode cX3_isIn 2 = .ok (.ishr, 1) := by decide +kernel
theorem dX3_isIn_3 : decode cX3_isIn 3 = .ok (.iconst 1, 1) := by decide +kernel
theorem dX3_isIn_4 : decode cX3_isIn 4 = .ok (.iand, 1) := by decide +kernel
theorem dX3_isIn_5 : decode cX3_isIn 5 = .ok (.iconst 1, 1) := by decide +kernel
theorem dX3_isIn_6 : decode cX3_isIn 6 = .ok (.if_icmp .ne 7, 3) := by decide +kernel
theorem dX3_isIn_9 : decode cX3_isIn 9 = .ok (.iconst 1, 1) := by decide +kernel
theorem dX3_isIn_10 : decode cX3_isIn 10 = .ok (.goto 4, 3) := by decide +kernel
theorem dX3_isIn_13 : decode cX3_isIn 13 = .ok (.iconst 0, 1) := by decide +kernel
theorem dX3_isIn_14 : decode cX3_isIn 14 = .ok (.ireturn, 1) := by decide +kernel
set_option maxRecDepth 20000 in
theorem ggX3_waysNow_J6_bitCount_0f7a4 : GoodIn wsX3_waysNow wsJ6_bitCount_0f7a4 := goodIn_rc _ [(0, 5), (0, 6), (0, 7), (0, 8)] (by rfl) (by decide +kernel)
set_option maxRecDepth 20000 in
theorem gX3_waysNow_J6_bitCount_0f7a4 : GoodIn wsX3_waysNow (va_wsS RX3 39 yJ6_bitCount_0f7a4 wsJ6_bitCount_0f7a4) := goodIn_app (goodIn_of _ (by decide +kernel)) ggX3_waysNow_J6_bitCount_0f7a4
theorem dX3_waysNow_0 : decode cX3_waysNow 0 = .ok (.iconst 0, 1) := by decide +kernel
theorem dX3_waysNow_1 : decode cX3_waysNow 1 = .ok (.istore_n 1, 1) := by decide +kernel
theorem dX3_waysNow_2 : decode cX3_waysNow 2 = .ok (.aload_n 0, 1) := by decide +kernel
theorem dX3_waysNow_3 : decode cX3_waysNow 3 = .ok (.getfield 30, 3) := by decide +kernel
theorem dX3_waysNow_6 : decode cX3_waysNow 6 = .ok (.astore_n 2, 1) := by decide +kernel
theorem dX3_waysNow_7 : decode cX3_waysNow 7 = .ok (.aload_n 2, 1) := by decide +kernel
theorem dX3_waysNow_8 : decode cX3_waysNow 8 = .ok (.arraylength, 1) := by decide +kernel
theorem dX3_waysNow_9 : decode cX3_waysNow 9 = .ok (.istore_n 3, 1) := by decide +kernel
theorem dX3_waysNow_10 : decode cX3_waysNow 10 = .ok (.iconst 0, 1) := by decide +kernel
theorem dX3_waysNow_11 : decode cX3_waysNow 11 = .ok (.istore 4, 2) := by decide +kernel
theorem dX3_waysNow_13 : decode cX3_waysNow 13 = .ok (.iload 4, 2) := by decide +kernel
theorem dX3_waysNow_15 : decode cX3_waysNow 15 = .ok (.iload_n 3, 1) := by decide +kernel
theorem dX3_waysNow_16 : decode cX3_waysNow 16 = .ok (.if_icmp .ge 23, 3) := by decide +kernel
theorem dX3_waysNow_19 : decode cX3_waysNow 19 = .ok (.aload_n 2, 1) := by decide +kernel
theorem dX3_waysNow_20 : decode cX3_waysNow 20 = .ok (.iload 4, 2) := by decide +kernel
theorem dX3_waysNow_22 : decode cX3_waysNow 22 = .ok (.iaload, 1) := by decide +kernel
theorem dX3_waysNow_23 : decode cX3_waysNow 23 = .ok (.istore 5, 2) := by decide +kernel
theorem dX3_waysNow_25 : decode cX3_waysNow 25 = .ok (.iload_n 1, 1) := by decide +kernel
theorem dX3_waysNow_26 : decode cX3_waysNow 26 = .ok (.iload 5, 2) := by decide +kernel
theorem dX3_waysNow_28 : decode cX3_waysNow 28 = .ok (.invokestatic 39, 3) := by decide +kernel
theorem dX3_waysNow_31 : decode cX3_waysNow 31 = .ok (.iadd, 1) := by decide +kernel
theorem dX3_waysNow_32 : decode cX3_waysNow 32 = .ok (.istore_n 1, 1) := by decide +kernel
theorem dX3_waysNow_33 : decode cX3_waysNow 33 = .ok (.iinc 4 1, 3) := by decide +kernel
theorem dX3_waysNow_36 : decode cX3_waysNow 36 = .ok (.goto (-23), 3) := by decide +kernel
theorem dX3_waysNow_39 : decode cX3_waysNow 39 = .ok (.iload_n 1, 1) := by decide +kernel
theorem dX3_waysNow_40 : decode cX3_waysNow 40 = .ok (.ireturn, 1) := by decide +kernel
set_option maxRecDepth 20000 in
theorem ggX3_aheadOf_X3_sideOf : GoodIn wsX3_aheadOf wsX3_sideOf := goodIn_rc _ [(0, 7), (0, 8), (0, 9), (0, 10), (0, 11), (0, 12), (0, 13), (0, 14), (0, 15), (0, 16), (0, 17), (0, 18), (0, 19)] (by rfl) (by decide +kernel)
set_option maxRecDepth 20000 in
theorem gX3_aheadOf_X3_sideOf : GoodIn wsX3_aheadOf (wsV RX3 45 RX3 yX3_sideOf wsX3_sideOf) := goodIn_app (goodIn_of _ (by decide +kernel)) ggX3_aheadOf_X3_sideOf
theorem dX3_aheadOf_0 : decode cX3_aheadOf 0 = .ok (.iconst 0, 1) := by decide +kernel
theorem dX3_aheadOf_1 : decode cX3_aheadOf 1 = .ok (.istore_n 3, 1) := by decide +kernel
theorem dX3_aheadOf_2 : decode cX3_aheadOf 2 = .ok (.iconst 0, 1) := by decide +kernel
theorem dX3_aheadOf_3 : decode cX3_aheadOf 3 = .ok (.istore 4, 2) := by decide +kernel
theorem dX3_aheadOf_5 : decode cX3_aheadOf 5 = .ok (.iload 4, 2) := by decide +kernel
theorem dX3_aheadOf_7 : decode cX3_aheadOf 7 = .ok (.aload_n 0, 1) := by decide +kernel
theorem dX3_aheadOf_8 : decode cX3_aheadOf 8 = .ok (.getfield 17, 3) := by decide +kernel
theorem dX3_aheadOf_11 : decode cX3_aheadOf 11 = .ok (.if_icmp .ge 55, 3) := by decide +kernel
theorem dX3_aheadOf_14 : decode cX3_aheadOf 14 = .ok (.aload_n 0, 1) := by decide +kernel
theorem dX3_aheadOf_15 : decode cX3_aheadOf 15 = .ok (.iload 4, 2) := by decide +kernel
theorem dX3_aheadOf_17 : decode cX3_aheadOf 17 = .ok (.invokevirtual 45, 3) := by decide +kernel
theorem dX3_aheadOf_20 : decode cX3_aheadOf 20 = .ok (.iload_n 2, 1) := by decide +kernel
theorem dX3_aheadOf_21 : decode cX3_aheadOf 21 = .ok (.if_icmp .ne 18, 3) := by decide +kernel
theorem dX3_aheadOf_24 : decode cX3_aheadOf 24 = .ok (.aload_n 0, 1) := by decide +kernel
theorem dX3_aheadOf_25 : decode cX3_aheadOf 25 = .ok (.getfield 30, 3) := by decide +kernel
theorem dX3_aheadOf_28 : decode cX3_aheadOf 28 = .ok (.iload 4, 2) := by decide +kernel
theorem dX3_aheadOf_30 : decode cX3_aheadOf 30 = .ok (.iaload, 1) := by decide +kernel
theorem dX3_aheadOf_31 : decode cX3_aheadOf 31 = .ok (.iload_n 1, 1) := by decide +kernel
theorem dX3_aheadOf_32 : decode cX3_aheadOf 32 = .ok (.iand, 1) := by decide +kernel
theorem dX3_aheadOf_33 : decode cX3_aheadOf 33 = .ok (.ifCond .eq 27, 3) := by decide +kernel
theorem dX3_aheadOf_36 : decode cX3_aheadOf 36 = .ok (.goto 17, 3) := by decide +kernel
theorem dX3_aheadOf_39 : decode cX3_aheadOf 39 = .ok (.aload_n 0, 1) := by decide +kernel
theorem dX3_aheadOf_40 : decode cX3_aheadOf 40 = .ok (.getfield 30, 3) := by decide +kernel
theorem dX3_aheadOf_43 : decode cX3_aheadOf 43 = .ok (.iload 4, 2) := by decide +kernel
theorem dX3_aheadOf_45 : decode cX3_aheadOf 45 = .ok (.iaload, 1) := by decide +kernel
theorem dX3_aheadOf_46 : decode cX3_aheadOf 46 = .ok (.iload_n 1, 1) := by decide +kernel
theorem dX3_aheadOf_47 : decode cX3_aheadOf 47 = .ok (.iconst (-1), 1) := by decide +kernel
theorem dX3_aheadOf_48 : decode cX3_aheadOf 48 = .ok (.ixor, 1) := by decide +kernel
theorem dX3_aheadOf_49 : decode cX3_aheadOf 49 = .ok (.iand, 1) := by decide +kernel
theorem dX3_aheadOf_50 : decode cX3_aheadOf 50 = .ok (.ifCond .ne 10, 3) := by decide +kernel
theorem dX3_aheadOf_53 : decode cX3_aheadOf 53 = .ok (.iload_n 3, 1) := by decide +kernel
theorem dX3_aheadOf_54 : decode cX3_aheadOf 54 = .ok (.iconst 1, 1) := by decide +kernel
theorem dX3_aheadOf_55 : decode cX3_aheadOf 55 = .ok (.iload 4, 2) := by decide +kernel
theorem dX3_aheadOf_57 : decode cX3_aheadOf 57 = .ok (.ishl, 1) := by decide +kernel
theorem dX3_aheadOf_58 : decode cX3_aheadOf 58 = .ok (.ior, 1) := by decide +kernel
theorem dX3_aheadOf_59 : decode cX3_aheadOf 59 = .ok (.istore_n 3, 1) := by decide +kernel
theorem dX3_aheadOf_60 : decode cX3_aheadOf 60 = .ok (.iinc 4 1, 3) := by decide +kernel
theorem dX3_aheadOf_63 : decode cX3_aheadOf 63 = .ok (.goto (-58), 3) := by decide +kernel
theorem dX3_aheadOf_66 : decode cX3_aheadOf 66 = .ok (.iload_n 3, 1) := by decide +kernel
theorem dX3_aheadOf_67 : decode cX3_aheadOf 67 = .ok (.ireturn, 1) := by decide +kernel
set_option maxRecDepth 20000 in
theorem ggX3_toward_X3_aheadOf : GoodIn wsX3_toward wsX3_aheadOf := goodIn_rc _ [(0, 5), (0, 6), (0, 7), (0, 8), (0, 9), (0, 10), (0, 4), (0, 11), (0, 12), (0, 13), (0, 14), (0, 15), (0, 16), (0, 17), (0, 18), (0, 19), (0, 20), (0, 21), (0, 22), (0, 23)] (by rfl) (by decide +kernel)
set_option maxRecDepth 20000 in
theorem gX3_toward_X3_aheadOf : GoodIn wsX3_toward (wsV RX3 48 RX3 yX3_aheadOf wsX3_aheadOf) := goodIn_app (goodIn_of _ (by decide +kernel)) ggX3_toward_X3_aheadOf
theorem dX3_toward_0 : decode cX3_toward 0 = .ok (.iload_n 1, 1) := by decide +kernel
theorem dX3_toward_1 : decode cX3_toward 1 = .ok (.istore_n 3, 1) := by decide +kernel
theorem dX3_toward_2 : decode cX3_toward 2 = .ok (.iload_n 3, 1) := by decide +kernel
theorem dX3_toward_3 : decode cX3_toward 3 = .ok (.aload_n 0, 1) := by decide +kernel
theorem dX3_toward_4 : decode cX3_toward 4 = .ok (.iload_n 3, 1) := by decide +kernel
theorem dX3_toward_5 : decode cX3_toward 5 = .ok (.iload_n 2, 1) := by decide +kernel
theorem dX3_toward_6 : decode cX3_toward 6 = .ok (.invokevirtual 48, 3) := by decide +kernel
theorem dX3_toward_9 : decode cX3_toward 9 = .ok (.ior, 1) := by decide +kernel
theorem dX3_toward_10 : decode cX3_toward 10 = .ok (.iload_n 3, 1) := by decide +kernel
theorem dX3_toward_11 : decode cX3_toward 11 = .ok (.if_icmp .eq 15, 3) := by decide +kernel
theorem dX3_toward_14 : decode cX3_toward 14 = .ok (.iload_n 3, 1) := by decide +kernel
theorem dX3_toward_15 : decode cX3_toward 15 = .ok (.aload_n 0, 1) := by decide +kernel
theorem dX3_toward_16 : decode cX3_toward 16 = .ok (.iload_n 3, 1) := by decide +kernel
theorem dX3_toward_17 : decode cX3_toward 17 = .ok (.iload_n 2, 1) := by decide +kernel
theorem dX3_toward_18 : decode cX3_toward 18 = .ok (.invokevirtual 48, 3) := by decide +kernel
theorem dX3_toward_21 : decode cX3_toward 21 = .ok (.ior, 1) := by decide +kernel
theorem dX3_toward_22 : decode cX3_toward 22 = .ok (.istore_n 3, 1) := by decide +kernel
theorem dX3_toward_23 : decode cX3_toward 23 = .ok (.goto (-21), 3) := by decide +kernel
theorem dX3_toward_26 : decode cX3_toward 26 = .ok (.iload_n 3, 1) := by decide +kernel
theorem dX3_toward_27 : decode cX3_toward 27 = .ok (.ireturn, 1) := by decide +kernel
set_option maxRecDepth 20000 in
theorem ggX3_comingOf_X3_toward : GoodIn wsX3_comingOf wsX3_toward := goodIn_rc _ [(0, 6), (0, 7), (0, 8), (0, 9), (0, 5), (0, 10), (0, 11), (0, 12), (0, 13), (0, 14), (0, 15), (0, 16), (0, 17), (0, 18), (0, 19), (0, 20), (0, 21), (0, 22), (0, 23), (0, 24), (0, 25), (0, 26), (0, 27), (0, 28)] (by rfl) (by decide +kernel)
set_option maxRecDepth 20000 in
theorem gX3_comingOf_X3_toward : GoodIn wsX3_comingOf (wsV RX3 52 RX3 yX3_toward wsX3_toward) := goodIn_app (goodIn_of _ (by decide +kernel)) ggX3_comingOf_X3_toward
theorem dX3_comingOf_0 : decode cX3_comingOf 0 = .ok (.aload_n 0, 1) := by decide +kernel
theorem dX3_comingOf_1 : decode cX3_comingOf 1 = .ok (.aload_n 0, 1) := by decide +kernel
theorem dX3_comingOf_2 : decode cX3_comingOf 2 = .ok (.getfield 23, 3) := by decide +kernel
theorem dX3_comingOf_5 : decode cX3_comingOf 5 = .ok (.iload_n 1, 1) := by decide +kernel
theorem dX3_comingOf_6 : decode cX3_comingOf 6 = .ok (.invokevirtual 52, 3) := by decide +kernel
theorem dX3_comingOf_9 : decode cX3_comingOf 9 = .ok (.ireturn, 1) := by decide +kernel
set_option maxRecDepth 20000 in
theorem ggX3_keepingOf_X3_all : GoodIn wsX3_keepingOf wsX3_all := goodIn_rc _ [(0, 5), (0, 6), (0, 26), (0, 27), (0, 28), (0, 29), (0, 30), (0, 31), (1, 0), (1, 1), (1, 2), (1, 3), (1, 4)] (by rfl) (by decide +kernel)
set_option maxRecDepth 20000 in
theorem gX3_keepingOf_X3_all : GoodIn wsX3_keepingOf (wsV RX3 55 RX3 yX3_all wsX3_all) := goodIn_app (goodIn_of _ (by decide +kernel)) ggX3_keepingOf_X3_all
set_option maxRecDepth 20000 in
theorem ggX3_keepingOf_X3_comingOf : GoodIn wsX3_keepingOf wsX3_comingOf := goodIn_rc _ [(0, 10), (0, 11), (0, 12), (0, 13), (0, 14), (0, 4), (0, 15), (0, 16), (0, 17), (0, 18), (0, 19), (0, 6), (0, 20), (0, 21), (0, 22), (0, 23), (0, 24), (0, 25), (0, 26), (0, 27), (0, 28), (0, 29), (0, 30), (0, 31), (1, 0), (1, 1), (1, 2), (1, 3), (1, 4)] (by rfl) (by decide +kernel)
set_option maxRecDepth 20000 in
theorem gX3_keepingOf_X3_comingOf : GoodIn wsX3_keepingOf (wsV RX3 59 RX3 yX3_comingOf wsX3_comingOf) := goodIn_app (goodIn_of _ (by decide +kernel)) ggX3_keepingOf_X3_comingOf
theorem dX3_keepingOf_0 : decode cX3_keepingOf 0 = .ok (.aload_n 0, 1) := by decide +kernel
theorem dX3_keepingOf_1 : decode cX3_keepingOf 1 = .ok (.invokevirtual 55, 3) := by decide +kernel
theorem dX3_keepingOf_4 : decode cX3_keepingOf 4 = .ok (.aload_n 0, 1) := by decide +kernel
theorem dX3_keepingOf_5 : decode cX3_keepingOf 5 = .ok (.iconst 1, 1) := by decide +kernel
theorem dX3_keepingOf_6 : decode cX3_keepingOf 6 = .ok (.iload_n 1, 1) := by decide +kernel
theorem dX3_keepingOf_7 : decode cX3_keepingOf 7 = .ok (.isub, 1) := by decide +kernel
theorem dX3_keepingOf_8 : decode cX3_keepingOf 8 = .ok (.invokevirtual 59, 3) := by decide +kernel
theorem dX3_keepingOf_11 : decode cX3_keepingOf 11 = .ok (.iconst (-1), 1) := by decide +kernel
theorem dX3_keepingOf_12 : decode cX3_keepingOf 12 = .ok (.ixor, 1) := by decide +kernel
theorem dX3_keepingOf_13 : decode cX3_keepingOf 13 = .ok (.iand, 1) := by decide +kernel
theorem dX3_keepingOf_14 : decode cX3_keepingOf 14 = .ok (.ireturn, 1) := by decide +kernel
set_option maxRecDepth 20000 in
theorem ggX3_fallen_X3_aheadOf : GoodIn wsX3_fallen wsX3_aheadOf := goodIn_rc _ [(0, 6), (0, 7), (0, 8), (0, 9), (0, 10), (0, 11), (0, 5), (0, 12), (0, 13), (0, 18), (0, 19), (0, 20), (0, 21), (0, 22), (0, 23), (0, 24), (0, 25), (0, 26), (0, 27), (0, 28)] (by rfl) (by decide +kernel)
set_option maxRecDepth 20000 in
theorem gX3_fallen_X3_aheadOf : GoodIn wsX3_fallen (wsV RX3 48 RX3 yX3_aheadOf wsX3_aheadOf) := goodIn_app (goodIn_of _ (by decide +kernel)) ggX3_fallen_X3_aheadOf
set_option maxRecDepth 20000 in
theorem ggX3_fallen_X3_toward : GoodIn wsX3_fallen wsX3_toward := goodIn_rc _ [(0, 17), (0, 2), (0, 3), (0, 4), (0, 5), (0, 6), (0, 7), (0, 8), (0, 9), (0, 10), (0, 11), (0, 12), (0, 13), (0, 18), (0, 19), (0, 20), (0, 21), (0, 22), (0, 23), (0, 24), (0, 25), (0, 26), (0, 27), (0, 28)] (by rfl) (by decide +kernel)
set_option maxRecDepth 20000 in
theorem gX3_fallen_X3_toward : GoodIn wsX3_fallen (wsV RX3 52 RX3 yX3_toward wsX3_toward) := goodIn_app (goodIn_of _ (by decide +kernel)) ggX3_fallen_X3_toward
theorem dX3_fallen_0 : decode cX3_fallen 0 = .ok (.iload_n 1, 1) := by decide +kernel
theorem dX3_fallen_1 : decode cX3_fallen 1 = .ok (.aload_n 0, 1) := by decide +kernel
theorem dX3_fallen_2 : decode cX3_fallen 2 = .ok (.aload_n 0, 1) := by decide +kernel
theorem dX3_fallen_3 : decode cX3_fallen 3 = .ok (.getfield 23, 3) := by decide +kernel
theorem dX3_fallen_6 : decode cX3_fallen 6 = .ok (.aload_n 0, 1) := by decide +kernel
theorem dX3_fallen_7 : decode cX3_fallen 7 = .ok (.iload_n 1, 1) := by decide +kernel
theorem dX3_fallen_8 : decode cX3_fallen 8 = .ok (.iload_n 2, 1) := by decide +kernel
theorem dX3_fallen_9 : decode cX3_fallen 9 = .ok (.invokevirtual 48, 3) := by decide +kernel
theorem dX3_fallen_12 : decode cX3_fallen 12 = .ok (.iand, 1) := by decide +kernel
theorem dX3_fallen_13 : decode cX3_fallen 13 = .ok (.iload_n 2, 1) := by decide +kernel
theorem dX3_fallen_14 : decode cX3_fallen 14 = .ok (.invokevirtual 52, 3) := by decide +kernel
theorem dX3_fallen_17 : decode cX3_fallen 17 = .ok (.iand, 1) := by decide +kernel
theorem dX3_fallen_18 : decode cX3_fallen 18 = .ok (.ireturn, 1) := by decide +kernel
set_option maxRecDepth 20000 in
theorem ggX3_againOf_X3_all : GoodIn wsX3_againOf wsX3_all := goodIn_rc _ [(0, 5), (0, 6), (0, 26), (0, 27), (0, 28), (0, 29), (0, 30), (0, 31), (1, 0), (1, 1), (1, 2), (1, 3), (1, 4)] (by rfl) (by decide +kernel)
set_option maxRecDepth 20000 in
theorem gX3_againOf_X3_all : GoodIn wsX3_againOf (wsV RX3 55 RX3 yX3_all wsX3_all) := goodIn_app (goodIn_of _ (by decide +kernel)) ggX3_againOf_X3_all
set_option maxRecDepth 20000 in
theorem ggX3_againOf_X3_fallen : GoodIn wsX3_againOf wsX3_fallen := goodIn_rc _ [(0, 10), (0, 11), (0, 12), (0, 13), (0, 14), (0, 4), (0, 15), (0, 6), (0, 16), (0, 17), (0, 18), (0, 19), (0, 20), (0, 21), (0, 22), (0, 23), (0, 24), (0, 25), (0, 26), (0, 27), (0, 28), (0, 29), (0, 30), (0, 31), (1, 0), (1, 1), (1, 2), (1, 3), (1, 4)] (by rfl) (by decide +kernel)
set_option maxRecDepth 20000 in
theorem gX3_againOf_X3_fallen : GoodIn wsX3_againOf (wsV RX3 62 RX3 yX3_fallen wsX3_fallen) := goodIn_app (goodIn_of _ (by decide +kernel)) ggX3_againOf_X3_fallen
theorem dX3_againOf_0 : decode cX3_againOf 0 = .ok (.aload_n 0, 1) := by decide +kernel
theorem dX3_againOf_1 : decode cX3_againOf 1 = .ok (.invokevirtual 55, 3) := by decide +kernel
theorem dX3_againOf_4 : decode cX3_againOf 4 = .ok (.istore_n 2, 1) := by decide +kernel
theorem dX3_againOf_5 : decode cX3_againOf 5 = .ok (.aload_n 0, 1) := by decide +kernel
theorem dX3_againOf_6 : decode cX3_againOf 6 = .ok (.iload_n 2, 1) := by decide +kernel
theorem dX3_againOf_7 : decode cX3_againOf 7 = .ok (.iload_n 1, 1) := by decide +kernel
theorem dX3_againOf_8 : decode cX3_againOf 8 = .ok (.invokevirtual 62, 3) := by decide +kernel
theorem dX3_againOf_11 : decode cX3_againOf 11 = .ok (.iload_n 2, 1) := by decide +kernel
theorem dX3_againOf_12 : decode cX3_againOf 12 = .ok (.if_icmp .eq 13, 3) := by decide +kernel
theorem dX3_againOf_15 : decode cX3_againOf 15 = .ok (.aload_n 0, 1) := by decide +kernel
theorem dX3_againOf_16 : decode cX3_againOf 16 = .ok (.iload_n 2, 1) := by decide +kernel
theorem dX3_againOf_17 : decode cX3_againOf 17 = .ok (.iload_n 1, 1) := by decide +kernel
theorem dX3_againOf_18 : decode cX3_againOf 18 = .ok (.invokevirtual 62, 3) := by decide +kernel
theorem dX3_againOf_21 : decode cX3_againOf 21 = .ok (.istore_n 2, 1) := by decide +kernel
theorem dX3_againOf_22 : decode cX3_againOf 22 = .ok (.goto (-17), 3) := by decide +kernel
theorem dX3_againOf_25 : decode cX3_againOf 25 = .ok (.iload_n 2, 1) := by decide +kernel
theorem dX3_againOf_26 : decode cX3_againOf 26 = .ok (.ireturn, 1) := by decide +kernel
set_option maxRecDepth 20000 in
theorem ggX3_fallsOf_X3_all : GoodIn wsX3_fallsOf wsX3_all := goodIn_rc _ [(0, 5), (0, 6), (0, 26), (0, 27), (0, 28), (0, 29), (0, 30), (0, 31), (1, 0), (1, 1), (1, 2), (1, 3), (1, 4)] (by rfl) (by decide +kernel)
set_option maxRecDepth 20000 in
theorem gX3_fallsOf_X3_all : GoodIn wsX3_fallsOf (wsV RX3 55 RX3 yX3_all wsX3_all) := goodIn_app (goodIn_of _ (by decide +kernel)) ggX3_fallsOf_X3_all
set_option maxRecDepth 20000 in
theorem ggX3_fallsOf_X3_fallen : GoodIn wsX3_fallsOf wsX3_fallen := goodIn_rc _ [(0, 10), (0, 11), (0, 12), (0, 13), (0, 14), (0, 4), (0, 15), (0, 6), (0, 16), (0, 17), (0, 18), (0, 19), (0, 20), (0, 21), (0, 22), (0, 23), (0, 24), (0, 25), (0, 26), (0, 27), (0, 28), (0, 29), (0, 30), (0, 31), (1, 0), (1, 1), (1, 2), (1, 3), (1, 4)] (by rfl) (by decide +kernel)
set_option maxRecDepth 20000 in
theorem gX3_fallsOf_X3_fallen : GoodIn wsX3_fallsOf (wsV RX3 62 RX3 yX3_fallen wsX3_fallen) := goodIn_app (goodIn_of _ (by decide +kernel)) ggX3_fallsOf_X3_fallen
theorem dX3_fallsOf_0 : decode cX3_fallsOf 0 = .ok (.iconst 0, 1) := by decide +kernel
theorem dX3_fallsOf_1 : decode cX3_fallsOf 1 = .ok (.istore_n 2, 1) := by decide +kernel
theorem dX3_fallsOf_2 : decode cX3_fallsOf 2 = .ok (.aload_n 0, 1) := by decide +kernel
theorem dX3_fallsOf_3 : decode cX3_fallsOf 3 = .ok (.invokevirtual 55, 3) := by decide +kernel
theorem dX3_fallsOf_6 : decode cX3_fallsOf 6 = .ok (.istore_n 3, 1) := by decide +kernel
theorem dX3_fallsOf_7 : decode cX3_fallsOf 7 = .ok (.aload_n 0, 1) := by decide +kernel
theorem dX3_fallsOf_8 : decode cX3_fallsOf 8 = .ok (.iload_n 3, 1) := by decide +kernel
theorem dX3_fallsOf_9 : decode cX3_fallsOf 9 = .ok (.iload_n 1, 1) := by decide +kernel
theorem dX3_fallsOf_10 : decode cX3_fallsOf 10 = .ok (.invokevirtual 62, 3) := by decide +kernel
theorem dX3_fallsOf_13 : decode cX3_fallsOf 13 = .ok (.iload_n 3, 1) := by decide +kernel
theorem dX3_fallsOf_14 : decode cX3_fallsOf 14 = .ok (.if_icmp .eq 16, 3) := by decide +kernel
theorem dX3_fallsOf_17 : decode cX3_fallsOf 17 = .ok (.iinc 2 1, 3) := by decide +kernel
theorem dX3_fallsOf_20 : decode cX3_fallsOf 20 = .ok (.aload_n 0, 1) := by decide +kernel
theorem dX3_fallsOf_21 : decode cX3_fallsOf 21 = .ok (.iload_n 3, 1) := by decide +kernel
theorem dX3_fallsOf_22 : decode cX3_fallsOf 22 = .ok (.iload_n 1, 1) := by decide +kernel
theorem dX3_fallsOf_23 : decode cX3_fallsOf 23 = .ok (.invokevirtual 62, 3) := by decide +kernel
theorem dX3_fallsOf_26 : decode cX3_fallsOf 26 = .ok (.istore_n 3, 1) := by decide +kernel
theorem dX3_fallsOf_27 : decode cX3_fallsOf 27 = .ok (.goto (-20), 3) := by decide +kernel
theorem dX3_fallsOf_30 : decode cX3_fallsOf 30 = .ok (.iload_n 2, 1) := by decide +kernel
theorem dX3_fallsOf_31 : decode cX3_fallsOf 31 = .ok (.ireturn, 1) := by decide +kernel
theorem dX3_withRank_0 : decode cX3_withRank 0 = .ok (.iconst 0, 1) := by decide +kernel
theorem dX3_withRank_1 : decode cX3_withRank 1 = .ok (.istore_n 2, 1) := by decide +kernel
theorem dX3_withRank_2 : decode cX3_withRank 2 = .ok (.iconst 0, 1) := by decide +kernel
theorem dX3_withRank_3 : decode cX3_withRank 3 = .ok (.istore_n 3, 1) := by decide +kernel
theorem dX3_withRank_4 : decode cX3_withRank 4 = .ok (.iload_n 3, 1) := by decide +kernel
theorem dX3_withRank_5 : decode cX3_withRank 5 = .ok (.aload_n 0, 1) := by decide +kernel
theorem dX3_withRank_6 : decode cX3_withRank 6 = .ok (.getfield 17, 3) := by decide +kernel
theorem dX3_withRank_9 : decode cX3_withRank 9 = .ok (.if_icmp .ge 29, 3) := by decide +kernel
theorem dX3_withRank_12 : decode cX3_withRank 12 = .ok (.iload_n 2, 1) := by decide +kernel
theorem dX3_withRank_13 : decode cX3_withRank 13 = .ok (.aload_n 0, 1) := by decide +kernel
theorem dX3_withRank_14 : decode cX3_withRank 14 = .ok (.getfield 26, 3) := by decide +kernel
theorem dX3_withRank_17 : decode cX3_withRank 17 = .ok (.iload_n 3, 1) := by decide +kernel
theorem dX3_withRank_18 : decode cX3_withRank 18 = .ok (.iaload, 1) := by decide +kernel
theorem dX3_withRank_19 : decode cX3_withRank 19 = .ok (.iload_n 1, 1) := by decide +kernel
theorem dX3_withRank_20 : decode cX3_withRank 20 = .ok (.if_icmp .ne 9, 3) := by decide +kernel
theorem dX3_withRank_23 : decode cX3_withRank 23 = .ok (.iconst 1, 1) := by decide +kernel
theorem dX3_withRank_24 : decode cX3_withRank 24 = .ok (.iload_n 3, 1) := by decide +kernel
theorem dX3_withRank_25 : decode cX3_withRank 25 = .ok (.ishl, 1) := by decide +kernel
theorem dX3_withRank_26 : decode cX3_withRank 26 = .ok (.goto 4, 3) := by decide +kernel
theorem dX3_withRank_29 : decode cX3_withRank 29 = .ok (.iconst 0, 1) := by decide +kernel
theorem dX3_withRank_30 : decode cX3_withRank 30 = .ok (.ior, 1) := by decide +kernel
theorem dX3_withRank_31 : decode cX3_withRank 31 = .ok (.istore_n 2, 1) := by decide +kernel
theorem dX3_withRank_32 : decode cX3_withRank 32 = .ok (.iinc 3 1, 3) := by decide +kernel
theorem dX3_withRank_35 : decode cX3_withRank 35 = .ok (.goto (-31), 3) := by decide +kernel
theorem dX3_withRank_38 : decode cX3_withRank 38 = .ok (.iload_n 2, 1) := by decide +kernel
theorem dX3_withRank_39 : decode cX3_withRank 39 = .ok (.ireturn, 1) := by decide +kernel
set_option maxRecDepth 20000 in
theorem ggX3_rankedOf_X3_all : GoodIn wsX3_rankedOf wsX3_all := goodIn_rc _ [(0, 5), (0, 6), (0, 22), (0, 23), (0, 24), (0, 25), (0, 26), (0, 27), (0, 28), (0, 29), (0, 30), (0, 31), (1, 0)] (by rfl) (by decide +kernel)
set_option maxRecDepth 20000 in
theorem gX3_rankedOf_X3_all : GoodIn wsX3_rankedOf (wsV RX3 55 RX3 yX3_all wsX3_all) := goodIn_app (goodIn_of _ (by decide +kernel)) ggX3_rankedOf_X3_all
set_option maxRecDepth 20000 in
theorem ggX3_rankedOf_X3_withRank : GoodIn wsX3_rankedOf wsX3_withRank := goodIn_rc _ [(0, 10), (0, 6), (0, 11), (0, 22), (0, 23), (0, 24), (0, 25), (0, 26), (0, 27), (0, 28), (0, 29), (0, 30), (0, 31), (1, 0)] (by rfl) (by decide +kernel)
set_option maxRecDepth 20000 in
theorem gX3_rankedOf_X3_withRank : GoodIn wsX3_rankedOf (wsV RX3 65 RX3 yX3_withRank wsX3_withRank) := goodIn_app (goodIn_of _ (by decide +kernel)) ggX3_rankedOf_X3_withRank
set_option maxRecDepth 20000 in
theorem ggX3_rankedOf_X3_aheadOf : GoodIn wsX3_rankedOf wsX3_aheadOf := goodIn_rc _ [(0, 15), (0, 6), (0, 16), (0, 17), (0, 18), (0, 19), (0, 4), (0, 20), (0, 21), (0, 22), (0, 23), (0, 24), (0, 25), (0, 26), (0, 27), (0, 28), (0, 29), (0, 30), (0, 31), (1, 0)] (by rfl) (by decide +kernel)
set_option maxRecDepth 20000 in
theorem gX3_rankedOf_X3_aheadOf : GoodIn wsX3_rankedOf (wsV RX3 48 RX3 yX3_aheadOf wsX3_aheadOf) := goodIn_app (goodIn_of _ (by decide +kernel)) ggX3_rankedOf_X3_aheadOf
theorem dX3_rankedOf_0 : decode cX3_rankedOf 0 = .ok (.aload_n 0, 1) := by decide +kernel
theorem dX3_rankedOf_1 : decode cX3_rankedOf 1 = .ok (.invokevirtual 55, 3) := by decide +kernel
theorem dX3_rankedOf_4 : decode cX3_rankedOf 4 = .ok (.istore_n 1, 1) := by decide +kernel
theorem dX3_rankedOf_5 : decode cX3_rankedOf 5 = .ok (.iconst 0, 1) := by decide +kernel
theorem dX3_rankedOf_6 : decode cX3_rankedOf 6 = .ok (.istore_n 2, 1) := by decide +kernel
theorem dX3_rankedOf_7 : decode cX3_rankedOf 7 = .ok (.aload_n 0, 1) := by decide +kernel
theorem dX3_rankedOf_8 : decode cX3_rankedOf 8 = .ok (.invokevirtual 55, 3) := by decide +kernel
theorem dX3_rankedOf_11 : decode cX3_rankedOf 11 = .ok (.istore_n 3, 1) := by decide +kernel
theorem dX3_rankedOf_12 : decode cX3_rankedOf 12 = .ok (.aload_n 0, 1) := by decide +kernel
theorem dX3_rankedOf_13 : decode cX3_rankedOf 13 = .ok (.iconst 0, 1) := by decide +kernel
theorem dX3_rankedOf_14 : decode cX3_rankedOf 14 = .ok (.invokevirtual 65, 3) := by decide +kernel
theorem dX3_rankedOf_17 : decode cX3_rankedOf 17 = .ok (.aload_n 0, 1) := by decide +kernel
theorem dX3_rankedOf_18 : decode cX3_rankedOf 18 = .ok (.iload_n 1, 1) := by decide +kernel
theorem dX3_rankedOf_19 : decode cX3_rankedOf 19 = .ok (.iconst 0, 1) := by decide +kernel
theorem dX3_rankedOf_20 : decode cX3_rankedOf 20 = .ok (.invokevirtual 48, 3) := by decide +kernel
theorem dX3_rankedOf_23 : decode cX3_rankedOf 23 = .ok (.iand, 1) := by decide +kernel
theorem dX3_rankedOf_24 : decode cX3_rankedOf 24 = .ok (.aload_n 0, 1) := by decide +kernel
theorem dX3_rankedOf_25 : decode cX3_rankedOf 25 = .ok (.iconst 1, 1) := by decide +kernel
theorem dX3_rankedOf_26 : decode cX3_rankedOf 26 = .ok (.invokevirtual 65, 3) := by decide +kernel
theorem dX3_rankedOf_29 : decode cX3_rankedOf 29 = .ok (.aload_n 0, 1) := by decide +kernel
theorem dX3_rankedOf_30 : decode cX3_rankedOf 30 = .ok (.iload_n 2, 1) := by decide +kernel
theorem dX3_rankedOf_31 : decode cX3_rankedOf 31 = .ok (.iconst 0, 1) := by decide +kernel
theorem dX3_rankedOf_32 : decode cX3_rankedOf 32 = .ok (.invokevirtual 48, 3) := by decide +kernel
theorem dX3_rankedOf_35 : decode cX3_rankedOf 35 = .ok (.iand, 1) := by decide +kernel
theorem dX3_rankedOf_36 : decode cX3_rankedOf 36 = .ok (.ior, 1) := by decide +kernel
theorem dX3_rankedOf_37 : decode cX3_rankedOf 37 = .ok (.aload_n 0, 1) := by decide +kernel
theorem dX3_rankedOf_38 : decode cX3_rankedOf 38 = .ok (.iconst 2, 1) := by decide +kernel
theorem dX3_rankedOf_39 : decode cX3_rankedOf 39 = .ok (.invokevirtual 65, 3) := by decide +kernel
theorem dX3_rankedOf_42 : decode cX3_rankedOf 42 = .ok (.aload_n 0, 1) := by decide +kernel
theorem dX3_rankedOf_43 : decode cX3_rankedOf 43 = .ok (.iload_n 3, 1) := by decide +kernel
theorem dX3_rankedOf_44 : decode cX3_rankedOf 44 = .ok (.iconst 0, 1) := by decide +kernel
theorem dX3_rankedOf_45 : decode cX3_rankedOf 45 = .ok (.invokevirtual 48, 3) := by decide +kernel
theorem dX3_rankedOf_48 : decode cX3_rankedOf 48 = .ok (.iand, 1) := by decide +kernel
theorem dX3_rankedOf_49 : decode cX3_rankedOf 49 = .ok (.ior, 1) := by decide +kernel
theorem dX3_rankedOf_50 : decode cX3_rankedOf 50 = .ok (.istore 4, 2) := by decide +kernel
theorem dX3_rankedOf_52 : decode cX3_rankedOf 52 = .ok (.iload 4, 2) := by decide +kernel
theorem dX3_rankedOf_54 : decode cX3_rankedOf 54 = .ok (.iload_n 3, 1) := by decide +kernel
theorem dX3_rankedOf_55 : decode cX3_rankedOf 55 = .ok (.if_icmp .ne 6, 3) := by decide +kernel
theorem dX3_rankedOf_58 : decode cX3_rankedOf 58 = .ok (.goto 9, 3) := by decide +kernel
theorem dX3_rankedOf_61 : decode cX3_rankedOf 61 = .ok (.iload 4, 2) := by decide +kernel
theorem dX3_rankedOf_63 : decode cX3_rankedOf 63 = .ok (.istore_n 3, 1) := by decide +kernel
theorem dX3_rankedOf_64 : decode cX3_rankedOf 64 = .ok (.goto (-52), 3) := by decide +kernel
theorem dX3_rankedOf_67 : decode cX3_rankedOf 67 = .ok (.iload_n 3, 1) := by decide +kernel
theorem dX3_rankedOf_68 : decode cX3_rankedOf 68 = .ok (.iload_n 2, 1) := by decide +kernel
theorem dX3_rankedOf_69 : decode cX3_rankedOf 69 = .ok (.if_icmp .ne 6, 3) := by decide +kernel
theorem dX3_rankedOf_72 : decode cX3_rankedOf 72 = .ok (.goto 8, 3) := by decide +kernel
theorem dX3_rankedOf_75 : decode cX3_rankedOf 75 = .ok (.iload_n 3, 1) := by decide +kernel
theorem dX3_rankedOf_76 : decode cX3_rankedOf 76 = .ok (.istore_n 2, 1) := by decide +kernel
theorem dX3_rankedOf_77 : decode cX3_rankedOf 77 = .ok (.goto (-70), 3) := by decide +kernel
theorem dX3_rankedOf_80 : decode cX3_rankedOf 80 = .ok (.iload_n 2, 1) := by decide +kernel
theorem dX3_rankedOf_81 : decode cX3_rankedOf 81 = .ok (.iload_n 1, 1) := by decide +kernel
theorem dX3_rankedOf_82 : decode cX3_rankedOf 82 = .ok (.if_icmp .ne 5, 3) := by decide +kernel
theorem dX3_rankedOf_85 : decode cX3_rankedOf 85 = .ok (.iload_n 1, 1) := by decide +kernel
theorem dX3_rankedOf_86 : decode cX3_rankedOf 86 = .ok (.ireturn, 1) := by decide +kernel
theorem dX3_rankedOf_87 : decode cX3_rankedOf 87 = .ok (.iload_n 2, 1) := by decide +kernel
theorem dX3_rankedOf_88 : decode cX3_rankedOf 88 = .ok (.istore_n 1, 1) := by decide +kernel
theorem dX3_rankedOf_89 : decode cX3_rankedOf 89 = .ok (.goto (-84), 3) := by decide +kernel
set_option maxRecDepth 20000 in
theorem ggX3_wonIn_X3_comingOf : GoodIn wsX3_wonIn wsX3_comingOf := goodIn_rc _ [(0, 5), (0, 6), (0, 7), (0, 8), (0, 9), (0, 4), (0, 10), (0, 11), (0, 12), (0, 13), (0, 14), (0, 15), (0, 16), (0, 17), (0, 18), (0, 19), (0, 20), (0, 21), (1, 15), (1, 16), (1, 17), (1, 18), (1, 19), (1, 20), (1, 21), (1, 22), (1, 23), (1, 24), (1, 25)] (by rfl) (by decide +kernel)
set_option maxRecDepth 20000 in
theorem gX3_wonIn_X3_comingOf : GoodIn wsX3_wonIn (wsV RX3 59 RX3 yX3_comingOf wsX3_comingOf) := goodIn_app (goodIn_of _ (by decide +kernel)) ggX3_wonIn_X3_comingOf
set_option maxRecDepth 20000 in
theorem ggX3_wonIn_X3_keepingOf : GoodIn wsX3_wonIn wsX3_keepingOf := goodIn_rc _ [(0, 25), (0, 26), (0, 27), (0, 28), (0, 4), (0, 29), (0, 15), (0, 1), (0, 2), (0, 3), (0, 5), (0, 6), (0, 7), (0, 8), (0, 9), (0, 10), (0, 11), (0, 12), (0, 13), (0, 14), (0, 16), (0, 17), (0, 18), (0, 19), (0, 20), (0, 21), (1, 15), (1, 16), (1, 17), (1, 18), (1, 19), (1, 20), (1, 21), (1, 22), (1, 23), (1, 24), (1, 25)] (by rfl) (by decide +kernel)
set_option maxRecDepth 20000 in
theorem gX3_wonIn_X3_keepingOf : GoodIn wsX3_wonIn (wsV RX3 68 RX3 yX3_keepingOf wsX3_keepingOf) := goodIn_app (goodIn_of _ (by decide +kernel)) ggX3_wonIn_X3_keepingOf
set_option maxRecDepth 20000 in
theorem ggX3_wonIn_X3_againOf : GoodIn wsX3_wonIn wsX3_againOf := goodIn_rc _ [(1, 1), (0, 26), (0, 27), (0, 28), (0, 4), (0, 29), (0, 15), (1, 2), (1, 3), (1, 4), (1, 5), (0, 6), (0, 11), (0, 12), (0, 13), (0, 14), (0, 16), (0, 17), (0, 18), (0, 19), (0, 20), (0, 21), (0, 7), (0, 8), (0, 9), (0, 10), (1, 15), (1, 16), (1, 17), (1, 18), (1, 19), (1, 20), (1, 21), (1, 22), (1, 23), (1, 24), (1, 25)] (by rfl) (by decide +kernel)
set_option maxRecDepth 20000 in
theorem gX3_wonIn_X3_againOf : GoodIn wsX3_wonIn (wsV RX3 71 RX3 yX3_againOf wsX3_againOf) := goodIn_app (goodIn_of _ (by decide +kernel)) ggX3_wonIn_X3_againOf
set_option maxRecDepth 20000 in
theorem ggX3_wonIn_X3_rankedOf : GoodIn wsX3_wonIn wsX3_rankedOf := goodIn_rc _ [(1, 9), (0, 26), (0, 27), (0, 28), (0, 4), (0, 29), (0, 15), (1, 10), (1, 11), (1, 12), (1, 13), (1, 14), (0, 11), (0, 12), (0, 13), (0, 14), (0, 16), (0, 17), (0, 18), (0, 19), (0, 20), (0, 21), (1, 15), (1, 16), (1, 17), (1, 18), (1, 19), (1, 20), (1, 21), (1, 22), (1, 23), (1, 24), (1, 25)] (by rfl) (by decide +kernel)
set_option maxRecDepth 20000 in
theorem gX3_wonIn_X3_rankedOf : GoodIn wsX3_wonIn (wsV RX3 74 RX3 yX3_rankedOf wsX3_rankedOf) := goodIn_app (goodIn_of _ (by decide +kernel)) ggX3_wonIn_X3_rankedOf
set_option maxRecDepth 20000 in
theorem ggX3_wonIn_X3_all : GoodIn wsX3_wonIn wsX3_all := goodIn_rc _ [(0, 29), (0, 15), (1, 15), (1, 16), (1, 17), (1, 18), (1, 19), (1, 20), (1, 21), (1, 22), (1, 23), (1, 24), (1, 25)] (by rfl) (by decide +kernel)
set_option maxRecDepth 20000 in
theorem gX3_wonIn_X3_all : GoodIn wsX3_wonIn (wsV RX3 55 RX3 yX3_all wsX3_all) := goodIn_app (goodIn_of _ (by decide +kernel)) ggX3_wonIn_X3_all
theorem dX3_wonIn_0 : decode cX3_wonIn 0 = .ok (.iload_n 1, 1) := by decide +kernel
theorem dX3_wonIn_1 : decode cX3_wonIn 1 = .ok (.tableswitch 45 0 2 #[27, 33, 39], 27) := by decide +kernel
theorem dX3_wonIn_28 : decode cX3_wonIn 28 = .ok (.aload_n 0, 1) := by decide +kernel
theorem dX3_wonIn_29 : decode cX3_wonIn 29 = .ok (.iload_n 2, 1) := by decide +kernel
theorem dX3_wonIn_30 : decode cX3_wonIn 30 = .ok (.invokevirtual 59, 3) := by decide +kernel
theorem dX3_wonIn_33 : decode cX3_wonIn 33 = .ok (.ireturn, 1) := by decide +kernel
theorem dX3_wonIn_34 : decode cX3_wonIn 34 = .ok (.aload_n 0, 1) := by decide +kernel
theorem dX3_wonIn_35 : decode cX3_wonIn 35 = .ok (.iload_n 2, 1) := by decide +kernel
theorem dX3_wonIn_36 : decode cX3_wonIn 36 = .ok (.invokevirtual 68, 3) := by decide +kernel
theorem dX3_wonIn_39 : decode cX3_wonIn 39 = .ok (.ireturn, 1) := by decide +kernel
theorem dX3_wonIn_40 : decode cX3_wonIn 40 = .ok (.aload_n 0, 1) := by decide +kernel
theorem dX3_wonIn_41 : decode cX3_wonIn 41 = .ok (.iload_n 2, 1) := by decide +kernel
theorem dX3_wonIn_42 : decode cX3_wonIn 42 = .ok (.invokevirtual 71, 3) := by decide +kernel
theorem dX3_wonIn_45 : decode cX3_wonIn 45 = .ok (.ireturn, 1) := by decide +kernel
theorem dX3_wonIn_46 : decode cX3_wonIn 46 = .ok (.iload_n 2, 1) := by decide +kernel
theorem dX3_wonIn_47 : decode cX3_wonIn 47 = .ok (.ifCond .ne 10, 3) := by decide +kernel
theorem dX3_wonIn_50 : decode cX3_wonIn 50 = .ok (.aload_n 0, 1) := by decide +kernel
theorem dX3_wonIn_51 : decode cX3_wonIn 51 = .ok (.invokevirtual 74, 3) := by decide +kernel
theorem dX3_wonIn_54 : decode cX3_wonIn 54 = .ok (.goto 14, 3) := by decide +kernel
theorem dX3_wonIn_57 : decode cX3_wonIn 57 = .ok (.aload_n 0, 1) := by decide +kernel
theorem dX3_wonIn_58 : decode cX3_wonIn 58 = .ok (.invokevirtual 55, 3) := by decide +kernel
theorem dX3_wonIn_61 : decode cX3_wonIn 61 = .ok (.aload_n 0, 1) := by decide +kernel
theorem dX3_wonIn_62 : decode cX3_wonIn 62 = .ok (.invokevirtual 74, 3) := by decide +kernel
theorem dX3_wonIn_65 : decode cX3_wonIn 65 = .ok (.iconst (-1), 1) := by decide +kernel
theorem dX3_wonIn_66 : decode cX3_wonIn 66 = .ok (.ixor, 1) := by decide +kernel
theorem dX3_wonIn_67 : decode cX3_wonIn 67 = .ok (.iand, 1) := by decide +kernel
theorem dX3_wonIn_68 : decode cX3_wonIn 68 = .ok (.ireturn, 1) := by decide +kernel
set_option maxRecDepth 20000 in
theorem ggX3_roundsTo_X3_isIn : GoodIn wsX3_roundsTo wsX3_isIn := goodIn_rc _ [(0, 7)] (by rfl) (by decide +kernel)
set_option maxRecDepth 20000 in
theorem gX3_roundsTo_X3_isIn : GoodIn wsX3_roundsTo (va_wsS RX3 77 yX3_isIn wsX3_isIn) := goodIn_app (goodIn_of _ (by decide +kernel)) ggX3_roundsTo_X3_isIn
set_option maxRecDepth 20000 in
theorem ggX3_roundsTo_X3_sideOf : GoodIn wsX3_roundsTo wsX3_sideOf := goodIn_rc _ [(0, 11), (0, 12), (0, 17), (0, 18), (0, 19), (0, 20), (0, 21), (0, 22), (0, 23), (0, 24), (0, 25), (0, 26), (0, 27)] (by rfl) (by decide +kernel)
set_option maxRecDepth 20000 in
theorem gX3_roundsTo_X3_sideOf : GoodIn wsX3_roundsTo (wsV RX3 45 RX3 yX3_sideOf wsX3_sideOf) := goodIn_app (goodIn_of _ (by decide +kernel)) ggX3_roundsTo_X3_sideOf
set_option maxRecDepth 20000 in
theorem ggX3_roundsTo_X3_aheadOf : GoodIn wsX3_roundsTo wsX3_aheadOf := goodIn_rc _ [(0, 16), (0, 2), (0, 3), (0, 8), (0, 9), (0, 10), (0, 6), (0, 11), (0, 12), (0, 17), (0, 18), (0, 19), (0, 20), (0, 21), (0, 22), (0, 23), (0, 24), (0, 25), (0, 26), (0, 27)] (by rfl) (by decide +kernel)
set_option maxRecDepth 20000 in
theorem gX3_roundsTo_X3_aheadOf : GoodIn wsX3_roundsTo (wsV RX3 48 RX3 yX3_aheadOf wsX3_aheadOf) := goodIn_app (goodIn_of _ (by decide +kernel)) ggX3_roundsTo_X3_aheadOf
theorem dX3_roundsTo_0 : decode cX3_roundsTo 0 = .ok (.iload_n 1, 1) := by decide +kernel
theorem dX3_roundsTo_1 : decode cX3_roundsTo 1 = .ok (.iload_n 3, 1) := by decide +kernel
theorem dX3_roundsTo_2 : decode cX3_roundsTo 2 = .ok (.invokestatic 77, 3) := by decide +kernel
theorem dX3_roundsTo_5 : decode cX3_roundsTo 5 = .ok (.ifCond .ne 5, 3) := by decide +kernel
theorem dX3_roundsTo_8 : decode cX3_roundsTo 8 = .ok (.iconst (-1), 1) := by decide +kernel
theorem dX3_roundsTo_9 : decode cX3_roundsTo 9 = .ok (.ireturn, 1) := by decide +kernel
theorem dX3_roundsTo_10 : decode cX3_roundsTo 10 = .ok (.aload_n 0, 1) := by decide +kernel
theorem dX3_roundsTo_11 : decode cX3_roundsTo 11 = .ok (.getfield 23, 3) := by decide +kernel
theorem dX3_roundsTo_14 : decode cX3_roundsTo 14 = .ok (.iload_n 1, 1) := by decide +kernel
theorem dX3_roundsTo_15 : decode cX3_roundsTo 15 = .ok (.iand, 1) := by decide +kernel
theorem dX3_roundsTo_16 : decode cX3_roundsTo 16 = .ok (.istore 4, 2) := by decide +kernel
theorem dX3_roundsTo_18 : decode cX3_roundsTo 18 = .ok (.iconst 0, 1) := by decide +kernel
theorem dX3_roundsTo_19 : decode cX3_roundsTo 19 = .ok (.istore 5, 2) := by decide +kernel
theorem dX3_roundsTo_21 : decode cX3_roundsTo 21 = .ok (.iload 5, 2) := by decide +kernel
theorem dX3_roundsTo_23 : decode cX3_roundsTo 23 = .ok (.aload_n 0, 1) := by decide +kernel
theorem dX3_roundsTo_24 : decode cX3_roundsTo 24 = .ok (.getfield 17, 3) := by decide +kernel
theorem dX3_roundsTo_27 : decode cX3_roundsTo 27 = .ok (.if_icmp .ge 38, 3) := by decide +kernel
theorem dX3_roundsTo_30 : decode cX3_roundsTo 30 = .ok (.aload_n 0, 1) := by decide +kernel
theorem dX3_roundsTo_31 : decode cX3_roundsTo 31 = .ok (.iload 5, 2) := by decide +kernel
theorem dX3_roundsTo_33 : decode cX3_roundsTo 33 = .ok (.invokevirtual 45, 3) := by decide +kernel
theorem dX3_roundsTo_36 : decode cX3_roundsTo 36 = .ok (.iload_n 2, 1) := by decide +kernel
theorem dX3_roundsTo_37 : decode cX3_roundsTo 37 = .ok (.if_icmp .eq 22, 3) := by decide +kernel
theorem dX3_roundsTo_40 : decode cX3_roundsTo 40 = .ok (.aload_n 0, 1) := by decide +kernel
theorem dX3_roundsTo_41 : decode cX3_roundsTo 41 = .ok (.getfield 30, 3) := by decide +kernel
theorem dX3_roundsTo_44 : decode cX3_roundsTo 44 = .ok (.iload 5, 2) := by decide +kernel
theorem dX3_roundsTo_46 : decode cX3_roundsTo 46 = .ok (.iaload, 1) := by decide +kernel
theorem dX3_roundsTo_47 : decode cX3_roundsTo 47 = .ok (.ifCond .ne 12, 3) := by decide +kernel
theorem dX3_roundsTo_50 : decode cX3_roundsTo 50 = .ok (.iload 4, 2) := by decide +kernel
theorem dX3_roundsTo_52 : decode cX3_roundsTo 52 = .ok (.iconst 1, 1) := by decide +kernel
theorem dX3_roundsTo_53 : decode cX3_roundsTo 53 = .ok (.iload 5, 2) := by decide +kernel
theorem dX3_roundsTo_55 : decode cX3_roundsTo 55 = .ok (.ishl, 1) := by decide +kernel
theorem dX3_roundsTo_56 : decode cX3_roundsTo 56 = .ok (.ior, 1) := by decide +kernel
theorem dX3_roundsTo_57 : decode cX3_roundsTo 57 = .ok (.istore 4, 2) := by decide +kernel
theorem dX3_roundsTo_59 : decode cX3_roundsTo 59 = .ok (.iinc 5 1, 3) := by decide +kernel
theorem dX3_roundsTo_62 : decode cX3_roundsTo 62 = .ok (.goto (-41), 3) := by decide +kernel
theorem dX3_roundsTo_65 : decode cX3_roundsTo 65 = .ok (.iconst 0, 1) := by decide +kernel
theorem dX3_roundsTo_66 : decode cX3_roundsTo 66 = .ok (.istore 5, 2) := by decide +kernel
theorem dX3_roundsTo_68 : decode cX3_roundsTo 68 = .ok (.iload 4, 2) := by decide +kernel
theorem dX3_roundsTo_70 : decode cX3_roundsTo 70 = .ok (.iload_n 3, 1) := by decide +kernel
theorem dX3_roundsTo_71 : decode cX3_roundsTo 71 = .ok (.invokestatic 77, 3) := by decide +kernel
theorem dX3_roundsTo_74 : decode cX3_roundsTo 74 = .ok (.ifCond .ne 23, 3) := by decide +kernel
theorem dX3_roundsTo_77 : decode cX3_roundsTo 77 = .ok (.iload 4, 2) := by decide +kernel
theorem dX3_roundsTo_79 : decode cX3_roundsTo 79 = .ok (.aload_n 0, 1) := by decide +kernel
theorem dX3_roundsTo_80 : decode cX3_roundsTo 80 = .ok (.iload 4, 2) := by decide +kernel
theorem dX3_roundsTo_82 : decode cX3_roundsTo 82 = .ok (.iload_n 2, 1) := by decide +kernel
theorem dX3_roundsTo_83 : decode cX3_roundsTo 83 = .ok (.invokevirtual 48, 3) := by decide +kernel
theorem dX3_roundsTo_86 : decode cX3_roundsTo 86 = .ok (.iload_n 1, 1) := by decide +kernel
theorem dX3_roundsTo_87 : decode cX3_roundsTo 87 = .ok (.iand, 1) := by decide +kernel
theorem dX3_roundsTo_88 : decode cX3_roundsTo 88 = .ok (.ior, 1) := by decide +kernel
theorem dX3_roundsTo_89 : decode cX3_roundsTo 89 = .ok (.istore 4, 2) := by decide +kernel
theorem dX3_roundsTo_91 : decode cX3_roundsTo 91 = .ok (.iinc 5 1, 3) := by decide +kernel
theorem dX3_roundsTo_94 : decode cX3_roundsTo 94 = .ok (.goto (-26), 3) := by decide +kernel
theorem dX3_roundsTo_97 : decode cX3_roundsTo 97 = .ok (.iload 5, 2) := by decide +kernel
theorem dX3_roundsTo_99 : decode cX3_roundsTo 99 = .ok (.ireturn, 1) := by decide +kernel
set_option maxRecDepth 20000 in
theorem ggX3_choiceOf_X3_wonIn : GoodIn wsX3_choiceOf wsX3_wonIn := goodIn_rc _ [(0, 8), (0, 9), (0, 10), (0, 11), (0, 7), (0, 12), (0, 1), (0, 13), (0, 14), (0, 15), (0, 16), (0, 17), (0, 18), (0, 19), (0, 20), (0, 2), (0, 3), (0, 21), (0, 22), (0, 23), (0, 24), (0, 25), (0, 26), (0, 27), (0, 28), (0, 29), (0, 30), (0, 31), (1, 0), (1, 1), (1, 2), (1, 3), (1, 4), (1, 5), (1, 6), (1, 7), (1, 8), (1, 9), (1, 10), (1, 11), (1, 12), (1, 13), (1, 14), (1, 15), (1, 16), (1, 17), (1, 18), (1, 26), (1, 27), (1, 28), (1, 29), (1, 30), (1, 31), (2, 0), (2, 1), (2, 2), (2, 3), (2, 4)] (by rfl) (by decide +kernel)
set_option maxRecDepth 20000 in
theorem gX3_choiceOf_X3_wonIn : GoodIn wsX3_choiceOf (wsV RX3 81 RX3 yX3_wonIn wsX3_wonIn) := goodIn_app (goodIn_of _ (by decide +kernel)) ggX3_choiceOf_X3_wonIn
set_option maxRecDepth 20000 in
theorem ggX3_choiceOf_X3_sideOf : GoodIn wsX3_choiceOf wsX3_sideOf := goodIn_rc _ [(0, 24), (0, 25), (1, 26), (1, 27), (1, 28), (1, 29), (1, 30), (1, 31), (2, 0), (2, 1), (2, 2), (2, 3), (2, 4)] (by rfl) (by decide +kernel)
set_option maxRecDepth 20000 in
theorem gX3_choiceOf_X3_sideOf : GoodIn wsX3_choiceOf (wsV RX3 45 RX3 yX3_sideOf wsX3_sideOf) := goodIn_app (goodIn_of _ (by decide +kernel)) ggX3_choiceOf_X3_sideOf
set_option maxRecDepth 20000 in
theorem ggX3_choiceOf_X3_isIn : GoodIn wsX3_choiceOf wsX3_isIn := goodIn_rc _ [(1, 21)] (by rfl) (by decide +kernel)
set_option maxRecDepth 20000 in
theorem gX3_choiceOf_X3_isIn : GoodIn wsX3_choiceOf (va_wsS RX3 77 yX3_isIn wsX3_isIn) := goodIn_app (goodIn_of _ (by decide +kernel)) ggX3_choiceOf_X3_isIn
set_option maxRecDepth 20000 in
theorem ggX3_choiceOf_X3_roundsTo : GoodIn wsX3_choiceOf wsX3_roundsTo := goodIn_rc _ [(1, 25), (0, 1), (0, 2), (0, 3), (1, 19), (1, 20), (0, 7), (1, 21), (0, 21), (0, 22), (0, 23), (0, 24), (0, 25), (0, 17), (0, 18), (0, 19), (0, 20), (1, 26), (1, 27), (1, 28), (1, 29), (1, 30), (1, 31), (2, 0), (2, 1), (2, 2), (2, 3), (2, 4)] (by rfl) (by decide +kernel)
set_option maxRecDepth 20000 in
theorem gX3_choiceOf_X3_roundsTo : GoodIn wsX3_choiceOf (wsV RX3 84 RX3 yX3_roundsTo wsX3_roundsTo) := goodIn_app (goodIn_of _ (by decide +kernel)) ggX3_choiceOf_X3_roundsTo
theorem dX3_choiceOf_0 : decode cX3_choiceOf 0 = .ok (.aload_n 0, 1) := by decide +kernel
theorem dX3_choiceOf_1 : decode cX3_choiceOf 1 = .ok (.iload_n 1, 1) := by decide +kernel
theorem dX3_choiceOf_2 : decode cX3_choiceOf 2 = .ok (.iload_n 2, 1) := by decide +kernel
theorem dX3_choiceOf_3 : decode cX3_choiceOf 3 = .ok (.invokevirtual 81, 3) := by decide +kernel
theorem dX3_choiceOf_6 : decode cX3_choiceOf 6 = .ok (.istore 4, 2) := by decide +kernel
theorem dX3_choiceOf_8 : decode cX3_choiceOf 8 = .ok (.aload_n 0, 1) := by decide +kernel
theorem dX3_choiceOf_9 : decode cX3_choiceOf 9 = .ok (.iload_n 3, 1) := by decide +kernel
theorem dX3_choiceOf_10 : decode cX3_choiceOf 10 = .ok (.invokevirtual 45, 3) := by decide +kernel
theorem dX3_choiceOf_13 : decode cX3_choiceOf 13 = .ok (.iload_n 2, 1) := by decide +kernel
theorem dX3_choiceOf_14 : decode cX3_choiceOf 14 = .ok (.if_icmp .ne 12, 3) := by decide +kernel
theorem dX3_choiceOf_17 : decode cX3_choiceOf 17 = .ok (.iload 4, 2) := by decide +kernel
theorem dX3_choiceOf_19 : decode cX3_choiceOf 19 = .ok (.iload_n 3, 1) := by decide +kernel
theorem dX3_choiceOf_20 : decode cX3_choiceOf 20 = .ok (.invokestatic 77, 3) := by decide +kernel
theorem dX3_choiceOf_23 : decode cX3_choiceOf 23 = .ok (.ifCond .ne 5, 3) := by decide +kernel
theorem dX3_choiceOf_26 : decode cX3_choiceOf 26 = .ok (.iconst (-1), 1) := by decide +kernel
theorem dX3_choiceOf_27 : decode cX3_choiceOf 27 = .ok (.ireturn, 1) := by decide +kernel
theorem dX3_choiceOf_28 : decode cX3_choiceOf 28 = .ok (.iload_n 1, 1) := by decide +kernel
theorem dX3_choiceOf_29 : decode cX3_choiceOf 29 = .ok (.ifCond .ne 16, 3) := by decide +kernel
theorem dX3_choiceOf_32 : decode cX3_choiceOf 32 = .ok (.aload_n 0, 1) := by decide +kernel
theorem dX3_choiceOf_33 : decode cX3_choiceOf 33 = .ok (.getfield 23, 3) := by decide +kernel
theorem dX3_choiceOf_36 : decode cX3_choiceOf 36 = .ok (.iload_n 3, 1) := by decide +kernel
theorem dX3_choiceOf_37 : decode cX3_choiceOf 37 = .ok (.invokestatic 77, 3) := by decide +kernel
theorem dX3_choiceOf_40 : decode cX3_choiceOf 40 = .ok (.ifCond .eq 5, 3) := by decide +kernel
theorem dX3_choiceOf_43 : decode cX3_choiceOf 43 = .ok (.iconst (-1), 1) := by decide +kernel
theorem dX3_choiceOf_44 : decode cX3_choiceOf 44 = .ok (.ireturn, 1) := by decide +kernel
theorem dX3_choiceOf_45 : decode cX3_choiceOf 45 = .ok (.iload_n 1, 1) := by decide +kernel
theorem dX3_choiceOf_46 : decode cX3_choiceOf 46 = .ok (.iconst 1, 1) := by decide +kernel
theorem dX3_choiceOf_47 : decode cX3_choiceOf 47 = .ok (.if_icmp .eq 19, 3) := by decide +kernel
theorem dX3_choiceOf_50 : decode cX3_choiceOf 50 = .ok (.iload_n 1, 1) := by decide +kernel
theorem dX3_choiceOf_51 : decode cX3_choiceOf 51 = .ok (.iconst 2, 1) := by decide +kernel
theorem dX3_choiceOf_52 : decode cX3_choiceOf 52 = .ok (.if_icmp .ne 18, 3) := by decide +kernel
theorem dX3_choiceOf_55 : decode cX3_choiceOf 55 = .ok (.aload_n 0, 1) := by decide +kernel
theorem dX3_choiceOf_56 : decode cX3_choiceOf 56 = .ok (.getfield 23, 3) := by decide +kernel
theorem dX3_choiceOf_59 : decode cX3_choiceOf 59 = .ok (.iload_n 3, 1) := by decide +kernel
theorem dX3_choiceOf_60 : decode cX3_choiceOf 60 = .ok (.invokestatic 77, 3) := by decide +kernel
theorem dX3_choiceOf_63 : decode cX3_choiceOf 63 = .ok (.ifCond .eq 7, 3) := by decide +kernel
theorem dX3_choiceOf_66 : decode cX3_choiceOf 66 = .ok (.iconst 1, 1) := by decide +kernel
theorem dX3_choiceOf_67 : decode cX3_choiceOf 67 = .ok (.goto 4, 3) := by decide +kernel
theorem dX3_choiceOf_70 : decode cX3_choiceOf 70 = .ok (.iconst 0, 1) := by decide +kernel
theorem dX3_choiceOf_71 : decode cX3_choiceOf 71 = .ok (.istore 5, 2) := by decide +kernel
theorem dX3_choiceOf_73 : decode cX3_choiceOf 73 = .ok (.iconst 0, 1) := by decide +kernel
theorem dX3_choiceOf_74 : decode cX3_choiceOf 74 = .ok (.istore 6, 2) := by decide +kernel
theorem dX3_choiceOf_76 : decode cX3_choiceOf 76 = .ok (.iload 6, 2) := by decide +kernel
theorem dX3_choiceOf_78 : decode cX3_choiceOf 78 = .ok (.aload_n 0, 1) := by decide +kernel
theorem dX3_choiceOf_79 : decode cX3_choiceOf 79 = .ok (.getfield 17, 3) := by decide +kernel
theorem dX3_choiceOf_82 : decode cX3_choiceOf 82 = .ok (.if_icmp .ge 66, 3) := by decide +kernel
theorem dX3_choiceOf_85 : decode cX3_choiceOf 85 = .ok (.aload_n 0, 1) := by decide +kernel
theorem dX3_choiceOf_86 : decode cX3_choiceOf 86 = .ok (.getfield 30, 3) := by decide +kernel
theorem dX3_choiceOf_89 : decode cX3_choiceOf 89 = .ok (.iload_n 3, 1) := by decide +kernel
theorem dX3_choiceOf_90 : decode cX3_choiceOf 90 = .ok (.iaload, 1) := by decide +kernel
theorem dX3_choiceOf_91 : decode cX3_choiceOf 91 = .ok (.iload 6, 2) := by decide +kernel
theorem dX3_choiceOf_93 : decode cX3_choiceOf 93 = .ok (.invokestatic 77, 3) := by decide +kernel
theorem dX3_choiceOf_96 : decode cX3_choiceOf 96 = .ok (.ifCond .eq 46, 3) := by decide +kernel
theorem dX3_choiceOf_99 : decode cX3_choiceOf 99 = .ok (.iload 4, 2) := by decide +kernel
theorem dX3_choiceOf_101 : decode cX3_choiceOf 101 = .ok (.iload 6, 2) := by decide +kernel
theorem dX3_choiceOf_103 : decode cX3_choiceOf 103 = .ok (.invokestatic 77, 3) := by decide +kernel
theorem dX3_choiceOf_106 : decode cX3_choiceOf 106 = .ok (.ifCond .ne 6, 3) := by decide +kernel
theorem dX3_choiceOf_109 : decode cX3_choiceOf 109 = .ok (.goto 33, 3) := by decide +kernel
theorem dX3_choiceOf_112 : decode cX3_choiceOf 112 = .ok (.iload 5, 2) := by decide +kernel
theorem dX3_choiceOf_114 : decode cX3_choiceOf 114 = .ok (.ifCond .ne 25, 3) := by decide +kernel
theorem dX3_choiceOf_117 : decode cX3_choiceOf 117 = .ok (.aload_n 0, 1) := by decide +kernel
theorem dX3_choiceOf_118 : decode cX3_choiceOf 118 = .ok (.iload 4, 2) := by decide +kernel
theorem dX3_choiceOf_120 : decode cX3_choiceOf 120 = .ok (.iload_n 2, 1) := by decide +kernel
theorem dX3_choiceOf_121 : decode cX3_choiceOf 121 = .ok (.iload 6, 2) := by decide +kernel
theorem dX3_choiceOf_123 : decode cX3_choiceOf 123 = .ok (.invokevirtual 84, 3) := by decide +kernel
theorem dX3_choiceOf_126 : decode cX3_choiceOf 126 = .ok (.aload_n 0, 1) := by decide +kernel
theorem dX3_choiceOf_127 : decode cX3_choiceOf 127 = .ok (.iload 4, 2) := by decide +kernel
theorem dX3_choiceOf_129 : decode cX3_choiceOf 129 = .ok (.iload_n 2, 1) := by decide +kernel
theorem dX3_choiceOf_130 : decode cX3_choiceOf 130 = .ok (.iload_n 3, 1) := by decide +kernel
theorem dX3_choiceOf_131 : decode cX3_choiceOf 131 = .ok (.invokevirtual 84, 3) := by decide +kernel
theorem dX3_choiceOf_134 : decode cX3_choiceOf 134 = .ok (.iconst 1, 1) := by decide +kernel
theorem dX3_choiceOf_135 : decode cX3_choiceOf 135 = .ok (.isub, 1) := by decide +kernel
theorem dX3_choiceOf_136 : decode cX3_choiceOf 136 = .ok (.if_icmp .ne 6, 3) := by decide +kernel
theorem dX3_choiceOf_139 : decode cX3_choiceOf 139 = .ok (.iload 6, 2) := by decide +kernel
theorem dX3_choiceOf_141 : decode cX3_choiceOf 141 = .ok (.ireturn, 1) := by decide +kernel
theorem dX3_choiceOf_142 : decode cX3_choiceOf 142 = .ok (.iinc 6 1, 3) := by decide +kernel
theorem dX3_choiceOf_145 : decode cX3_choiceOf 145 = .ok (.goto (-69), 3) := by decide +kernel
theorem dX3_choiceOf_148 : decode cX3_choiceOf 148 = .ok (.iconst (-1), 1) := by decide +kernel
theorem dX3_choiceOf_149 : decode cX3_choiceOf 149 = .ok (.ireturn, 1) := by decide +kernel
set_option maxRecDepth 20000 in
theorem ggX3_choicesOf_X3_sideOf : GoodIn wsX3_choicesOf wsX3_sideOf := goodIn_rc _ [(0, 7), (0, 8), (0, 16), (0, 17), (0, 18), (0, 19), (0, 20), (0, 21), (0, 22), (0, 23), (0, 24), (0, 25), (0, 26)] (by rfl) (by decide +kernel)
set_option maxRecDepth 20000 in
theorem gX3_choicesOf_X3_sideOf : GoodIn wsX3_choicesOf (wsV RX3 45 RX3 yX3_sideOf wsX3_sideOf) := goodIn_app (goodIn_of _ (by decide +kernel)) ggX3_choicesOf_X3_sideOf
set_option maxRecDepth 20000 in
theorem ggX3_choicesOf_J6_bitCount_0f7a4 : GoodIn wsX3_choicesOf wsJ6_bitCount_0f7a4 := goodIn_rc _ [(0, 12), (0, 13), (0, 14), (0, 15)] (by rfl) (by decide +kernel)
set_option maxRecDepth 20000 in
theorem gX3_choicesOf_J6_bitCount_0f7a4 : GoodIn wsX3_choicesOf (va_wsS RX3 39 yJ6_bitCount_0f7a4 wsJ6_bitCount_0f7a4) := goodIn_app (goodIn_of _ (by decide +kernel)) ggX3_choicesOf_J6_bitCount_0f7a4
theorem dX3_choicesOf_0 : decode cX3_choicesOf 0 = .ok (.iconst 1, 1) := by decide +kernel
theorem dX3_choicesOf_1 : decode cX3_choicesOf 1 = .ok (.istore_n 2, 1) := by decide +kernel
theorem dX3_choicesOf_2 : decode cX3_choicesOf 2 = .ok (.iconst 0, 1) := by decide +kernel
theorem dX3_choicesOf_3 : decode cX3_choicesOf 3 = .ok (.istore_n 3, 1) := by decide +kernel
theorem dX3_choicesOf_4 : decode cX3_choicesOf 4 = .ok (.iload_n 3, 1) := by decide +kernel
theorem dX3_choicesOf_5 : decode cX3_choicesOf 5 = .ok (.aload_n 0, 1) := by decide +kernel
theorem dX3_choicesOf_6 : decode cX3_choicesOf 6 = .ok (.getfield 17, 3) := by decide +kernel
theorem dX3_choicesOf_9 : decode cX3_choicesOf 9 = .ok (.if_icmp .ge 39, 3) := by decide +kernel
theorem dX3_choicesOf_12 : decode cX3_choicesOf 12 = .ok (.aload_n 0, 1) := by decide +kernel
theorem dX3_choicesOf_13 : decode cX3_choicesOf 13 = .ok (.iload_n 3, 1) := by decide +kernel
theorem dX3_choicesOf_14 : decode cX3_choicesOf 14 = .ok (.invokevirtual 45, 3) := by decide +kernel
theorem dX3_choicesOf_17 : decode cX3_choicesOf 17 = .ok (.iload_n 1, 1) := by decide +kernel
theorem dX3_choicesOf_18 : decode cX3_choicesOf 18 = .ok (.if_icmp .ne 24, 3) := by decide +kernel
theorem dX3_choicesOf_21 : decode cX3_choicesOf 21 = .ok (.aload_n 0, 1) := by decide +kernel
theorem dX3_choicesOf_22 : decode cX3_choicesOf 22 = .ok (.getfield 30, 3) := by decide +kernel
theorem dX3_choicesOf_25 : decode cX3_choicesOf 25 = .ok (.iload_n 3, 1) := by decide +kernel
theorem dX3_choicesOf_26 : decode cX3_choicesOf 26 = .ok (.iaload, 1) := by decide +kernel
theorem dX3_choicesOf_27 : decode cX3_choicesOf 27 = .ok (.ifCond .eq 15, 3) := by decide +kernel
theorem dX3_choicesOf_30 : decode cX3_choicesOf 30 = .ok (.iload_n 2, 1) := by decide +kernel
theorem dX3_choicesOf_31 : decode cX3_choicesOf 31 = .ok (.aload_n 0, 1) := by decide +kernel
theorem dX3_choicesOf_32 : decode cX3_choicesOf 32 = .ok (.getfield 30, 3) := by decide +kernel
theorem dX3_choicesOf_35 : decode cX3_choicesOf 35 = .ok (.iload_n 3, 1) := by decide +kernel
theorem dX3_choicesOf_36 : decode cX3_choicesOf 36 = .ok (.iaload, 1) := by decide +kernel
theorem dX3_choicesOf_37 : decode cX3_choicesOf 37 = .ok (.invokestatic 39, 3) := by decide +kernel
theorem dX3_choicesOf_40 : decode cX3_choicesOf 40 = .ok (.imul, 1) := by decide +kernel
theorem dX3_choicesOf_41 : decode cX3_choicesOf 41 = .ok (.istore_n 2, 1) := by decide +kernel
theorem dX3_choicesOf_42 : decode cX3_choicesOf 42 = .ok (.iinc 3 1, 3) := by decide +kernel
theorem dX3_choicesOf_45 : decode cX3_choicesOf 45 = .ok (.goto (-41), 3) := by decide +kernel
theorem dX3_choicesOf_48 : decode cX3_choicesOf 48 = .ok (.iload_n 2, 1) := by decide +kernel
theorem dX3_choicesOf_49 : decode cX3_choicesOf 49 = .ok (.ireturn, 1) := by decide +kernel
theorem dX3_isPlace_0 : decode cX3_isPlace 0 = .ok (.iload_n 1, 1) := by decide +kernel
theorem dX3_isPlace_1 : decode cX3_isPlace 1 = .ok (.ifCond .lt 15, 3) := by decide +kernel
theorem dX3_isPlace_4 : decode cX3_isPlace 4 = .ok (.iload_n 1, 1) := by decide +kernel
theorem dX3_isPlace_5 : decode cX3_isPlace 5 = .ok (.aload_n 0, 1) := by decide +kernel
theorem dX3_isPlace_6 : decode cX3_isPlace 6 = .ok (.getfield 17, 3) := by decide +kernel
theorem dX3_isPlace_9 : decode cX3_isPlace 9 = .ok (.if_icmp .ge 7, 3) := by decide +kernel
theorem dX3_isPlace_12 : decode cX3_isPlace 12 = .ok (.iconst 1, 1) := by decide +kernel
theorem dX3_isPlace_13 : decode cX3_isPlace 13 = .ok (.goto 4, 3) := by decide +kernel
theorem dX3_isPlace_16 : decode cX3_isPlace 16 = .ok (.iconst 0, 1) := by decide +kernel
theorem dX3_isPlace_17 : decode cX3_isPlace 17 = .ok (.ireturn, 1) := by decide +kernel
theorem dX3_isSide_0 : decode cX3_isSide 0 = .ok (.iload_n 0, 1) := by decide +kernel
theorem dX3_isSide_1 : decode cX3_isSide 1 = .ok (.ifCond .eq 8, 3) := by decide +kernel
theorem dX3_isSide_4 : decode cX3_isSide 4 = .ok (.iload_n 0, 1) := by decide +kernel
theorem dX3_isSide_5 : decode cX3_isSide 5 = .ok (.iconst 1, 1) := by decide +kernel
theorem dX3_isSide_6 : decode cX3_isSide 6 = .ok (.if_icmp .ne 7, 3) := by decide +kernel
theorem dX3_isSide_9 : decode cX3_isSide 9 = .ok (.iconst 1, 1) := by decide +kernel
theorem dX3_isSide_10 : decode cX3_isSide 10 = .ok (.goto 4, 3) := by decide +kernel
theorem dX3_isSide_13 : decode cX3_isSide 13 = .ok (.iconst 0, 1) := by decide +kernel
theorem dX3_isSide_14 : decode cX3_isSide 14 = .ok (.ireturn, 1) := by decide +kernel
theorem dX3_isThrown_0 : decode cX3_isThrown 0 = .ok (.aload_n 0, 1) := by decide +kernel
theorem dX3_isThrown_1 : decode cX3_isThrown 1 = .ok (.iload_n 1, 1) := by decide +kernel
theorem dX3_isThrown_2 : decode cX3_isThrown 2 = .ok (.ifCond .eq 7, 3) := by decide +kernel
theorem dX3_isThrown_5 : decode cX3_isThrown 5 = .ok (.iconst 1, 1) := by decide +kernel
theorem dX3_isThrown_6 : decode cX3_isThrown 6 = .ok (.goto 12, 3) := by decide +kernel
theorem dX3_isThrown_9 : decode cX3_isThrown 9 = .ok (.iload_n 2, 1) := by decide +kernel
theorem dX3_isThrown_10 : decode cX3_isThrown 10 = .ok (.ifCond .eq 7, 3) := by decide +kernel
theorem dX3_isThrown_13 : decode cX3_isThrown 13 = .ok (.iconst 2, 1) := by decide +kernel
theorem dX3_isThrown_14 : decode cX3_isThrown 14 = .ok (.goto 4, 3) := by decide +kernel
theorem dX3_isThrown_17 : decode cX3_isThrown 17 = .ok (.iconst 0, 1) := by decide +kernel
theorem dX3_isThrown_18 : decode cX3_isThrown 18 = .ok (.putfield 13, 3) := by decide +kernel
theorem dX3_isThrown_21 : decode cX3_isThrown 21 = .ok (.aload_n 0, 1) := by decide +kernel
theorem dX3_isThrown_22 : decode cX3_isThrown 22 = .ok (.getfield 13, 3) := by decide +kernel
theorem dX3_isThrown_25 : decode cX3_isThrown 25 = .ok (.ifCond .le 7, 3) := by decide +kernel
theorem dX3_isThrown_28 : decode cX3_isThrown 28 = .ok (.iconst 1, 1) := by decide +kernel
theorem dX3_isThrown_29 : decode cX3_isThrown 29 = .ok (.goto 4, 3) := by decide +kernel
theorem dX3_isThrown_32 : decode cX3_isThrown 32 = .ok (.iconst 0, 1) := by decide +kernel
theorem dX3_isThrown_33 : decode cX3_isThrown 33 = .ok (.ireturn, 1) := by decide +kernel
set_option maxRecDepth 20000 in
theorem ggX3_isThrown__X3_isThrown : GoodIn wsX3_isThrown_ wsX3_isThrown := goodIn_rc _ [(0, 5), (0, 6), (0, 7), (0, 8), (0, 9), (0, 10), (0, 11), (0, 12), (0, 13), (0, 14), (0, 15), (0, 16), (0, 17)] (by rfl) (by decide +kernel)
set_option maxRecDepth 20000 in
theorem gX3_isThrown__X3_isThrown : GoodIn wsX3_isThrown_ (wsV RX3 88 RX3 yX3_isThrown wsX3_isThrown) := goodIn_app (goodIn_of _ (by decide +kernel)) ggX3_isThrown__X3_isThrown
theorem dX3_isThrown__0 : decode cX3_isThrown_ 0 = .ok (.aload_n 0, 1) := by decide +kernel
theorem dX3_isThrown__1 : decode cX3_isThrown_ 1 = .ok (.iload_n 1, 1) := by decide +kernel
theorem dX3_isThrown__2 : decode cX3_isThrown_ 2 = .ok (.iconst 0, 1) := by decide +kernel
theorem dX3_isThrown__3 : decode cX3_isThrown_ 3 = .ok (.invokevirtual 88, 3) := by decide +kernel
theorem dX3_isThrown__6 : decode cX3_isThrown_ 6 = .ok (.ireturn, 1) := by decide +kernel
theorem dX3_done_0 : decode cX3_done 0 = .ok (.aload_n 0, 1) := by decide +kernel
theorem dX3_done_1 : decode cX3_done 1 = .ok (.dup, 1) := by decide +kernel
theorem dX3_done_2 : decode cX3_done 2 = .ok (.getfield 92, 3) := by decide +kernel
theorem dX3_done_5 : decode cX3_done 5 = .ok (.iconst 1, 1) := by decide +kernel
theorem dX3_done_6 : decode cX3_done 6 = .ok (.iadd, 1) := by decide +kernel
theorem dX3_done_7 : decode cX3_done 7 = .ok (.putfield 92, 3) := by decide +kernel
theorem dX3_done_10 : decode cX3_done 10 = .ok (.iload_n 1, 1) := by decide +kernel
theorem dX3_done_11 : decode cX3_done 11 = .ok (.ireturn, 1) := by decide +kernel
theorem dX3_no_0 : decode cX3_no 0 = .ok (.aload_n 0, 1) := by decide +kernel
theorem dX3_no_1 : decode cX3_no 1 = .ok (.dup, 1) := by decide +kernel
theorem dX3_no_2 : decode cX3_no 2 = .ok (.getfield 95, 3) := by decide +kernel
theorem dX3_no_5 : decode cX3_no 5 = .ok (.iconst 1, 1) := by decide +kernel
theorem dX3_no_6 : decode cX3_no 6 = .ok (.iadd, 1) := by decide +kernel
theorem dX3_no_7 : decode cX3_no 7 = .ok (.putfield 95, 3) := by decide +kernel
theorem dX3_no_10 : decode cX3_no 10 = .ok (.bipush (-9), 2) := by decide +kernel
theorem dX3_no_12 : decode cX3_no 12 = .ok (.ireturn, 1) := by decide +kernel
set_option maxRecDepth 20000 in
theorem ggX3_places_X3_isThrown_ : GoodIn wsX3_places wsX3_isThrown_ := goodIn_rc _ [(0, 6), (0, 7), (0, 8), (0, 9), (0, 5), (0, 10), (0, 11), (0, 28), (0, 29), (0, 30), (0, 31), (1, 0), (1, 1), (1, 2), (1, 3), (1, 4), (1, 5), (1, 6)] (by rfl) (by decide +kernel)
set_option maxRecDepth 20000 in
theorem gX3_places_X3_isThrown_ : GoodIn wsX3_places (wsV RX3 98 RX3 yX3_isThrown_ wsX3_isThrown_) := goodIn_app (goodIn_of _ (by decide +kernel)) ggX3_places_X3_isThrown_
set_option maxRecDepth 20000 in
theorem ggX3_places_X3_clear : GoodIn wsX3_places wsX3_clear := goodIn_rc _ [(0, 15), (0, 1), (0, 16), (0, 17), (0, 18), (0, 19), (0, 20), (0, 21), (0, 22), (0, 28), (0, 29), (0, 30), (0, 31), (1, 0), (1, 1), (1, 2), (1, 3), (1, 4), (1, 5), (1, 6)] (by rfl) (by decide +kernel)
set_option maxRecDepth 20000 in
theorem gX3_places_X3_clear : GoodIn wsX3_places (wsV RX3 7 RX3 yX3_clear wsX3_clear) := goodIn_app (goodIn_of _ (by decide +kernel)) ggX3_places_X3_clear
set_option maxRecDepth 20000 in
theorem ggX3_places_X3_done : GoodIn wsX3_places wsX3_done := goodIn_rc _ [(0, 26), (0, 27), (0, 28), (0, 29), (0, 30), (0, 31), (1, 0), (1, 1), (1, 2), (1, 3), (1, 4), (1, 5), (1, 6)] (by rfl) (by decide +kernel)
set_option maxRecDepth 20000 in
theorem gX3_places_X3_done : GoodIn wsX3_places (wsV RX3 101 RX3 yX3_done wsX3_done) := goodIn_app (goodIn_of _ (by decide +kernel)) ggX3_places_X3_done
theorem dX3_places_0 : decode cX3_places 0 = .ok (.aload_n 0, 1) := by decide +kernel
theorem dX3_places_1 : decode cX3_places 1 = .ok (.iload_n 1, 1) := by decide +kernel
theorem dX3_places_2 : decode cX3_places 2 = .ok (.iconst 2, 1) := by decide +kernel
theorem dX3_places_3 : decode cX3_places 3 = .ok (.if_icmp .lt 9, 3) := by decide +kernel
theorem dX3_places_6 : decode cX3_places 6 = .ok (.iload_n 1, 1) := by decide +kernel
theorem dX3_places_7 : decode cX3_places 7 = .ok (.bipush 12, 2) := by decide +kernel
theorem dX3_places_9 : decode cX3_places 9 = .ok (.if_icmp .le 7, 3) := by decide +kernel
theorem dX3_places_12 : decode cX3_places 12 = .ok (.iconst 1, 1) := by decide +kernel
theorem dX3_places_13 : decode cX3_places 13 = .ok (.goto 4, 3) := by decide +kernel
theorem dX3_places_16 : decode cX3_places 16 = .ok (.iconst 0, 1) := by decide +kernel
theorem dX3_places_17 : decode cX3_places 17 = .ok (.invokevirtual 98, 3) := by decide +kernel
theorem dX3_places_20 : decode cX3_places 20 = .ok (.ifCond .eq 5, 3) := by decide +kernel
theorem dX3_places_23 : decode cX3_places 23 = .ok (.iconst 0, 1) := by decide +kernel
theorem dX3_places_24 : decode cX3_places 24 = .ok (.ireturn, 1) := by decide +kernel
theorem dX3_places_25 : decode cX3_places 25 = .ok (.aload_n 0, 1) := by decide +kernel
theorem dX3_places_26 : decode cX3_places 26 = .ok (.getfield 17, 3) := by decide +kernel
theorem dX3_places_29 : decode cX3_places 29 = .ok (.istore_n 2, 1) := by decide +kernel
theorem dX3_places_30 : decode cX3_places 30 = .ok (.aload_n 0, 1) := by decide +kernel
theorem dX3_places_31 : decode cX3_places 31 = .ok (.iload_n 1, 1) := by decide +kernel
theorem dX3_places_32 : decode cX3_places 32 = .ok (.invokevirtual 7, 3) := by decide +kernel
theorem dX3_places_35 : decode cX3_places 35 = .ok (.aload_n 0, 1) := by decide +kernel
theorem dX3_places_36 : decode cX3_places 36 = .ok (.iload_n 2, 1) := by decide +kernel
theorem dX3_places_37 : decode cX3_places 37 = .ok (.invokevirtual 101, 3) := by decide +kernel
theorem dX3_places_40 : decode cX3_places 40 = .ok (.ireturn, 1) := by decide +kernel
set_option maxRecDepth 20000 in
theorem ggX3_give_X3_isPlace : GoodIn wsX3_give wsX3_isPlace := goodIn_rc _ [(0, 6), (0, 7), (0, 25), (0, 26), (0, 27), (0, 28), (0, 29), (0, 30), (0, 31), (1, 0), (1, 1), (1, 2), (1, 3)] (by rfl) (by decide +kernel)
set_option maxRecDepth 20000 in
theorem gX3_give_X3_isPlace : GoodIn wsX3_give (wsV RX3 104 RX3 yX3_isPlace wsX3_isPlace) := goodIn_app (goodIn_of _ (by decide +kernel)) ggX3_give_X3_isPlace
set_option maxRecDepth 20000 in
theorem ggX3_give_X3_isSide : GoodIn wsX3_give wsX3_isSide := goodIn_rc _ [(0, 10)] (by rfl) (by decide +kernel)
set_option maxRecDepth 20000 in
theorem gX3_give_X3_isSide : GoodIn wsX3_give (va_wsS RX3 108 yX3_isSide wsX3_isSide) := goodIn_app (goodIn_of _ (by decide +kernel)) ggX3_give_X3_isSide
set_option maxRecDepth 20000 in
theorem ggX3_give_X3_isThrown : GoodIn wsX3_give wsX3_isThrown := goodIn_rc _ [(0, 14), (0, 15), (0, 25), (0, 26), (0, 27), (0, 28), (0, 29), (0, 30), (0, 31), (1, 0), (1, 1), (1, 2), (1, 3)] (by rfl) (by decide +kernel)
set_option maxRecDepth 20000 in
theorem gX3_give_X3_isThrown : GoodIn wsX3_give (wsV RX3 88 RX3 yX3_isThrown wsX3_isThrown) := goodIn_app (goodIn_of _ (by decide +kernel)) ggX3_give_X3_isThrown
set_option maxRecDepth 20000 in
theorem ggX3_give_X3_sideOf : GoodIn wsX3_give wsX3_sideOf := goodIn_rc _ [(0, 19), (0, 1), (0, 25), (0, 26), (0, 27), (0, 28), (0, 29), (0, 30), (0, 31), (1, 0), (1, 1), (1, 2), (1, 3)] (by rfl) (by decide +kernel)
set_option maxRecDepth 20000 in
theorem gX3_give_X3_sideOf : GoodIn wsX3_give (wsV RX3 45 RX3 yX3_sideOf wsX3_sideOf) := goodIn_app (goodIn_of _ (by decide +kernel)) ggX3_give_X3_sideOf
set_option maxRecDepth 20000 in
theorem ggX3_give_X3_done : GoodIn wsX3_give wsX3_done := goodIn_rc _ [(0, 23), (0, 24), (0, 25), (0, 26), (0, 27), (0, 28), (0, 29), (0, 30), (0, 31), (1, 0), (1, 1), (1, 2), (1, 3)] (by rfl) (by decide +kernel)
set_option maxRecDepth 20000 in
theorem gX3_give_X3_done : GoodIn wsX3_give (wsV RX3 101 RX3 yX3_done wsX3_done) := goodIn_app (goodIn_of _ (by decide +kernel)) ggX3_give_X3_done
theorem dX3_give_0 : decode cX3_give 0 = .ok (.aload_n 0, 1) := by decide +kernel
theorem dX3_give_1 : decode cX3_give 1 = .ok (.aload_n 0, 1) := by decide +kernel
theorem dX3_give_2 : decode cX3_give 2 = .ok (.iload_n 1, 1) := by decide +kernel
theorem dX3_give_3 : decode cX3_give 3 = .ok (.invokevirtual 104, 3) := by decide +kernel
theorem dX3_give_6 : decode cX3_give 6 = .ok (.ifCond .ne 7, 3) := by decide +kernel
theorem dX3_give_9 : decode cX3_give 9 = .ok (.iconst 1, 1) := by decide +kernel
theorem dX3_give_10 : decode cX3_give 10 = .ok (.goto 4, 3) := by decide +kernel
theorem dX3_give_13 : decode cX3_give 13 = .ok (.iconst 0, 1) := by decide +kernel
theorem dX3_give_14 : decode cX3_give 14 = .ok (.iload_n 2, 1) := by decide +kernel
theorem dX3_give_15 : decode cX3_give 15 = .ok (.invokestatic 108, 3) := by decide +kernel
theorem dX3_give_18 : decode cX3_give 18 = .ok (.ifCond .ne 7, 3) := by decide +kernel
theorem dX3_give_21 : decode cX3_give 21 = .ok (.iconst 1, 1) := by decide +kernel
theorem dX3_give_22 : decode cX3_give 22 = .ok (.goto 4, 3) := by decide +kernel
theorem dX3_give_25 : decode cX3_give 25 = .ok (.iconst 0, 1) := by decide +kernel
theorem dX3_give_26 : decode cX3_give 26 = .ok (.invokevirtual 88, 3) := by decide +kernel
theorem dX3_give_29 : decode cX3_give 29 = .ok (.ifCond .eq 5, 3) := by decide +kernel
theorem dX3_give_32 : decode cX3_give 32 = .ok (.iconst 0, 1) := by decide +kernel
theorem dX3_give_33 : decode cX3_give 33 = .ok (.ireturn, 1) := by decide +kernel
theorem dX3_give_34 : decode cX3_give 34 = .ok (.aload_n 0, 1) := by decide +kernel
theorem dX3_give_35 : decode cX3_give 35 = .ok (.iload_n 1, 1) := by decide +kernel
theorem dX3_give_36 : decode cX3_give 36 = .ok (.invokevirtual 45, 3) := by decide +kernel
theorem dX3_give_39 : decode cX3_give 39 = .ok (.istore_n 3, 1) := by decide +kernel
theorem dX3_give_40 : decode cX3_give 40 = .ok (.aload_n 0, 1) := by decide +kernel
theorem dX3_give_41 : decode cX3_give 41 = .ok (.aload_n 0, 1) := by decide +kernel
theorem dX3_give_42 : decode cX3_give 42 = .ok (.getfield 20, 3) := by decide +kernel
theorem dX3_give_45 : decode cX3_give 45 = .ok (.iconst 1, 1) := by decide +kernel
theorem dX3_give_46 : decode cX3_give 46 = .ok (.iload_n 1, 1) := by decide +kernel
theorem dX3_give_47 : decode cX3_give 47 = .ok (.ishl, 1) := by decide +kernel
theorem dX3_give_48 : decode cX3_give 48 = .ok (.iconst (-1), 1) := by decide +kernel
theorem dX3_give_49 : decode cX3_give 49 = .ok (.ixor, 1) := by decide +kernel
theorem dX3_give_50 : decode cX3_give 50 = .ok (.iand, 1) := by decide +kernel
theorem dX3_give_51 : decode cX3_give 51 = .ok (.iload_n 2, 1) := by decide +kernel
theorem dX3_give_52 : decode cX3_give 52 = .ok (.iload_n 1, 1) := by decide +kernel
theorem dX3_give_53 : decode cX3_give 53 = .ok (.ishl, 1) := by decide +kernel
theorem dX3_give_54 : decode cX3_give 54 = .ok (.ior, 1) := by decide +kernel
theorem dX3_give_55 : decode cX3_give 55 = .ok (.putfield 20, 3) := by decide +kernel
theorem dX3_give_58 : decode cX3_give 58 = .ok (.aload_n 0, 1) := by decide +kernel
theorem dX3_give_59 : decode cX3_give 59 = .ok (.iload_n 3, 1) := by decide +kernel
theorem dX3_give_60 : decode cX3_give 60 = .ok (.invokevirtual 101, 3) := by decide +kernel
theorem dX3_give_63 : decode cX3_give 63 = .ok (.ireturn, 1) := by decide +kernel
set_option maxRecDepth 20000 in
theorem ggX3_rank_X3_isPlace : GoodIn wsX3_rank wsX3_isPlace := goodIn_rc _ [(0, 6), (0, 7), (0, 18), (0, 19), (0, 20), (0, 21), (0, 22), (0, 23), (0, 24), (0, 25), (0, 26), (0, 27), (0, 28)] (by rfl) (by decide +kernel)
set_option maxRecDepth 20000 in
theorem gX3_rank_X3_isPlace : GoodIn wsX3_rank (wsV RX3 104 RX3 yX3_isPlace wsX3_isPlace) := goodIn_app (goodIn_of _ (by decide +kernel)) ggX3_rank_X3_isPlace
set_option maxRecDepth 20000 in
theorem ggX3_rank_X3_isThrown : GoodIn wsX3_rank wsX3_isThrown := goodIn_rc _ [(0, 11), (0, 12), (0, 18), (0, 19), (0, 20), (0, 21), (0, 22), (0, 23), (0, 24), (0, 25), (0, 26), (0, 27), (0, 28)] (by rfl) (by decide +kernel)
set_option maxRecDepth 20000 in
theorem gX3_rank_X3_isThrown : GoodIn wsX3_rank (wsV RX3 88 RX3 yX3_isThrown wsX3_isThrown) := goodIn_app (goodIn_of _ (by decide +kernel)) ggX3_rank_X3_isThrown
set_option maxRecDepth 20000 in
theorem ggX3_rank_X3_done : GoodIn wsX3_rank wsX3_done := goodIn_rc _ [(0, 16), (0, 17), (0, 18), (0, 19), (0, 20), (0, 21), (0, 22), (0, 23), (0, 24), (0, 25), (0, 26), (0, 27), (0, 28)] (by rfl) (by decide +kernel)
set_option maxRecDepth 20000 in
theorem gX3_rank_X3_done : GoodIn wsX3_rank (wsV RX3 101 RX3 yX3_done wsX3_done) := goodIn_app (goodIn_of _ (by decide +kernel)) ggX3_rank_X3_done
theorem dX3_rank_0 : decode cX3_rank 0 = .ok (.aload_n 0, 1) := by decide +kernel
theorem dX3_rank_1 : decode cX3_rank 1 = .ok (.aload_n 0, 1) := by decide +kernel
theorem dX3_rank_2 : decode cX3_rank 2 = .ok (.iload_n 1, 1) := by decide +kernel
theorem dX3_rank_3 : decode cX3_rank 3 = .ok (.invokevirtual 104, 3) := by decide +kernel
theorem dX3_rank_6 : decode cX3_rank 6 = .ok (.ifCond .ne 7, 3) := by decide +kernel
theorem dX3_rank_9 : decode cX3_rank 9 = .ok (.iconst 1, 1) := by decide +kernel
theorem dX3_rank_10 : decode cX3_rank 10 = .ok (.goto 4, 3) := by decide +kernel
theorem dX3_rank_13 : decode cX3_rank 13 = .ok (.iconst 0, 1) := by decide +kernel
theorem dX3_rank_14 : decode cX3_rank 14 = .ok (.iload_n 2, 1) := by decide +kernel
theorem dX3_rank_15 : decode cX3_rank 15 = .ok (.ifCond .lt 8, 3) := by decide +kernel
theorem dX3_rank_18 : decode cX3_rank 18 = .ok (.iload_n 2, 1) := by decide +kernel
theorem dX3_rank_19 : decode cX3_rank 19 = .ok (.iconst 2, 1) := by decide +kernel
theorem dX3_rank_20 : decode cX3_rank 20 = .ok (.if_icmp .le 7, 3) := by decide +kernel
theorem dX3_rank_23 : decode cX3_rank 23 = .ok (.iconst 1, 1) := by decide +kernel
theorem dX3_rank_24 : decode cX3_rank 24 = .ok (.goto 4, 3) := by decide +kernel
theorem dX3_rank_27 : decode cX3_rank 27 = .ok (.iconst 0, 1) := by decide +kernel
theorem dX3_rank_28 : decode cX3_rank 28 = .ok (.invokevirtual 88, 3) := by decide +kernel
theorem dX3_rank_31 : decode cX3_rank 31 = .ok (.ifCond .eq 5, 3) := by decide +kernel
theorem dX3_rank_34 : decode cX3_rank 34 = .ok (.iconst 0, 1) := by decide +kernel
theorem dX3_rank_35 : decode cX3_rank 35 = .ok (.ireturn, 1) := by decide +kernel
theorem dX3_rank_36 : decode cX3_rank 36 = .ok (.aload_n 0, 1) := by decide +kernel
theorem dX3_rank_37 : decode cX3_rank 37 = .ok (.getfield 26, 3) := by decide +kernel
theorem dX3_rank_40 : decode cX3_rank 40 = .ok (.iload_n 1, 1) := by decide +kernel
theorem dX3_rank_41 : decode cX3_rank 41 = .ok (.iaload, 1) := by decide +kernel
theorem dX3_rank_42 : decode cX3_rank 42 = .ok (.istore_n 3, 1) := by decide +kernel
theorem dX3_rank_43 : decode cX3_rank 43 = .ok (.aload_n 0, 1) := by decide +kernel
theorem dX3_rank_44 : decode cX3_rank 44 = .ok (.getfield 26, 3) := by decide +kernel
theorem dX3_rank_47 : decode cX3_rank 47 = .ok (.iload_n 1, 1) := by decide +kernel
theorem dX3_rank_48 : decode cX3_rank 48 = .ok (.iload_n 2, 1) := by decide +kernel
theorem dX3_rank_49 : decode cX3_rank 49 = .ok (.iastore, 1) := by decide +kernel
theorem dX3_rank_50 : decode cX3_rank 50 = .ok (.aload_n 0, 1) := by decide +kernel
theorem dX3_rank_51 : decode cX3_rank 51 = .ok (.iload_n 3, 1) := by decide +kernel
theorem dX3_rank_52 : decode cX3_rank 52 = .ok (.invokevirtual 101, 3) := by decide +kernel
theorem dX3_rank_55 : decode cX3_rank 55 = .ok (.ireturn, 1) := by decide +kernel
set_option maxRecDepth 20000 in
theorem ggX3_goal_X3_all : GoodIn wsX3_goal wsX3_all := goodIn_rc _ [(0, 6), (0, 7), (0, 22), (0, 23), (0, 24), (0, 25), (0, 26), (0, 27), (0, 28), (0, 29), (0, 30), (0, 31), (1, 0)] (by rfl) (by decide +kernel)
set_option maxRecDepth 20000 in
theorem gX3_goal_X3_all : GoodIn wsX3_goal (wsV RX3 55 RX3 yX3_all wsX3_all) := goodIn_app (goodIn_of _ (by decide +kernel)) ggX3_goal_X3_all
set_option maxRecDepth 20000 in
theorem ggX3_goal_X3_isThrown_ : GoodIn wsX3_goal wsX3_isThrown_ := goodIn_rc _ [(0, 11), (0, 12), (0, 13), (0, 14), (0, 5), (0, 15), (0, 16), (0, 22), (0, 23), (0, 24), (0, 25), (0, 26), (0, 27), (0, 28), (0, 29), (0, 30), (0, 31), (1, 0)] (by rfl) (by decide +kernel)
set_option maxRecDepth 20000 in
theorem gX3_goal_X3_isThrown_ : GoodIn wsX3_goal (wsV RX3 98 RX3 yX3_isThrown_ wsX3_isThrown_) := goodIn_app (goodIn_of _ (by decide +kernel)) ggX3_goal_X3_isThrown_
set_option maxRecDepth 20000 in
theorem ggX3_goal_X3_done : GoodIn wsX3_goal wsX3_done := goodIn_rc _ [(0, 20), (0, 21), (0, 22), (0, 23), (0, 24), (0, 25), (0, 26), (0, 27), (0, 28), (0, 29), (0, 30), (0, 31), (1, 0)] (by rfl) (by decide +kernel)
set_option maxRecDepth 20000 in
theorem gX3_goal_X3_done : GoodIn wsX3_goal (wsV RX3 101 RX3 yX3_done wsX3_done) := goodIn_app (goodIn_of _ (by decide +kernel)) ggX3_goal_X3_done
theorem dX3_goal_0 : decode cX3_goal 0 = .ok (.aload_n 0, 1) := by decide +kernel
theorem dX3_goal_1 : decode cX3_goal 1 = .ok (.iload_n 1, 1) := by decide +kernel
theorem dX3_goal_2 : decode cX3_goal 2 = .ok (.ifCond .lt 11, 3) := by decide +kernel
theorem dX3_goal_5 : decode cX3_goal 5 = .ok (.iload_n 1, 1) := by decide +kernel
theorem dX3_goal_6 : decode cX3_goal 6 = .ok (.aload_n 0, 1) := by decide +kernel
theorem dX3_goal_7 : decode cX3_goal 7 = .ok (.invokevirtual 55, 3) := by decide +kernel
theorem dX3_goal_10 : decode cX3_goal 10 = .ok (.if_icmp .le 7, 3) := by decide +kernel
theorem dX3_goal_13 : decode cX3_goal 13 = .ok (.iconst 1, 1) := by decide +kernel
theorem dX3_goal_14 : decode cX3_goal 14 = .ok (.goto 4, 3) := by decide +kernel
theorem dX3_goal_17 : decode cX3_goal 17 = .ok (.iconst 0, 1) := by decide +kernel
theorem dX3_goal_18 : decode cX3_goal 18 = .ok (.invokevirtual 98, 3) := by decide +kernel
theorem dX3_goal_21 : decode cX3_goal 21 = .ok (.ifCond .eq 5, 3) := by decide +kernel
theorem dX3_goal_24 : decode cX3_goal 24 = .ok (.iconst 0, 1) := by decide +kernel
theorem dX3_goal_25 : decode cX3_goal 25 = .ok (.ireturn, 1) := by decide +kernel
theorem dX3_goal_26 : decode cX3_goal 26 = .ok (.aload_n 0, 1) := by decide +kernel
theorem dX3_goal_27 : decode cX3_goal 27 = .ok (.getfield 23, 3) := by decide +kernel
theorem dX3_goal_30 : decode cX3_goal 30 = .ok (.istore_n 2, 1) := by decide +kernel
theorem dX3_goal_31 : decode cX3_goal 31 = .ok (.aload_n 0, 1) := by decide +kernel
theorem dX3_goal_32 : decode cX3_goal 32 = .ok (.iload_n 1, 1) := by decide +kernel
theorem dX3_goal_33 : decode cX3_goal 33 = .ok (.putfield 23, 3) := by decide +kernel
theorem dX3_goal_36 : decode cX3_goal 36 = .ok (.aload_n 0, 1) := by decide +kernel
theorem dX3_goal_37 : decode cX3_goal 37 = .ok (.iload_n 2, 1) := by decide +kernel
theorem dX3_goal_38 : decode cX3_goal 38 = .ok (.invokevirtual 101, 3) := by decide +kernel
theorem dX3_goal_41 : decode cX3_goal 41 = .ok (.ireturn, 1) := by decide +kernel
set_option maxRecDepth 20000 in
theorem ggX3_way_X3_isPlace : GoodIn wsX3_way wsX3_isPlace := goodIn_rc _ [(0, 6), (0, 7), (1, 9), (1, 10), (1, 11), (1, 12), (1, 13), (1, 14), (1, 15), (1, 16), (1, 17), (1, 18), (1, 19)] (by rfl) (by decide +kernel)
set_option maxRecDepth 20000 in
theorem gX3_way_X3_isPlace : GoodIn wsX3_way (wsV RX3 104 RX3 yX3_isPlace wsX3_isPlace) := goodIn_app (goodIn_of _ (by decide +kernel)) ggX3_way_X3_isPlace
set_option maxRecDepth 20000 in
theorem ggX3_way_X3_isThrown_ : GoodIn wsX3_way wsX3_isThrown_ := goodIn_rc _ [(0, 11), (0, 12), (0, 13), (0, 14), (0, 5), (0, 15), (0, 16), (1, 9), (1, 10), (1, 11), (1, 12), (1, 13), (1, 14), (1, 15), (1, 16), (1, 17), (1, 18), (1, 19)] (by rfl) (by decide +kernel)
set_option maxRecDepth 20000 in
theorem gX3_way_X3_isThrown_ : GoodIn wsX3_way (wsV RX3 98 RX3 yX3_isThrown_ wsX3_isThrown_) := goodIn_app (goodIn_of _ (by decide +kernel)) ggX3_way_X3_isThrown_
set_option maxRecDepth 20000 in
theorem ggX3_way_X3_isIn : GoodIn wsX3_way wsX3_isIn := goodIn_rc _ [(0, 19)] (by rfl) (by decide +kernel)
set_option maxRecDepth 20000 in
theorem gX3_way_X3_isIn : GoodIn wsX3_way (va_wsS RX3 77 yX3_isIn wsX3_isIn) := goodIn_app (goodIn_of _ (by decide +kernel)) ggX3_way_X3_isIn
set_option maxRecDepth 20000 in
theorem ggX3_way_X3_done : GoodIn wsX3_way wsX3_done := goodIn_rc _ [(0, 23), (0, 24), (1, 9), (1, 10), (1, 11), (1, 12), (1, 13), (1, 14), (1, 15), (1, 16), (1, 17), (1, 18), (1, 19)] (by rfl) (by decide +kernel)
set_option maxRecDepth 20000 in
theorem gX3_way_X3_done : GoodIn wsX3_way (wsV RX3 101 RX3 yX3_done wsX3_done) := goodIn_app (goodIn_of _ (by decide +kernel)) ggX3_way_X3_done
set_option maxRecDepth 20000 in
theorem ggX3_way_X3_waysNow : GoodIn wsX3_way wsX3_waysNow := goodIn_rc _ [(0, 28), (0, 1), (0, 29), (0, 30), (0, 31), (1, 0), (1, 1), (1, 2), (1, 3), (1, 9), (1, 10), (1, 11), (1, 12), (1, 13), (1, 14), (1, 15), (1, 16), (1, 17), (1, 18), (1, 19)] (by rfl) (by decide +kernel)
set_option maxRecDepth 20000 in
theorem gX3_way_X3_waysNow : GoodIn wsX3_way (wsV RX3 111 RX3 yX3_waysNow wsX3_waysNow) := goodIn_app (goodIn_of _ (by decide +kernel)) ggX3_way_X3_waysNow
set_option maxRecDepth 20000 in
theorem ggX3_way_X3_no : GoodIn wsX3_way wsX3_no := goodIn_rc _ [(1, 7), (1, 8), (1, 9), (1, 10), (1, 11), (1, 12), (1, 13), (1, 14), (1, 15), (1, 16), (1, 17), (1, 18), (1, 19)] (by rfl) (by decide +kernel)
set_option maxRecDepth 20000 in
theorem gX3_way_X3_no : GoodIn wsX3_way (wsV RX3 114 RX3 yX3_no wsX3_no) := goodIn_app (goodIn_of _ (by decide +kernel)) ggX3_way_X3_no
theorem dX3_way_0 : decode cX3_way 0 = .ok (.aload_n 0, 1) := by decide +kernel
theorem dX3_way_1 : decode cX3_way 1 = .ok (.aload_n 0, 1) := by decide +kernel
theorem dX3_way_2 : decode cX3_way 2 = .ok (.iload_n 1, 1) := by decide +kernel
theorem dX3_way_3 : decode cX3_way 3 = .ok (.invokevirtual 104, 3) := by decide +kernel
theorem dX3_way_6 : decode cX3_way 6 = .ok (.ifCond .eq 11, 3) := by decide +kernel
theorem dX3_way_9 : decode cX3_way 9 = .ok (.aload_n 0, 1) := by decide +kernel
theorem dX3_way_10 : decode cX3_way 10 = .ok (.iload_n 2, 1) := by decide +kernel
theorem dX3_way_11 : decode cX3_way 11 = .ok (.invokevirtual 104, 3) := by decide +kernel
theorem dX3_way_14 : decode cX3_way 14 = .ok (.ifCond .ne 7, 3) := by decide +kernel
theorem dX3_way_17 : decode cX3_way 17 = .ok (.iconst 1, 1) := by decide +kernel
theorem dX3_way_18 : decode cX3_way 18 = .ok (.goto 4, 3) := by decide +kernel
theorem dX3_way_21 : decode cX3_way 21 = .ok (.iconst 0, 1) := by decide +kernel
theorem dX3_way_22 : decode cX3_way 22 = .ok (.invokevirtual 98, 3) := by decide +kernel
theorem dX3_way_25 : decode cX3_way 25 = .ok (.ifCond .eq 5, 3) := by decide +kernel
theorem dX3_way_28 : decode cX3_way 28 = .ok (.iconst 0, 1) := by decide +kernel
theorem dX3_way_29 : decode cX3_way 29 = .ok (.ireturn, 1) := by decide +kernel
theorem dX3_way_30 : decode cX3_way 30 = .ok (.aload_n 0, 1) := by decide +kernel
theorem dX3_way_31 : decode cX3_way 31 = .ok (.getfield 30, 3) := by decide +kernel
theorem dX3_way_34 : decode cX3_way 34 = .ok (.iload_n 1, 1) := by decide +kernel
theorem dX3_way_35 : decode cX3_way 35 = .ok (.iaload, 1) := by decide +kernel
theorem dX3_way_36 : decode cX3_way 36 = .ok (.iload_n 2, 1) := by decide +kernel
theorem dX3_way_37 : decode cX3_way 37 = .ok (.invokestatic 77, 3) := by decide +kernel
theorem dX3_way_40 : decode cX3_way 40 = .ok (.ifCond .eq 9, 3) := by decide +kernel
theorem dX3_way_43 : decode cX3_way 43 = .ok (.aload_n 0, 1) := by decide +kernel
theorem dX3_way_44 : decode cX3_way 44 = .ok (.iconst 0, 1) := by decide +kernel
theorem dX3_way_45 : decode cX3_way 45 = .ok (.invokevirtual 101, 3) := by decide +kernel
theorem dX3_way_48 : decode cX3_way 48 = .ok (.ireturn, 1) := by decide +kernel
theorem dX3_way_49 : decode cX3_way 49 = .ok (.aload_n 0, 1) := by decide +kernel
theorem dX3_way_50 : decode cX3_way 50 = .ok (.invokevirtual 111, 3) := by decide +kernel
theorem dX3_way_53 : decode cX3_way 53 = .ok (.bipush 30, 2) := by decide +kernel
theorem dX3_way_55 : decode cX3_way 55 = .ok (.if_icmp .ne 8, 3) := by decide +kernel
theorem dX3_way_58 : decode cX3_way 58 = .ok (.aload_n 0, 1) := by decide +kernel
theorem dX3_way_59 : decode cX3_way 59 = .ok (.invokevirtual 114, 3) := by decide +kernel
theorem dX3_way_62 : decode cX3_way 62 = .ok (.ireturn, 1) := by decide +kernel
theorem dX3_way_63 : decode cX3_way 63 = .ok (.aload_n 0, 1) := by decide +kernel
theorem dX3_way_64 : decode cX3_way 64 = .ok (.getfield 30, 3) := by decide +kernel
theorem dX3_way_67 : decode cX3_way 67 = .ok (.iload_n 1, 1) := by decide +kernel
theorem dX3_way_68 : decode cX3_way 68 = .ok (.dup2, 1) := by decide +kernel
theorem dX3_way_69 : decode cX3_way 69 = .ok (.iaload, 1) := by decide +kernel
theorem dX3_way_70 : decode cX3_way 70 = .ok (.iconst 1, 1) := by decide +kernel
theorem dX3_way_71 : decode cX3_way 71 = .ok (.iload_n 2, 1) := by decide +kernel
theorem dX3_way_72 : decode cX3_way 72 = .ok (.ishl, 1) := by decide +kernel
theorem dX3_way_73 : decode cX3_way 73 = .ok (.ior, 1) := by decide +kernel
theorem dX3_way_74 : decode cX3_way 74 = .ok (.iastore, 1) := by decide +kernel
theorem dX3_way_75 : decode cX3_way 75 = .ok (.aload_n 0, 1) := by decide +kernel
theorem dX3_way_76 : decode cX3_way 76 = .ok (.iconst 1, 1) := by decide +kernel
theorem dX3_way_77 : decode cX3_way 77 = .ok (.invokevirtual 101, 3) := by decide +kernel
theorem dX3_way_80 : decode cX3_way 80 = .ok (.ireturn, 1) := by decide +kernel
set_option maxRecDepth 20000 in
theorem ggX3_lose_X3_isPlace : GoodIn wsX3_lose wsX3_isPlace := goodIn_rc _ [(0, 6), (0, 7), (0, 25), (0, 26), (0, 27), (0, 28), (0, 29), (0, 30), (0, 31), (1, 0), (1, 1), (1, 2), (1, 3)] (by rfl) (by decide +kernel)
set_option maxRecDepth 20000 in
theorem gX3_lose_X3_isPlace : GoodIn wsX3_lose (wsV RX3 104 RX3 yX3_isPlace wsX3_isPlace) := goodIn_app (goodIn_of _ (by decide +kernel)) ggX3_lose_X3_isPlace
set_option maxRecDepth 20000 in
theorem ggX3_lose_X3_isThrown_ : GoodIn wsX3_lose wsX3_isThrown_ := goodIn_rc _ [(0, 11), (0, 12), (0, 13), (0, 14), (0, 5), (0, 15), (0, 16), (0, 25), (0, 26), (0, 27), (0, 28), (0, 29), (0, 30), (0, 31), (1, 0), (1, 1), (1, 2), (1, 3)] (by rfl) (by decide +kernel)
set_option maxRecDepth 20000 in
theorem gX3_lose_X3_isThrown_ : GoodIn wsX3_lose (wsV RX3 98 RX3 yX3_isThrown_ wsX3_isThrown_) := goodIn_app (goodIn_of _ (by decide +kernel)) ggX3_lose_X3_isThrown_
set_option maxRecDepth 20000 in
theorem ggX3_lose_X3_isIn : GoodIn wsX3_lose wsX3_isIn := goodIn_rc _ [(0, 19)] (by rfl) (by decide +kernel)
set_option maxRecDepth 20000 in
theorem gX3_lose_X3_isIn : GoodIn wsX3_lose (va_wsS RX3 77 yX3_isIn wsX3_isIn) := goodIn_app (goodIn_of _ (by decide +kernel)) ggX3_lose_X3_isIn
set_option maxRecDepth 20000 in
theorem ggX3_lose_X3_done : GoodIn wsX3_lose wsX3_done := goodIn_rc _ [(0, 23), (0, 24), (0, 25), (0, 26), (0, 27), (0, 28), (0, 29), (0, 30), (0, 31), (1, 0), (1, 1), (1, 2), (1, 3)] (by rfl) (by decide +kernel)
set_option maxRecDepth 20000 in
theorem gX3_lose_X3_done : GoodIn wsX3_lose (wsV RX3 101 RX3 yX3_done wsX3_done) := goodIn_app (goodIn_of _ (by decide +kernel)) ggX3_lose_X3_done
theorem dX3_lose_0 : decode cX3_lose 0 = .ok (.aload_n 0, 1) := by decide +kernel
theorem dX3_lose_1 : decode cX3_lose 1 = .ok (.aload_n 0, 1) := by decide +kernel
theorem dX3_lose_2 : decode cX3_lose 2 = .ok (.iload_n 1, 1) := by decide +kernel
theorem dX3_lose_3 : decode cX3_lose 3 = .ok (.invokevirtual 104, 3) := by decide +kernel
theorem dX3_lose_6 : decode cX3_lose 6 = .ok (.ifCond .eq 11, 3) := by decide +kernel
theorem dX3_lose_9 : decode cX3_lose 9 = .ok (.aload_n 0, 1) := by decide +kernel
theorem dX3_lose_10 : decode cX3_lose 10 = .ok (.iload_n 2, 1) := by decide +kernel
theorem dX3_lose_11 : decode cX3_lose 11 = .ok (.invokevirtual 104, 3) := by decide +kernel
theorem dX3_lose_14 : decode cX3_lose 14 = .ok (.ifCond .ne 7, 3) := by decide +kernel
theorem dX3_lose_17 : decode cX3_lose 17 = .ok (.iconst 1, 1) := by decide +kernel
theorem dX3_lose_18 : decode cX3_lose 18 = .ok (.goto 4, 3) := by decide +kernel
theorem dX3_lose_21 : decode cX3_lose 21 = .ok (.iconst 0, 1) := by decide +kernel
theorem dX3_lose_22 : decode cX3_lose 22 = .ok (.invokevirtual 98, 3) := by decide +kernel
theorem dX3_lose_25 : decode cX3_lose 25 = .ok (.ifCond .eq 5, 3) := by decide +kernel
theorem dX3_lose_28 : decode cX3_lose 28 = .ok (.iconst 0, 1) := by decide +kernel
theorem dX3_lose_29 : decode cX3_lose 29 = .ok (.ireturn, 1) := by decide +kernel
theorem dX3_lose_30 : decode cX3_lose 30 = .ok (.aload_n 0, 1) := by decide +kernel
theorem dX3_lose_31 : decode cX3_lose 31 = .ok (.getfield 30, 3) := by decide +kernel
theorem dX3_lose_34 : decode cX3_lose 34 = .ok (.iload_n 1, 1) := by decide +kernel
theorem dX3_lose_35 : decode cX3_lose 35 = .ok (.iaload, 1) := by decide +kernel
theorem dX3_lose_36 : decode cX3_lose 36 = .ok (.iload_n 2, 1) := by decide +kernel
theorem dX3_lose_37 : decode cX3_lose 37 = .ok (.invokestatic 77, 3) := by decide +kernel
theorem dX3_lose_40 : decode cX3_lose 40 = .ok (.istore_n 3, 1) := by decide +kernel
theorem dX3_lose_41 : decode cX3_lose 41 = .ok (.aload_n 0, 1) := by decide +kernel
theorem dX3_lose_42 : decode cX3_lose 42 = .ok (.getfield 30, 3) := by decide +kernel
theorem dX3_lose_45 : decode cX3_lose 45 = .ok (.iload_n 1, 1) := by decide +kernel
theorem dX3_lose_46 : decode cX3_lose 46 = .ok (.dup2, 1) := by decide +kernel
theorem dX3_lose_47 : decode cX3_lose 47 = .ok (.iaload, 1) := by decide +kernel
theorem dX3_lose_48 : decode cX3_lose 48 = .ok (.iconst 1, 1) := by decide +kernel
theorem dX3_lose_49 : decode cX3_lose 49 = .ok (.iload_n 2, 1) := by decide +kernel
theorem dX3_lose_50 : decode cX3_lose 50 = .ok (.ishl, 1) := by decide +kernel
theorem dX3_lose_51 : decode cX3_lose 51 = .ok (.iconst (-1), 1) := by decide +kernel
theorem dX3_lose_52 : decode cX3_lose 52 = .ok (.ixor, 1) := by decide +kernel
theorem dX3_lose_53 : decode cX3_lose 53 = .ok (.iand, 1) := by decide +kernel
theorem dX3_lose_54 : decode cX3_lose 54 = .ok (.iastore, 1) := by decide +kernel
theorem dX3_lose_55 : decode cX3_lose 55 = .ok (.aload_n 0, 1) := by decide +kernel
theorem dX3_lose_56 : decode cX3_lose 56 = .ok (.iload_n 3, 1) := by decide +kernel
theorem dX3_lose_57 : decode cX3_lose 57 = .ok (.ifCond .eq 7, 3) := by decide +kernel
theorem dX3_lose_60 : decode cX3_lose 60 = .ok (.iconst 1, 1) := by decide +kernel
theorem dX3_lose_61 : decode cX3_lose 61 = .ok (.goto 4, 3) := by decide +kernel
theorem dX3_lose_64 : decode cX3_lose 64 = .ok (.iconst 0, 1) := by decide +kernel
theorem dX3_lose_65 : decode cX3_lose 65 = .ok (.invokevirtual 101, 3) := by decide +kernel
theorem dX3_lose_68 : decode cX3_lose 68 = .ok (.ireturn, 1) := by decide +kernel
set_option maxRecDepth 20000 in
theorem ggX3_circle_X3_isThrown_ : GoodIn wsX3_circle wsX3_isThrown_ := goodIn_rc _ [(0, 7), (0, 8), (0, 9), (0, 10), (0, 6), (0, 11), (0, 12), (1, 5), (1, 6), (1, 7), (1, 8), (1, 9), (1, 10), (1, 11), (1, 12), (1, 13), (1, 14), (1, 15)] (by rfl) (by decide +kernel)
set_option maxRecDepth 20000 in
theorem gX3_circle_X3_isThrown_ : GoodIn wsX3_circle (wsV RX3 98 RX3 yX3_isThrown_ wsX3_isThrown_) := goodIn_app (goodIn_of _ (by decide +kernel)) ggX3_circle_X3_isThrown_
set_option maxRecDepth 20000 in
theorem ggX3_circle_X3_isIn : GoodIn wsX3_circle wsX3_isIn := goodIn_rc _ [(0, 15)] (by rfl) (by decide +kernel)
set_option maxRecDepth 20000 in
theorem gX3_circle_X3_isIn : GoodIn wsX3_circle (va_wsS RX3 77 yX3_isIn wsX3_isIn) := goodIn_app (goodIn_of _ (by decide +kernel)) ggX3_circle_X3_isIn
set_option maxRecDepth 20000 in
theorem ggX3_circle_X3_waysNow : GoodIn wsX3_circle wsX3_waysNow := goodIn_rc _ [(0, 19), (0, 2), (0, 20), (0, 21), (0, 22), (0, 23), (0, 24), (0, 25), (0, 26), (1, 5), (1, 6), (1, 7), (1, 8), (1, 9), (1, 10), (1, 11), (1, 12), (1, 13), (1, 14), (1, 15)] (by rfl) (by decide +kernel)
set_option maxRecDepth 20000 in
theorem gX3_circle_X3_waysNow : GoodIn wsX3_circle (wsV RX3 111 RX3 yX3_waysNow wsX3_waysNow) := goodIn_app (goodIn_of _ (by decide +kernel)) ggX3_circle_X3_waysNow
set_option maxRecDepth 20000 in
theorem ggX3_circle_X3_no : GoodIn wsX3_circle wsX3_no := goodIn_rc _ [(0, 30), (0, 31), (1, 5), (1, 6), (1, 7), (1, 8), (1, 9), (1, 10), (1, 11), (1, 12), (1, 13), (1, 14), (1, 15)] (by rfl) (by decide +kernel)
set_option maxRecDepth 20000 in
theorem gX3_circle_X3_no : GoodIn wsX3_circle (wsV RX3 114 RX3 yX3_no wsX3_no) := goodIn_app (goodIn_of _ (by decide +kernel)) ggX3_circle_X3_no
set_option maxRecDepth 20000 in
theorem ggX3_circle_X3_done : GoodIn wsX3_circle wsX3_done := goodIn_rc _ [(1, 3), (1, 4), (1, 5), (1, 6), (1, 7), (1, 8), (1, 9), (1, 10), (1, 11), (1, 12), (1, 13), (1, 14), (1, 15)] (by rfl) (by decide +kernel)
set_option maxRecDepth 20000 in
theorem gX3_circle_X3_done : GoodIn wsX3_circle (wsV RX3 101 RX3 yX3_done wsX3_done) := goodIn_app (goodIn_of _ (by decide +kernel)) ggX3_circle_X3_done
theorem dX3_circle_0 : decode cX3_circle 0 = .ok (.aload_n 0, 1) := by decide +kernel
theorem dX3_circle_1 : decode cX3_circle 1 = .ok (.iload_n 1, 1) := by decide +kernel
theorem dX3_circle_2 : decode cX3_circle 2 = .ok (.ifCond .lt 9, 3) := by decide +kernel
theorem dX3_circle_5 : decode cX3_circle 5 = .ok (.iload_n 1, 1) := by decide +kernel
theorem dX3_circle_6 : decode cX3_circle 6 = .ok (.bipush 11, 2) := by decide +kernel
theorem dX3_circle_8 : decode cX3_circle 8 = .ok (.if_icmp .le 7, 3) := by decide +kernel
theorem dX3_circle_11 : decode cX3_circle 11 = .ok (.iconst 1, 1) := by decide +kernel
theorem dX3_circle_12 : decode cX3_circle 12 = .ok (.goto 4, 3) := by decide +kernel
theorem dX3_circle_15 : decode cX3_circle 15 = .ok (.iconst 0, 1) := by decide +kernel
theorem dX3_circle_16 : decode cX3_circle 16 = .ok (.invokevirtual 98, 3) := by decide +kernel
theorem dX3_circle_19 : decode cX3_circle 19 = .ok (.ifCond .eq 5, 3) := by decide +kernel
theorem dX3_circle_22 : decode cX3_circle 22 = .ok (.iconst 0, 1) := by decide +kernel
theorem dX3_circle_23 : decode cX3_circle 23 = .ok (.ireturn, 1) := by decide +kernel
theorem dX3_circle_24 : decode cX3_circle 24 = .ok (.iconst 0, 1) := by decide +kernel
theorem dX3_circle_25 : decode cX3_circle 25 = .ok (.istore_n 2, 1) := by decide +kernel
theorem dX3_circle_26 : decode cX3_circle 26 = .ok (.iconst 0, 1) := by decide +kernel
theorem dX3_circle_27 : decode cX3_circle 27 = .ok (.istore_n 3, 1) := by decide +kernel
theorem dX3_circle_28 : decode cX3_circle 28 = .ok (.iload_n 3, 1) := by decide +kernel
theorem dX3_circle_29 : decode cX3_circle 29 = .ok (.aload_n 0, 1) := by decide +kernel
theorem dX3_circle_30 : decode cX3_circle 30 = .ok (.getfield 17, 3) := by decide +kernel
theorem dX3_circle_33 : decode cX3_circle 33 = .ok (.if_icmp .ge 37, 3) := by decide +kernel
theorem dX3_circle_36 : decode cX3_circle 36 = .ok (.iload_n 2, 1) := by decide +kernel
theorem dX3_circle_37 : decode cX3_circle 37 = .ok (.aload_n 0, 1) := by decide +kernel
theorem dX3_circle_38 : decode cX3_circle 38 = .ok (.getfield 30, 3) := by decide +kernel
theorem dX3_circle_41 : decode cX3_circle 41 = .ok (.iload_n 3, 1) := by decide +kernel
theorem dX3_circle_42 : decode cX3_circle 42 = .ok (.iaload, 1) := by decide +kernel
theorem dX3_circle_43 : decode cX3_circle 43 = .ok (.iload_n 3, 1) := by decide +kernel
theorem dX3_circle_44 : decode cX3_circle 44 = .ok (.iload_n 1, 1) := by decide +kernel
theorem dX3_circle_45 : decode cX3_circle 45 = .ok (.iadd, 1) := by decide +kernel
theorem dX3_circle_46 : decode cX3_circle 46 = .ok (.aload_n 0, 1) := by decide +kernel
theorem dX3_circle_47 : decode cX3_circle 47 = .ok (.getfield 17, 3) := by decide +kernel
theorem dX3_circle_50 : decode cX3_circle 50 = .ok (.irem, 1) := by decide +kernel
theorem dX3_circle_51 : decode cX3_circle 51 = .ok (.invokestatic 77, 3) := by decide +kernel
theorem dX3_circle_54 : decode cX3_circle 54 = .ok (.ifCond .eq 7, 3) := by decide +kernel
theorem dX3_circle_57 : decode cX3_circle 57 = .ok (.iconst 0, 1) := by decide +kernel
theorem dX3_circle_58 : decode cX3_circle 58 = .ok (.goto 4, 3) := by decide +kernel
theorem dX3_circle_61 : decode cX3_circle 61 = .ok (.iconst 1, 1) := by decide +kernel
theorem dX3_circle_62 : decode cX3_circle 62 = .ok (.iadd, 1) := by decide +kernel
theorem dX3_circle_63 : decode cX3_circle 63 = .ok (.istore_n 2, 1) := by decide +kernel
theorem dX3_circle_64 : decode cX3_circle 64 = .ok (.iinc 3 1, 3) := by decide +kernel
theorem dX3_circle_67 : decode cX3_circle 67 = .ok (.goto (-39), 3) := by decide +kernel
theorem dX3_circle_70 : decode cX3_circle 70 = .ok (.aload_n 0, 1) := by decide +kernel
theorem dX3_circle_71 : decode cX3_circle 71 = .ok (.invokevirtual 111, 3) := by decide +kernel
theorem dX3_circle_74 : decode cX3_circle 74 = .ok (.iload_n 2, 1) := by decide +kernel
theorem dX3_circle_75 : decode cX3_circle 75 = .ok (.iadd, 1) := by decide +kernel
theorem dX3_circle_76 : decode cX3_circle 76 = .ok (.bipush 30, 2) := by decide +kernel
theorem dX3_circle_78 : decode cX3_circle 78 = .ok (.if_icmp .le 8, 3) := by decide +kernel
theorem dX3_circle_81 : decode cX3_circle 81 = .ok (.aload_n 0, 1) := by decide +kernel
theorem dX3_circle_82 : decode cX3_circle 82 = .ok (.invokevirtual 114, 3) := by decide +kernel
theorem dX3_circle_85 : decode cX3_circle 85 = .ok (.ireturn, 1) := by decide +kernel
theorem dX3_circle_86 : decode cX3_circle 86 = .ok (.iconst 0, 1) := by decide +kernel
theorem dX3_circle_87 : decode cX3_circle 87 = .ok (.istore_n 3, 1) := by decide +kernel
theorem dX3_circle_88 : decode cX3_circle 88 = .ok (.iload_n 3, 1) := by decide +kernel
theorem dX3_circle_89 : decode cX3_circle 89 = .ok (.aload_n 0, 1) := by decide +kernel
theorem dX3_circle_90 : decode cX3_circle 90 = .ok (.getfield 17, 3) := by decide +kernel
theorem dX3_circle_93 : decode cX3_circle 93 = .ok (.if_icmp .ge 28, 3) := by decide +kernel
theorem dX3_circle_96 : decode cX3_circle 96 = .ok (.aload_n 0, 1) := by decide +kernel
theorem dX3_circle_97 : decode cX3_circle 97 = .ok (.getfield 30, 3) := by decide +kernel
theorem dX3_circle_100 : decode cX3_circle 100 = .ok (.iload_n 3, 1) := by decide +kernel
theorem dX3_circle_101 : decode cX3_circle 101 = .ok (.dup2, 1) := by decide +kernel
theorem dX3_circle_102 : decode cX3_circle 102 = .ok (.iaload, 1) := by decide +kernel
theorem dX3_circle_103 : decode cX3_circle 103 = .ok (.iconst 1, 1) := by decide +kernel
theorem dX3_circle_104 : decode cX3_circle 104 = .ok (.iload_n 3, 1) := by decide +kernel
theorem dX3_circle_105 : decode cX3_circle 105 = .ok (.iload_n 1, 1) := by decide +kernel
theorem dX3_circle_106 : decode cX3_circle 106 = .ok (.iadd, 1) := by decide +kernel
theorem dX3_circle_107 : decode cX3_circle 107 = .ok (.aload_n 0, 1) := by decide +kernel
theorem dX3_circle_108 : decode cX3_circle 108 = .ok (.getfield 17, 3) := by decide +kernel
theorem dX3_circle_111 : decode cX3_circle 111 = .ok (.irem, 1) := by decide +kernel
theorem dX3_circle_112 : decode cX3_circle 112 = .ok (.ishl, 1) := by decide +kernel
theorem dX3_circle_113 : decode cX3_circle 113 = .ok (.ior, 1) := by decide +kernel
theorem dX3_circle_114 : decode cX3_circle 114 = .ok (.iastore, 1) := by decide +kernel
theorem dX3_circle_115 : decode cX3_circle 115 = .ok (.iinc 3 1, 3) := by decide +kernel
theorem dX3_circle_118 : decode cX3_circle 118 = .ok (.goto (-30), 3) := by decide +kernel
theorem dX3_circle_121 : decode cX3_circle 121 = .ok (.aload_n 0, 1) := by decide +kernel
theorem dX3_circle_122 : decode cX3_circle 122 = .ok (.iload_n 2, 1) := by decide +kernel
theorem dX3_circle_123 : decode cX3_circle 123 = .ok (.invokevirtual 101, 3) := by decide +kernel
theorem dX3_circle_126 : decode cX3_circle 126 = .ok (.ireturn, 1) := by decide +kernel
set_option maxRecDepth 20000 in
theorem ggX3_strew_X3_isThrown_ : GoodIn wsX3_strew wsX3_isThrown_ := goodIn_rc _ [(0, 10), (0, 11), (0, 12), (0, 13), (0, 9), (0, 14), (0, 15), (1, 0), (1, 1), (1, 2), (1, 3), (1, 4), (1, 5), (1, 6), (1, 7), (1, 8), (1, 9), (1, 10)] (by rfl) (by decide +kernel)
set_option maxRecDepth 20000 in
theorem gX3_strew_X3_isThrown_ : GoodIn wsX3_strew (wsV RX3 98 RX3 yX3_isThrown_ wsX3_isThrown_) := goodIn_app (goodIn_of _ (by decide +kernel)) ggX3_strew_X3_isThrown_
set_option maxRecDepth 20000 in
theorem ggX3_strew_X3_waysNow : GoodIn wsX3_strew wsX3_waysNow := goodIn_rc _ [(0, 19), (0, 5), (0, 20), (0, 21), (0, 22), (0, 23), (0, 24), (0, 25), (0, 26), (1, 0), (1, 1), (1, 2), (1, 3), (1, 4), (1, 5), (1, 6), (1, 7), (1, 8), (1, 9), (1, 10)] (by rfl) (by decide +kernel)
set_option maxRecDepth 20000 in
theorem gX3_strew_X3_waysNow : GoodIn wsX3_strew (wsV RX3 111 RX3 yX3_waysNow wsX3_waysNow) := goodIn_app (goodIn_of _ (by decide +kernel)) ggX3_strew_X3_waysNow
set_option maxRecDepth 20000 in
theorem ggX3_strew_X3_done : GoodIn wsX3_strew wsX3_done := goodIn_rc _ [(0, 30), (0, 31), (1, 0), (1, 1), (1, 2), (1, 3), (1, 4), (1, 5), (1, 6), (1, 7), (1, 8), (1, 9), (1, 10)] (by rfl) (by decide +kernel)
set_option maxRecDepth 20000 in
theorem gX3_strew_X3_done : GoodIn wsX3_strew (wsV RX3 101 RX3 yX3_done wsX3_done) := goodIn_app (goodIn_of _ (by decide +kernel)) ggX3_strew_X3_done
theorem dX3_strew_0 : decode cX3_strew 0 = .ok (.aload_n 0, 1) := by decide +kernel
theorem dX3_strew_1 : decode cX3_strew 1 = .ok (.iload_n 1, 1) := by decide +kernel
theorem dX3_strew_2 : decode cX3_strew 2 = .ok (.ifCond .lt 10, 3) := by decide +kernel
theorem dX3_strew_5 : decode cX3_strew 5 = .ok (.iload_n 1, 1) := by decide +kernel
theorem dX3_strew_6 : decode cX3_strew 6 = .ok (.sipush 9999, 3) := by decide +kernel
theorem dX3_strew_9 : decode cX3_strew 9 = .ok (.if_icmp .le 7, 3) := by decide +kernel
theorem dX3_strew_12 : decode cX3_strew 12 = .ok (.iconst 1, 1) := by decide +kernel
theorem dX3_strew_13 : decode cX3_strew 13 = .ok (.goto 4, 3) := by decide +kernel
theorem dX3_strew_16 : decode cX3_strew 16 = .ok (.iconst 0, 1) := by decide +kernel
theorem dX3_strew_17 : decode cX3_strew 17 = .ok (.invokevirtual 98, 3) := by decide +kernel
theorem dX3_strew_20 : decode cX3_strew 20 = .ok (.ifCond .eq 5, 3) := by decide +kernel
theorem dX3_strew_23 : decode cX3_strew 23 = .ok (.iconst 0, 1) := by decide +kernel
theorem dX3_strew_24 : decode cX3_strew 24 = .ok (.ireturn, 1) := by decide +kernel
theorem dX3_strew_25 : decode cX3_strew 25 = .ok (.aload_n 0, 1) := by decide +kernel
theorem dX3_strew_26 : decode cX3_strew 26 = .ok (.iconst 0, 1) := by decide +kernel
theorem dX3_strew_27 : decode cX3_strew 27 = .ok (.putfield 20, 3) := by decide +kernel
theorem dX3_strew_30 : decode cX3_strew 30 = .ok (.aload_n 0, 1) := by decide +kernel
theorem dX3_strew_31 : decode cX3_strew 31 = .ok (.iconst 0, 1) := by decide +kernel
theorem dX3_strew_32 : decode cX3_strew 32 = .ok (.putfield 23, 3) := by decide +kernel
theorem dX3_strew_35 : decode cX3_strew 35 = .ok (.iconst 0, 1) := by decide +kernel
theorem dX3_strew_36 : decode cX3_strew 36 = .ok (.istore_n 2, 1) := by decide +kernel
theorem dX3_strew_37 : decode cX3_strew 37 = .ok (.iload_n 2, 1) := by decide +kernel
theorem dX3_strew_38 : decode cX3_strew 38 = .ok (.aload_n 0, 1) := by decide +kernel
theorem dX3_strew_39 : decode cX3_strew 39 = .ok (.getfield 17, 3) := by decide +kernel
theorem dX3_strew_42 : decode cX3_strew 42 = .ok (.if_icmp .ge 92, 3) := by decide +kernel
theorem dX3_strew_45 : decode cX3_strew 45 = .ok (.iload_n 1, 1) := by decide +kernel
theorem dX3_strew_46 : decode cX3_strew 46 = .ok (.bipush 7, 2) := by decide +kernel
theorem dX3_strew_48 : decode cX3_strew 48 = .ok (.iload_n 2, 1) := by decide +kernel
theorem dX3_strew_49 : decode cX3_strew 49 = .ok (.imul, 1) := by decide +kernel
theorem dX3_strew_50 : decode cX3_strew 50 = .ok (.iadd, 1) := by decide +kernel
theorem dX3_strew_51 : decode cX3_strew 51 = .ok (.iload_n 2, 1) := by decide +kernel
theorem dX3_strew_52 : decode cX3_strew 52 = .ok (.iload_n 2, 1) := by decide +kernel
theorem dX3_strew_53 : decode cX3_strew 53 = .ok (.imul, 1) := by decide +kernel
theorem dX3_strew_54 : decode cX3_strew 54 = .ok (.iadd, 1) := by decide +kernel
theorem dX3_strew_55 : decode cX3_strew 55 = .ok (.istore_n 3, 1) := by decide +kernel
theorem dX3_strew_56 : decode cX3_strew 56 = .ok (.aload_n 0, 1) := by decide +kernel
theorem dX3_strew_57 : decode cX3_strew 57 = .ok (.dup, 1) := by decide +kernel
theorem dX3_strew_58 : decode cX3_strew 58 = .ok (.getfield 20, 3) := by decide +kernel
theorem dX3_strew_61 : decode cX3_strew 61 = .ok (.iload_n 3, 1) := by decide +kernel
theorem dX3_strew_62 : decode cX3_strew 62 = .ok (.iconst 2, 1) := by decide +kernel
theorem dX3_strew_63 : decode cX3_strew 63 = .ok (.irem, 1) := by decide +kernel
theorem dX3_strew_64 : decode cX3_strew 64 = .ok (.iload_n 2, 1) := by decide +kernel
theorem dX3_strew_65 : decode cX3_strew 65 = .ok (.ishl, 1) := by decide +kernel
theorem dX3_strew_66 : decode cX3_strew 66 = .ok (.ior, 1) := by decide +kernel
theorem dX3_strew_67 : decode cX3_strew 67 = .ok (.putfield 20, 3) := by decide +kernel
theorem dX3_strew_70 : decode cX3_strew 70 = .ok (.aload_n 0, 1) := by decide +kernel
theorem dX3_strew_71 : decode cX3_strew 71 = .ok (.getfield 26, 3) := by decide +kernel
theorem dX3_strew_74 : decode cX3_strew 74 = .ok (.iload_n 2, 1) := by decide +kernel
theorem dX3_strew_75 : decode cX3_strew 75 = .ok (.iload_n 3, 1) := by decide +kernel
theorem dX3_strew_76 : decode cX3_strew 76 = .ok (.iconst 3, 1) := by decide +kernel
theorem dX3_strew_77 : decode cX3_strew 77 = .ok (.irem, 1) := by decide +kernel
theorem dX3_strew_78 : decode cX3_strew 78 = .ok (.iastore, 1) := by decide +kernel
theorem dX3_strew_79 : decode cX3_strew 79 = .ok (.aload_n 0, 1) := by decide +kernel
theorem dX3_strew_80 : decode cX3_strew 80 = .ok (.dup, 1) := by decide +kernel
theorem dX3_strew_81 : decode cX3_strew 81 = .ok (.getfield 23, 3) := by decide +kernel
theorem dX3_strew_84 : decode cX3_strew 84 = .ok (.iload_n 3, 1) := by decide +kernel
theorem dX3_strew_85 : decode cX3_strew 85 = .ok (.iconst 5, 1) := by decide +kernel
theorem dX3_strew_86 : decode cX3_strew 86 = .ok (.irem, 1) := by decide +kernel
theorem dX3_strew_87 : decode cX3_strew 87 = .ok (.ifCond .ne 9, 3) := by decide +kernel
theorem dX3_strew_90 : decode cX3_strew 90 = .ok (.iconst 1, 1) := by decide +kernel
theorem dX3_strew_91 : decode cX3_strew 91 = .ok (.iload_n 2, 1) := by decide +kernel
theorem dX3_strew_92 : decode cX3_strew 92 = .ok (.ishl, 1) := by decide +kernel
theorem dX3_strew_93 : decode cX3_strew 93 = .ok (.goto 4, 3) := by decide +kernel
theorem dX3_strew_96 : decode cX3_strew 96 = .ok (.iconst 0, 1) := by decide +kernel
theorem dX3_strew_97 : decode cX3_strew 97 = .ok (.ior, 1) := by decide +kernel
theorem dX3_strew_98 : decode cX3_strew 98 = .ok (.putfield 23, 3) := by decide +kernel
theorem dX3_strew_101 : decode cX3_strew 101 = .ok (.aload_n 0, 1) := by decide +kernel
theorem dX3_strew_102 : decode cX3_strew 102 = .ok (.getfield 30, 3) := by decide +kernel
theorem dX3_strew_105 : decode cX3_strew 105 = .ok (.iload_n 2, 1) := by decide +kernel
theorem dX3_strew_106 : decode cX3_strew 106 = .ok (.iconst 1, 1) := by decide +kernel
theorem dX3_strew_107 : decode cX3_strew 107 = .ok (.iload_n 3, 1) := by decide +kernel
theorem dX3_strew_108 : decode cX3_strew 108 = .ok (.aload_n 0, 1) := by decide +kernel
theorem dX3_strew_109 : decode cX3_strew 109 = .ok (.getfield 17, 3) := by decide +kernel
theorem dX3_strew_112 : decode cX3_strew 112 = .ok (.irem, 1) := by decide +kernel
theorem dX3_strew_113 : decode cX3_strew 113 = .ok (.ishl, 1) := by decide +kernel
theorem dX3_strew_114 : decode cX3_strew 114 = .ok (.iconst 1, 1) := by decide +kernel
theorem dX3_strew_115 : decode cX3_strew 115 = .ok (.iconst 3, 1) := by decide +kernel
theorem dX3_strew_116 : decode cX3_strew 116 = .ok (.iload_n 3, 1) := by decide +kernel
theorem dX3_strew_117 : decode cX3_strew 117 = .ok (.imul, 1) := by decide +kernel
theorem dX3_strew_118 : decode cX3_strew 118 = .ok (.iload_n 2, 1) := by decide +kernel
theorem dX3_strew_119 : decode cX3_strew 119 = .ok (.iadd, 1) := by decide +kernel
theorem dX3_strew_120 : decode cX3_strew 120 = .ok (.aload_n 0, 1) := by decide +kernel
theorem dX3_strew_121 : decode cX3_strew 121 = .ok (.getfield 17, 3) := by decide +kernel
theorem dX3_strew_124 : decode cX3_strew 124 = .ok (.irem, 1) := by decide +kernel
theorem dX3_strew_125 : decode cX3_strew 125 = .ok (.ishl, 1) := by decide +kernel
theorem dX3_strew_126 : decode cX3_strew 126 = .ok (.ior, 1) := by decide +kernel
theorem dX3_strew_127 : decode cX3_strew 127 = .ok (.iastore, 1) := by decide +kernel
theorem dX3_strew_128 : decode cX3_strew 128 = .ok (.iinc 2 1, 3) := by decide +kernel
theorem dX3_strew_131 : decode cX3_strew 131 = .ok (.goto (-94), 3) := by decide +kernel
theorem dX3_strew_134 : decode cX3_strew 134 = .ok (.aload_n 0, 1) := by decide +kernel
theorem dX3_strew_135 : decode cX3_strew 135 = .ok (.aload_n 0, 1) := by decide +kernel
theorem dX3_strew_136 : decode cX3_strew 136 = .ok (.invokevirtual 111, 3) := by decide +kernel
theorem dX3_strew_139 : decode cX3_strew 139 = .ok (.invokevirtual 101, 3) := by decide +kernel
theorem dX3_strew_142 : decode cX3_strew 142 = .ok (.ireturn, 1) := by decide +kernel
set_option maxRecDepth 20000 in
theorem ggX3_change_X3_all : GoodIn wsX3_change wsX3_all := goodIn_rc _ [(0, 8), (0, 3), (0, 21), (0, 22), (0, 23), (0, 24), (0, 25), (0, 26), (0, 27), (0, 28), (0, 29), (0, 30), (0, 31)] (by rfl) (by decide +kernel)
set_option maxRecDepth 20000 in
theorem gX3_change_X3_all : GoodIn wsX3_change (wsV RX3 55 RX3 yX3_all wsX3_all) := goodIn_app (goodIn_of _ (by decide +kernel)) ggX3_change_X3_all
set_option maxRecDepth 20000 in
theorem ggX3_change_J6_bitCount_0f7a4 : GoodIn wsX3_change wsJ6_bitCount_0f7a4 := goodIn_rc _ [(0, 12), (0, 13), (0, 14), (0, 15)] (by rfl) (by decide +kernel)
set_option maxRecDepth 20000 in
theorem gX3_change_J6_bitCount_0f7a4 : GoodIn wsX3_change (va_wsS RX3 39 yJ6_bitCount_0f7a4 wsJ6_bitCount_0f7a4) := goodIn_app (goodIn_of _ (by decide +kernel)) ggX3_change_J6_bitCount_0f7a4
set_option maxRecDepth 20000 in
theorem ggX3_change_X3_done : GoodIn wsX3_change wsX3_done := goodIn_rc _ [(0, 19), (0, 20), (0, 21), (0, 22), (0, 23), (0, 24), (0, 25), (0, 26), (0, 27), (0, 28), (0, 29), (0, 30), (0, 31)] (by rfl) (by decide +kernel)
set_option maxRecDepth 20000 in
theorem gX3_change_X3_done : GoodIn wsX3_change (wsV RX3 101 RX3 yX3_done wsX3_done) := goodIn_app (goodIn_of _ (by decide +kernel)) ggX3_change_X3_done
theorem dX3_change_0 : decode cX3_change 0 = .ok (.aload_n 0, 1) := by decide +kernel
theorem dX3_change_1 : decode cX3_change 1 = .ok (.iconst 0, 1) := by decide +kernel
theorem dX3_change_2 : decode cX3_change 2 = .ok (.putfield 13, 3) := by decide +kernel
theorem dX3_change_5 : decode cX3_change 5 = .ok (.aload_n 0, 1) := by decide +kernel
theorem dX3_change_6 : decode cX3_change 6 = .ok (.aload_n 0, 1) := by decide +kernel
theorem dX3_change_7 : decode cX3_change 7 = .ok (.invokevirtual 55, 3) := by decide +kernel
theorem dX3_change_10 : decode cX3_change 10 = .ok (.aload_n 0, 1) := by decide +kernel
theorem dX3_change_11 : decode cX3_change 11 = .ok (.getfield 20, 3) := by decide +kernel
theorem dX3_change_14 : decode cX3_change 14 = .ok (.iconst (-1), 1) := by decide +kernel
theorem dX3_change_15 : decode cX3_change 15 = .ok (.ixor, 1) := by decide +kernel
theorem dX3_change_16 : decode cX3_change 16 = .ok (.iand, 1) := by decide +kernel
theorem dX3_change_17 : decode cX3_change 17 = .ok (.putfield 20, 3) := by decide +kernel
theorem dX3_change_20 : decode cX3_change 20 = .ok (.aload_n 0, 1) := by decide +kernel
theorem dX3_change_21 : decode cX3_change 21 = .ok (.aload_n 0, 1) := by decide +kernel
theorem dX3_change_22 : decode cX3_change 22 = .ok (.getfield 17, 3) := by decide +kernel
theorem dX3_change_25 : decode cX3_change 25 = .ok (.aload_n 0, 1) := by decide +kernel
theorem dX3_change_26 : decode cX3_change 26 = .ok (.getfield 20, 3) := by decide +kernel
theorem dX3_change_29 : decode cX3_change 29 = .ok (.invokestatic 39, 3) := by decide +kernel
theorem dX3_change_32 : decode cX3_change 32 = .ok (.isub, 1) := by decide +kernel
theorem dX3_change_33 : decode cX3_change 33 = .ok (.invokevirtual 101, 3) := by decide +kernel
theorem dX3_change_36 : decode cX3_change 36 = .ok (.ireturn, 1) := by decide +kernel
set_option maxRecDepth 20000 in
theorem ggX3_stand_X3_isPlace : GoodIn wsX3_stand wsX3_isPlace := goodIn_rc _ [(0, 7), (0, 8), (0, 23), (0, 24), (0, 25), (0, 26), (0, 27), (0, 28), (0, 29), (0, 30), (0, 31), (1, 0), (1, 1)] (by rfl) (by decide +kernel)
set_option maxRecDepth 20000 in
theorem gX3_stand_X3_isPlace : GoodIn wsX3_stand (wsV RX3 104 RX3 yX3_isPlace wsX3_isPlace) := goodIn_app (goodIn_of _ (by decide +kernel)) ggX3_stand_X3_isPlace
set_option maxRecDepth 20000 in
theorem ggX3_stand_X3_isThrown_ : GoodIn wsX3_stand wsX3_isThrown_ := goodIn_rc _ [(0, 12), (0, 13), (0, 14), (0, 15), (0, 6), (0, 16), (0, 17), (0, 23), (0, 24), (0, 25), (0, 26), (0, 27), (0, 28), (0, 29), (0, 30), (0, 31), (1, 0), (1, 1)] (by rfl) (by decide +kernel)
set_option maxRecDepth 20000 in
theorem gX3_stand_X3_isThrown_ : GoodIn wsX3_stand (wsV RX3 98 RX3 yX3_isThrown_ wsX3_isThrown_) := goodIn_app (goodIn_of _ (by decide +kernel)) ggX3_stand_X3_isThrown_
set_option maxRecDepth 20000 in
theorem ggX3_stand_X3_done : GoodIn wsX3_stand wsX3_done := goodIn_rc _ [(0, 21), (0, 22), (0, 23), (0, 24), (0, 25), (0, 26), (0, 27), (0, 28), (0, 29), (0, 30), (0, 31), (1, 0), (1, 1)] (by rfl) (by decide +kernel)
set_option maxRecDepth 20000 in
theorem gX3_stand_X3_done : GoodIn wsX3_stand (wsV RX3 101 RX3 yX3_done wsX3_done) := goodIn_app (goodIn_of _ (by decide +kernel)) ggX3_stand_X3_done
theorem dX3_stand_0 : decode cX3_stand 0 = .ok (.aload_n 0, 1) := by decide +kernel
theorem dX3_stand_1 : decode cX3_stand 1 = .ok (.aload_n 0, 1) := by decide +kernel
theorem dX3_stand_2 : decode cX3_stand 2 = .ok (.iload_n 1, 1) := by decide +kernel
theorem dX3_stand_3 : decode cX3_stand 3 = .ok (.invokevirtual 104, 3) := by decide +kernel
theorem dX3_stand_6 : decode cX3_stand 6 = .ok (.ifCond .ne 7, 3) := by decide +kernel
theorem dX3_stand_9 : decode cX3_stand 9 = .ok (.iconst 1, 1) := by decide +kernel
theorem dX3_stand_10 : decode cX3_stand 10 = .ok (.goto 4, 3) := by decide +kernel
theorem dX3_stand_13 : decode cX3_stand 13 = .ok (.iconst 0, 1) := by decide +kernel
theorem dX3_stand_14 : decode cX3_stand 14 = .ok (.invokevirtual 98, 3) := by decide +kernel
theorem dX3_stand_17 : decode cX3_stand 17 = .ok (.ifCond .eq 5, 3) := by decide +kernel
theorem dX3_stand_20 : decode cX3_stand 20 = .ok (.iconst 0, 1) := by decide +kernel
theorem dX3_stand_21 : decode cX3_stand 21 = .ok (.ireturn, 1) := by decide +kernel
theorem dX3_stand_22 : decode cX3_stand 22 = .ok (.aload_n 0, 1) := by decide +kernel
theorem dX3_stand_23 : decode cX3_stand 23 = .ok (.getfield 33, 3) := by decide +kernel
theorem dX3_stand_26 : decode cX3_stand 26 = .ok (.istore_n 2, 1) := by decide +kernel
theorem dX3_stand_27 : decode cX3_stand 27 = .ok (.aload_n 0, 1) := by decide +kernel
theorem dX3_stand_28 : decode cX3_stand 28 = .ok (.iload_n 1, 1) := by decide +kernel
theorem dX3_stand_29 : decode cX3_stand 29 = .ok (.putfield 33, 3) := by decide +kernel
theorem dX3_stand_32 : decode cX3_stand 32 = .ok (.aload_n 0, 1) := by decide +kernel
theorem dX3_stand_33 : decode cX3_stand 33 = .ok (.iconst 0, 1) := by decide +kernel
theorem dX3_stand_34 : decode cX3_stand 34 = .ok (.putfield 36, 3) := by decide +kernel
theorem dX3_stand_37 : decode cX3_stand 37 = .ok (.aload_n 0, 1) := by decide +kernel
theorem dX3_stand_38 : decode cX3_stand 38 = .ok (.iload_n 2, 1) := by decide +kernel
theorem dX3_stand_39 : decode cX3_stand 39 = .ok (.invokevirtual 101, 3) := by decide +kernel
theorem dX3_stand_42 : decode cX3_stand 42 = .ok (.ireturn, 1) := by decide +kernel
set_option maxRecDepth 20000 in
theorem ggX3_go_X3_isPlace : GoodIn wsX3_go wsX3_isPlace := goodIn_rc _ [(0, 8), (0, 9), (1, 0), (1, 1), (1, 2), (1, 3), (1, 4), (1, 5), (1, 6), (1, 7), (1, 8), (1, 9), (1, 10)] (by rfl) (by decide +kernel)
set_option maxRecDepth 20000 in
theorem gX3_go_X3_isPlace : GoodIn wsX3_go (wsV RX3 104 RX3 yX3_isPlace wsX3_isPlace) := goodIn_app (goodIn_of _ (by decide +kernel)) ggX3_go_X3_isPlace
set_option maxRecDepth 20000 in
theorem ggX3_go_X3_isThrown_ : GoodIn wsX3_go wsX3_isThrown_ := goodIn_rc _ [(0, 13), (0, 14), (0, 15), (0, 16), (0, 7), (0, 17), (0, 18), (1, 0), (1, 1), (1, 2), (1, 3), (1, 4), (1, 5), (1, 6), (1, 7), (1, 8), (1, 9), (1, 10)] (by rfl) (by decide +kernel)
set_option maxRecDepth 20000 in
theorem gX3_go_X3_isThrown_ : GoodIn wsX3_go (wsV RX3 98 RX3 yX3_isThrown_ wsX3_isThrown_) := goodIn_app (goodIn_of _ (by decide +kernel)) ggX3_go_X3_isThrown_
set_option maxRecDepth 20000 in
theorem ggX3_go_X3_isIn : GoodIn wsX3_go wsX3_isIn := goodIn_rc _ [(0, 21)] (by rfl) (by decide +kernel)
set_option maxRecDepth 20000 in
theorem gX3_go_X3_isIn : GoodIn wsX3_go (va_wsS RX3 77 yX3_isIn wsX3_isIn) := goodIn_app (goodIn_of _ (by decide +kernel)) ggX3_go_X3_isIn
set_option maxRecDepth 20000 in
theorem ggX3_go_X3_no : GoodIn wsX3_go wsX3_no := goodIn_rc _ [(0, 25), (0, 26), (1, 0), (1, 1), (1, 2), (1, 3), (1, 4), (1, 5), (1, 6), (1, 7), (1, 8), (1, 9), (1, 10)] (by rfl) (by decide +kernel)
set_option maxRecDepth 20000 in
theorem gX3_go_X3_no : GoodIn wsX3_go (wsV RX3 114 RX3 yX3_no wsX3_no) := goodIn_app (goodIn_of _ (by decide +kernel)) ggX3_go_X3_no
set_option maxRecDepth 20000 in
theorem ggX3_go_X3_done : GoodIn wsX3_go wsX3_done := goodIn_rc _ [(0, 30), (0, 31), (1, 0), (1, 1), (1, 2), (1, 3), (1, 4), (1, 5), (1, 6), (1, 7), (1, 8), (1, 9), (1, 10)] (by rfl) (by decide +kernel)
set_option maxRecDepth 20000 in
theorem gX3_go_X3_done : GoodIn wsX3_go (wsV RX3 101 RX3 yX3_done wsX3_done) := goodIn_app (goodIn_of _ (by decide +kernel)) ggX3_go_X3_done
theorem dX3_go_0 : decode cX3_go 0 = .ok (.aload_n 0, 1) := by decide +kernel
theorem dX3_go_1 : decode cX3_go 1 = .ok (.aload_n 0, 1) := by decide +kernel
theorem dX3_go_2 : decode cX3_go 2 = .ok (.iload_n 1, 1) := by decide +kernel
theorem dX3_go_3 : decode cX3_go 3 = .ok (.invokevirtual 104, 3) := by decide +kernel
theorem dX3_go_6 : decode cX3_go 6 = .ok (.ifCond .ne 7, 3) := by decide +kernel
theorem dX3_go_9 : decode cX3_go 9 = .ok (.iconst 1, 1) := by decide +kernel
theorem dX3_go_10 : decode cX3_go 10 = .ok (.goto 4, 3) := by decide +kernel
theorem dX3_go_13 : decode cX3_go 13 = .ok (.iconst 0, 1) := by decide +kernel
theorem dX3_go_14 : decode cX3_go 14 = .ok (.invokevirtual 98, 3) := by decide +kernel
theorem dX3_go_17 : decode cX3_go 17 = .ok (.ifCond .eq 5, 3) := by decide +kernel
theorem dX3_go_20 : decode cX3_go 20 = .ok (.iconst 0, 1) := by decide +kernel
theorem dX3_go_21 : decode cX3_go 21 = .ok (.ireturn, 1) := by decide +kernel
theorem dX3_go_22 : decode cX3_go 22 = .ok (.aload_n 0, 1) := by decide +kernel
theorem dX3_go_23 : decode cX3_go 23 = .ok (.getfield 30, 3) := by decide +kernel
theorem dX3_go_26 : decode cX3_go 26 = .ok (.aload_n 0, 1) := by decide +kernel
theorem dX3_go_27 : decode cX3_go 27 = .ok (.getfield 33, 3) := by decide +kernel
theorem dX3_go_30 : decode cX3_go 30 = .ok (.iaload, 1) := by decide +kernel
theorem dX3_go_31 : decode cX3_go 31 = .ok (.iload_n 1, 1) := by decide +kernel
theorem dX3_go_32 : decode cX3_go 32 = .ok (.invokestatic 77, 3) := by decide +kernel
theorem dX3_go_35 : decode cX3_go 35 = .ok (.ifCond .ne 8, 3) := by decide +kernel
theorem dX3_go_38 : decode cX3_go 38 = .ok (.aload_n 0, 1) := by decide +kernel
theorem dX3_go_39 : decode cX3_go 39 = .ok (.invokevirtual 114, 3) := by decide +kernel
theorem dX3_go_42 : decode cX3_go 42 = .ok (.ireturn, 1) := by decide +kernel
theorem dX3_go_43 : decode cX3_go 43 = .ok (.aload_n 0, 1) := by decide +kernel
theorem dX3_go_44 : decode cX3_go 44 = .ok (.iload_n 1, 1) := by decide +kernel
theorem dX3_go_45 : decode cX3_go 45 = .ok (.putfield 33, 3) := by decide +kernel
theorem dX3_go_48 : decode cX3_go 48 = .ok (.aload_n 0, 1) := by decide +kernel
theorem dX3_go_49 : decode cX3_go 49 = .ok (.dup, 1) := by decide +kernel
theorem dX3_go_50 : decode cX3_go 50 = .ok (.getfield 36, 3) := by decide +kernel
theorem dX3_go_53 : decode cX3_go 53 = .ok (.iconst 1, 1) := by decide +kernel
theorem dX3_go_54 : decode cX3_go 54 = .ok (.iadd, 1) := by decide +kernel
theorem dX3_go_55 : decode cX3_go 55 = .ok (.putfield 36, 3) := by decide +kernel
theorem dX3_go_58 : decode cX3_go 58 = .ok (.aload_n 0, 1) := by decide +kernel
theorem dX3_go_59 : decode cX3_go 59 = .ok (.aload_n 0, 1) := by decide +kernel
theorem dX3_go_60 : decode cX3_go 60 = .ok (.getfield 36, 3) := by decide +kernel
theorem dX3_go_63 : decode cX3_go 63 = .ok (.invokevirtual 101, 3) := by decide +kernel
theorem dX3_go_66 : decode cX3_go 66 = .ok (.ireturn, 1) := by decide +kernel
set_option maxRecDepth 20000 in
theorem ggX3_follow_X3_isThrown_ : GoodIn wsX3_follow wsX3_isThrown_ := goodIn_rc _ [(0, 7), (0, 8), (0, 9), (0, 10), (0, 6), (0, 11), (0, 12), (2, 19), (2, 20), (2, 21), (2, 22), (2, 23), (2, 24), (2, 25), (2, 26), (2, 27), (2, 28), (2, 29)] (by rfl) (by decide +kernel)
set_option maxRecDepth 20000 in
theorem gX3_follow_X3_isThrown_ : GoodIn wsX3_follow (wsV RX3 98 RX3 yX3_isThrown_ wsX3_isThrown_) := goodIn_app (goodIn_of _ (by decide +kernel)) ggX3_follow_X3_isThrown_
set_option maxRecDepth 20000 in
theorem ggX3_follow_X3_sideOf : GoodIn wsX3_follow wsX3_sideOf := goodIn_rc _ [(0, 16), (0, 17), (2, 19), (2, 20), (2, 21), (2, 22), (2, 23), (2, 24), (2, 25), (2, 26), (2, 27), (2, 28), (2, 29)] (by rfl) (by decide +kernel)
set_option maxRecDepth 20000 in
theorem gX3_follow_X3_sideOf : GoodIn wsX3_follow (wsV RX3 45 RX3 yX3_sideOf wsX3_sideOf) := goodIn_app (goodIn_of _ (by decide +kernel)) ggX3_follow_X3_sideOf
set_option maxRecDepth 20000 in
theorem ggX3_follow_X3_choiceOf : GoodIn wsX3_follow wsX3_choiceOf := goodIn_rc _ [(0, 21), (0, 22), (0, 23), (0, 24), (0, 25), (0, 26), (0, 27), (0, 6), (0, 28), (0, 29), (0, 30), (0, 31), (1, 0), (1, 1), (1, 2), (1, 3), (1, 4), (1, 5), (1, 6), (1, 7), (1, 8), (0, 13), (0, 14), (0, 15), (0, 16), (0, 17), (1, 9), (1, 10), (1, 11), (1, 12), (1, 13), (1, 14), (1, 15), (1, 16), (1, 17), (1, 18), (1, 19), (1, 20), (1, 21), (1, 22), (1, 23), (1, 24), (1, 25), (1, 26), (1, 27), (1, 28), (1, 29), (1, 30), (1, 31), (2, 0), (2, 1), (2, 2), (2, 3), (2, 4), (2, 5), (2, 6), (2, 7), (2, 8), (2, 19), (2, 20), (2, 21), (2, 22), (2, 23), (2, 24), (2, 25), (2, 26), (2, 27), (2, 28), (2, 29)] (by rfl) (by decide +kernel)
set_option maxRecDepth 20000 in
theorem gX3_follow_X3_choiceOf : GoodIn wsX3_follow (wsV RX3 117 RX3 yX3_choiceOf wsX3_choiceOf) := goodIn_app (goodIn_of _ (by decide +kernel)) ggX3_follow_X3_choiceOf
set_option maxRecDepth 20000 in
theorem ggX3_follow_X3_no : GoodIn wsX3_follow wsX3_no := goodIn_rc _ [(2, 12), (2, 13), (2, 19), (2, 20), (2, 21), (2, 22), (2, 23), (2, 24), (2, 25), (2, 26), (2, 27), (2, 28), (2, 29)] (by rfl) (by decide +kernel)
set_option maxRecDepth 20000 in
theorem gX3_follow_X3_no : GoodIn wsX3_follow (wsV RX3 114 RX3 yX3_no wsX3_no) := goodIn_app (goodIn_of _ (by decide +kernel)) ggX3_follow_X3_no
set_option maxRecDepth 20000 in
theorem ggX3_follow_X3_done : GoodIn wsX3_follow wsX3_done := goodIn_rc _ [(2, 17), (2, 18), (2, 19), (2, 20), (2, 21), (2, 22), (2, 23), (2, 24), (2, 25), (2, 26), (2, 27), (2, 28), (2, 29)] (by rfl) (by decide +kernel)
set_option maxRecDepth 20000 in
theorem gX3_follow_X3_done : GoodIn wsX3_follow (wsV RX3 101 RX3 yX3_done wsX3_done) := goodIn_app (goodIn_of _ (by decide +kernel)) ggX3_follow_X3_done
theorem dX3_follow_0 : decode cX3_follow 0 = .ok (.aload_n 0, 1) := by decide +kernel
theorem dX3_follow_1 : decode cX3_follow 1 = .ok (.iload_n 1, 1) := by decide +kernel
theorem dX3_follow_2 : decode cX3_follow 2 = .ok (.ifCond .lt 8, 3) := by decide +kernel
theorem dX3_follow_5 : decode cX3_follow 5 = .ok (.iload_n 1, 1) := by decide +kernel
theorem dX3_follow_6 : decode cX3_follow 6 = .ok (.iconst 2, 1) := by decide +kernel
theorem dX3_follow_7 : decode cX3_follow 7 = .ok (.if_icmp .le 7, 3) := by decide +kernel
theorem dX3_follow_10 : decode cX3_follow 10 = .ok (.iconst 1, 1) := by decide +kernel
theorem dX3_follow_11 : decode cX3_follow 11 = .ok (.goto 4, 3) := by decide +kernel
theorem dX3_follow_14 : decode cX3_follow 14 = .ok (.iconst 0, 1) := by decide +kernel
theorem dX3_follow_15 : decode cX3_follow 15 = .ok (.invokevirtual 98, 3) := by decide +kernel
theorem dX3_follow_18 : decode cX3_follow 18 = .ok (.ifCond .eq 5, 3) := by decide +kernel
theorem dX3_follow_21 : decode cX3_follow 21 = .ok (.iconst 0, 1) := by decide +kernel
theorem dX3_follow_22 : decode cX3_follow 22 = .ok (.ireturn, 1) := by decide +kernel
theorem dX3_follow_23 : decode cX3_follow 23 = .ok (.aload_n 0, 1) := by decide +kernel
theorem dX3_follow_24 : decode cX3_follow 24 = .ok (.iload_n 1, 1) := by decide +kernel
theorem dX3_follow_25 : decode cX3_follow 25 = .ok (.aload_n 0, 1) := by decide +kernel
theorem dX3_follow_26 : decode cX3_follow 26 = .ok (.aload_n 0, 1) := by decide +kernel
theorem dX3_follow_27 : decode cX3_follow 27 = .ok (.getfield 33, 3) := by decide +kernel
theorem dX3_follow_30 : decode cX3_follow 30 = .ok (.invokevirtual 45, 3) := by decide +kernel
theorem dX3_follow_33 : decode cX3_follow 33 = .ok (.aload_n 0, 1) := by decide +kernel
theorem dX3_follow_34 : decode cX3_follow 34 = .ok (.getfield 33, 3) := by decide +kernel
theorem dX3_follow_37 : decode cX3_follow 37 = .ok (.invokevirtual 117, 3) := by decide +kernel
theorem dX3_follow_40 : decode cX3_follow 40 = .ok (.istore_n 2, 1) := by decide +kernel
theorem dX3_follow_41 : decode cX3_follow 41 = .ok (.iload_n 2, 1) := by decide +kernel
theorem dX3_follow_42 : decode cX3_follow 42 = .ok (.ifCond .ge 8, 3) := by decide +kernel
theorem dX3_follow_45 : decode cX3_follow 45 = .ok (.aload_n 0, 1) := by decide +kernel
theorem dX3_follow_46 : decode cX3_follow 46 = .ok (.invokevirtual 114, 3) := by decide +kernel
theorem dX3_follow_49 : decode cX3_follow 49 = .ok (.ireturn, 1) := by decide +kernel
theorem dX3_follow_50 : decode cX3_follow 50 = .ok (.aload_n 0, 1) := by decide +kernel
theorem dX3_follow_51 : decode cX3_follow 51 = .ok (.iload_n 2, 1) := by decide +kernel
theorem dX3_follow_52 : decode cX3_follow 52 = .ok (.putfield 33, 3) := by decide +kernel
theorem dX3_follow_55 : decode cX3_follow 55 = .ok (.aload_n 0, 1) := by decide +kernel
theorem dX3_follow_56 : decode cX3_follow 56 = .ok (.dup, 1) := by decide +kernel
theorem dX3_follow_57 : decode cX3_follow 57 = .ok (.getfield 36, 3) := by decide +kernel
theorem dX3_follow_60 : decode cX3_follow 60 = .ok (.iconst 1, 1) := by decide +kernel
theorem dX3_follow_61 : decode cX3_follow 61 = .ok (.iadd, 1) := by decide +kernel
theorem dX3_follow_62 : decode cX3_follow 62 = .ok (.putfield 36, 3) := by decide +kernel
theorem dX3_follow_65 : decode cX3_follow 65 = .ok (.aload_n 0, 1) := by decide +kernel
theorem dX3_follow_66 : decode cX3_follow 66 = .ok (.aload_n 0, 1) := by decide +kernel
theorem dX3_follow_67 : decode cX3_follow 67 = .ok (.getfield 33, 3) := by decide +kernel
theorem dX3_follow_70 : decode cX3_follow 70 = .ok (.invokevirtual 101, 3) := by decide +kernel
theorem dX3_follow_73 : decode cX3_follow 73 = .ok (.ireturn, 1) := by decide +kernel
theorem dX3_stuck_0 : decode cX3_stuck 0 = .ok (.iconst 0, 1) := by decide +kernel
theorem dX3_stuck_1 : decode cX3_stuck 1 = .ok (.istore_n 1, 1) := by decide +kernel
theorem dX3_stuck_2 : decode cX3_stuck 2 = .ok (.aload_n 0, 1) := by decide +kernel
theorem dX3_stuck_3 : decode cX3_stuck 3 = .ok (.getfield 30, 3) := by decide +kernel
theorem dX3_stuck_6 : decode cX3_stuck 6 = .ok (.astore_n 2, 1) := by decide +kernel
theorem dX3_stuck_7 : decode cX3_stuck 7 = .ok (.aload_n 2, 1) := by decide +kernel
theorem dX3_stuck_8 : decode cX3_stuck 8 = .ok (.arraylength, 1) := by decide +kernel
theorem dX3_stuck_9 : decode cX3_stuck 9 = .ok (.istore_n 3, 1) := by decide +kernel
theorem dX3_stuck_10 : decode cX3_stuck 10 = .ok (.iconst 0, 1) := by decide +kernel
theorem dX3_stuck_11 : decode cX3_stuck 11 = .ok (.istore 4, 2) := by decide +kernel
theorem dX3_stuck_13 : decode cX3_stuck 13 = .ok (.iload 4, 2) := by decide +kernel
theorem dX3_stuck_15 : decode cX3_stuck 15 = .ok (.iload_n 3, 1) := by decide +kernel
theorem dX3_stuck_16 : decode cX3_stuck 16 = .ok (.if_icmp .ge 28, 3) := by decide +kernel
theorem dX3_stuck_19 : decode cX3_stuck 19 = .ok (.aload_n 2, 1) := by decide +kernel
theorem dX3_stuck_20 : decode cX3_stuck 20 = .ok (.iload 4, 2) := by decide +kernel
theorem dX3_stuck_22 : decode cX3_stuck 22 = .ok (.iaload, 1) := by decide +kernel
theorem dX3_stuck_23 : decode cX3_stuck 23 = .ok (.istore 5, 2) := by decide +kernel
theorem dX3_stuck_25 : decode cX3_stuck 25 = .ok (.iload_n 1, 1) := by decide +kernel
theorem dX3_stuck_26 : decode cX3_stuck 26 = .ok (.iload 5, 2) := by decide +kernel
theorem dX3_stuck_28 : decode cX3_stuck 28 = .ok (.ifCond .ne 7, 3) := by decide +kernel
theorem dX3_stuck_31 : decode cX3_stuck 31 = .ok (.iconst 1, 1) := by decide +kernel
theorem dX3_stuck_32 : decode cX3_stuck 32 = .ok (.goto 4, 3) := by decide +kernel
theorem dX3_stuck_35 : decode cX3_stuck 35 = .ok (.iconst 0, 1) := by decide +kernel
theorem dX3_stuck_36 : decode cX3_stuck 36 = .ok (.iadd, 1) := by decide +kernel
theorem dX3_stuck_37 : decode cX3_stuck 37 = .ok (.istore_n 1, 1) := by decide +kernel
theorem dX3_stuck_38 : decode cX3_stuck 38 = .ok (.iinc 4 1, 3) := by decide +kernel
theorem dX3_stuck_41 : decode cX3_stuck 41 = .ok (.goto (-28), 3) := by decide +kernel
theorem dX3_stuck_44 : decode cX3_stuck 44 = .ok (.iload_n 1, 1) := by decide +kernel
theorem dX3_stuck_45 : decode cX3_stuck 45 = .ok (.ireturn, 1) := by decide +kernel
set_option maxRecDepth 20000 in
theorem ggX3_toldNow_X3_waysNow : GoodIn wsX3_toldNow wsX3_waysNow := goodIn_rc _ [(0, 10), (0, 11), (0, 12), (0, 13), (0, 14), (0, 15), (0, 16), (0, 17), (0, 18), (0, 23), (0, 24), (0, 25), (0, 26), (0, 27), (0, 28), (0, 29), (0, 30), (0, 31), (1, 0), (1, 1)] (by rfl) (by decide +kernel)
set_option maxRecDepth 20000 in
theorem gX3_toldNow_X3_waysNow : GoodIn wsX3_toldNow (wsV RX3 111 RX3 yX3_waysNow wsX3_waysNow) := goodIn_app (goodIn_of _ (by decide +kernel)) ggX3_toldNow_X3_waysNow
set_option maxRecDepth 20000 in
theorem ggX3_toldNow_X3_stuck : GoodIn wsX3_toldNow wsX3_stuck := goodIn_rc _ [(0, 22), (0, 11), (0, 23), (0, 24), (0, 25), (0, 26), (0, 27), (0, 28), (0, 29), (0, 30), (0, 31), (1, 0), (1, 1)] (by rfl) (by decide +kernel)
set_option maxRecDepth 20000 in
theorem gX3_toldNow_X3_stuck : GoodIn wsX3_toldNow (wsV RX3 120 RX3 yX3_stuck wsX3_stuck) := goodIn_app (goodIn_of _ (by decide +kernel)) ggX3_toldNow_X3_stuck
theorem dX3_toldNow_0 : decode cX3_toldNow 0 = .ok (.iload_n 1, 1) := by decide +kernel
theorem dX3_toldNow_1 : decode cX3_toldNow 1 = .ok (.tableswitch 69 0 5 #[39, 44, 49, 54, 59, 64], 39) := by decide +kernel
theorem dX3_toldNow_40 : decode cX3_toldNow 40 = .ok (.aload_n 0, 1) := by decide +kernel
theorem dX3_toldNow_41 : decode cX3_toldNow 41 = .ok (.getfield 17, 3) := by decide +kernel
theorem dX3_toldNow_44 : decode cX3_toldNow 44 = .ok (.ireturn, 1) := by decide +kernel
theorem dX3_toldNow_45 : decode cX3_toldNow 45 = .ok (.aload_n 0, 1) := by decide +kernel
theorem dX3_toldNow_46 : decode cX3_toldNow 46 = .ok (.invokevirtual 111, 3) := by decide +kernel
theorem dX3_toldNow_49 : decode cX3_toldNow 49 = .ok (.ireturn, 1) := by decide +kernel
theorem dX3_toldNow_50 : decode cX3_toldNow 50 = .ok (.aload_n 0, 1) := by decide +kernel
theorem dX3_toldNow_51 : decode cX3_toldNow 51 = .ok (.getfield 23, 3) := by decide +kernel
theorem dX3_toldNow_54 : decode cX3_toldNow 54 = .ok (.ireturn, 1) := by decide +kernel
theorem dX3_toldNow_55 : decode cX3_toldNow 55 = .ok (.aload_n 0, 1) := by decide +kernel
theorem dX3_toldNow_56 : decode cX3_toldNow 56 = .ok (.getfield 20, 3) := by decide +kernel
theorem dX3_toldNow_59 : decode cX3_toldNow 59 = .ok (.ireturn, 1) := by decide +kernel
theorem dX3_toldNow_60 : decode cX3_toldNow 60 = .ok (.aload_n 0, 1) := by decide +kernel
theorem dX3_toldNow_61 : decode cX3_toldNow 61 = .ok (.getfield 33, 3) := by decide +kernel
theorem dX3_toldNow_64 : decode cX3_toldNow 64 = .ok (.ireturn, 1) := by decide +kernel
theorem dX3_toldNow_65 : decode cX3_toldNow 65 = .ok (.aload_n 0, 1) := by decide +kernel
theorem dX3_toldNow_66 : decode cX3_toldNow 66 = .ok (.getfield 36, 3) := by decide +kernel
theorem dX3_toldNow_69 : decode cX3_toldNow 69 = .ok (.ireturn, 1) := by decide +kernel
theorem dX3_toldNow_70 : decode cX3_toldNow 70 = .ok (.aload_n 0, 1) := by decide +kernel
theorem dX3_toldNow_71 : decode cX3_toldNow 71 = .ok (.invokevirtual 120, 3) := by decide +kernel
theorem dX3_toldNow_74 : decode cX3_toldNow 74 = .ok (.ireturn, 1) := by decide +kernel
set_option maxRecDepth 20000 in
theorem ggX3_told_X3_isThrown_ : GoodIn wsX3_told wsX3_isThrown_ := goodIn_rc _ [(0, 5), (0, 6), (0, 7), (0, 8), (0, 4), (0, 9), (0, 10), (1, 4), (1, 5), (1, 6), (1, 7), (1, 8), (1, 9), (1, 10), (1, 11), (1, 12), (1, 13), (1, 14)] (by rfl) (by decide +kernel)
set_option maxRecDepth 20000 in
theorem gX3_told_X3_isThrown_ : GoodIn wsX3_told (wsV RX3 98 RX3 yX3_isThrown_ wsX3_isThrown_) := goodIn_app (goodIn_of _ (by decide +kernel)) ggX3_told_X3_isThrown_
