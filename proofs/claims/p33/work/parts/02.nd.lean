set_option maxRecDepth 20000 in
theorem ggX3_told_X3_toldNow : GoodIn wsX3_told wsX3_toldNow := goodIn_rc _ [(0, 14), (0, 15), (0, 16), (0, 17), (0, 18), (0, 19), (0, 20), (0, 21), (0, 22), (0, 4), (0, 23), (0, 24), (0, 25), (0, 26), (0, 27), (0, 28), (0, 29), (0, 30), (0, 31), (1, 0), (1, 1), (1, 2), (1, 3), (1, 4), (1, 5), (1, 6), (1, 7), (1, 8), (1, 9), (1, 10), (1, 11), (1, 12), (1, 13), (1, 14)] (by rfl) (by decide +kernel)
set_option maxRecDepth 20000 in
theorem gX3_told_X3_toldNow : GoodIn wsX3_told (wsV RX3 123 RX3 yX3_toldNow wsX3_toldNow) := goodIn_app (goodIn_of _ (by decide +kernel)) ggX3_told_X3_toldNow
theorem dX3_told_0 : decode cX3_told 0 = .ok (.aload_n 0, 1) := by decide +kernel
theorem dX3_told_1 : decode cX3_told 1 = .ok (.iload_n 1, 1) := by decide +kernel
theorem dX3_told_2 : decode cX3_told 2 = .ok (.ifCond .lt 9, 3) := by decide +kernel
theorem dX3_told_5 : decode cX3_told 5 = .ok (.iload_n 1, 1) := by decide +kernel
theorem dX3_told_6 : decode cX3_told 6 = .ok (.bipush 6, 2) := by decide +kernel
theorem dX3_told_8 : decode cX3_told 8 = .ok (.if_icmp .le 7, 3) := by decide +kernel
theorem dX3_told_11 : decode cX3_told 11 = .ok (.iconst 1, 1) := by decide +kernel
theorem dX3_told_12 : decode cX3_told 12 = .ok (.goto 4, 3) := by decide +kernel
theorem dX3_told_15 : decode cX3_told 15 = .ok (.iconst 0, 1) := by decide +kernel
theorem dX3_told_16 : decode cX3_told 16 = .ok (.invokevirtual 98, 3) := by decide +kernel
theorem dX3_told_19 : decode cX3_told 19 = .ok (.ifCond .eq 7, 3) := by decide +kernel
theorem dX3_told_22 : decode cX3_told 22 = .ok (.iconst 0, 1) := by decide +kernel
theorem dX3_told_23 : decode cX3_told 23 = .ok (.goto 8, 3) := by decide +kernel
theorem dX3_told_26 : decode cX3_told 26 = .ok (.aload_n 0, 1) := by decide +kernel
theorem dX3_told_27 : decode cX3_told 27 = .ok (.iload_n 1, 1) := by decide +kernel
theorem dX3_told_28 : decode cX3_told 28 = .ok (.invokevirtual 123, 3) := by decide +kernel
theorem dX3_told_31 : decode cX3_told 31 = .ok (.ireturn, 1) := by decide +kernel
set_option maxRecDepth 20000 in
theorem ggX3_ofPlaceNow_X3_sideOf : GoodIn wsX3_ofPlaceNow wsX3_sideOf := goodIn_rc _ [(0, 9), (0, 10), (0, 14), (0, 15), (0, 16), (0, 17), (0, 18), (0, 19), (0, 20), (0, 21), (0, 22), (0, 23), (0, 24)] (by rfl) (by decide +kernel)
set_option maxRecDepth 20000 in
theorem gX3_ofPlaceNow_X3_sideOf : GoodIn wsX3_ofPlaceNow (wsV RX3 45 RX3 yX3_sideOf wsX3_sideOf) := goodIn_app (goodIn_of _ (by decide +kernel)) ggX3_ofPlaceNow_X3_sideOf
set_option maxRecDepth 20000 in
theorem ggX3_ofPlaceNow_X3_isIn : GoodIn wsX3_ofPlaceNow wsX3_isIn := goodIn_rc _ [(0, 13)] (by rfl) (by decide +kernel)
set_option maxRecDepth 20000 in
theorem gX3_ofPlaceNow_X3_isIn : GoodIn wsX3_ofPlaceNow (va_wsS RX3 77 yX3_isIn wsX3_isIn) := goodIn_app (goodIn_of _ (by decide +kernel)) ggX3_ofPlaceNow_X3_isIn
theorem dX3_ofPlaceNow_0 : decode cX3_ofPlaceNow 0 = .ok (.iload_n 2, 1) := by decide +kernel
theorem dX3_ofPlaceNow_1 : decode cX3_ofPlaceNow 1 = .ok (.tableswitch 60 0 3 #[31, 37, 44, 53], 31) := by decide +kernel
theorem dX3_ofPlaceNow_32 : decode cX3_ofPlaceNow 32 = .ok (.aload_n 0, 1) := by decide +kernel
theorem dX3_ofPlaceNow_33 : decode cX3_ofPlaceNow 33 = .ok (.iload_n 1, 1) := by decide +kernel
theorem dX3_ofPlaceNow_34 : decode cX3_ofPlaceNow 34 = .ok (.invokevirtual 45, 3) := by decide +kernel
theorem dX3_ofPlaceNow_37 : decode cX3_ofPlaceNow 37 = .ok (.ireturn, 1) := by decide +kernel
theorem dX3_ofPlaceNow_38 : decode cX3_ofPlaceNow 38 = .ok (.aload_n 0, 1) := by decide +kernel
theorem dX3_ofPlaceNow_39 : decode cX3_ofPlaceNow 39 = .ok (.getfield 26, 3) := by decide +kernel
theorem dX3_ofPlaceNow_42 : decode cX3_ofPlaceNow 42 = .ok (.iload_n 1, 1) := by decide +kernel
theorem dX3_ofPlaceNow_43 : decode cX3_ofPlaceNow 43 = .ok (.iaload, 1) := by decide +kernel
theorem dX3_ofPlaceNow_44 : decode cX3_ofPlaceNow 44 = .ok (.ireturn, 1) := by decide +kernel
theorem dX3_ofPlaceNow_45 : decode cX3_ofPlaceNow 45 = .ok (.aload_n 0, 1) := by decide +kernel
theorem dX3_ofPlaceNow_46 : decode cX3_ofPlaceNow 46 = .ok (.getfield 23, 3) := by decide +kernel
theorem dX3_ofPlaceNow_49 : decode cX3_ofPlaceNow 49 = .ok (.iload_n 1, 1) := by decide +kernel
theorem dX3_ofPlaceNow_50 : decode cX3_ofPlaceNow 50 = .ok (.ishr, 1) := by decide +kernel
theorem dX3_ofPlaceNow_51 : decode cX3_ofPlaceNow 51 = .ok (.iconst 1, 1) := by decide +kernel
theorem dX3_ofPlaceNow_52 : decode cX3_ofPlaceNow 52 = .ok (.iand, 1) := by decide +kernel
theorem dX3_ofPlaceNow_53 : decode cX3_ofPlaceNow 53 = .ok (.ireturn, 1) := by decide +kernel
theorem dX3_ofPlaceNow_54 : decode cX3_ofPlaceNow 54 = .ok (.aload_n 0, 1) := by decide +kernel
theorem dX3_ofPlaceNow_55 : decode cX3_ofPlaceNow 55 = .ok (.getfield 30, 3) := by decide +kernel
theorem dX3_ofPlaceNow_58 : decode cX3_ofPlaceNow 58 = .ok (.iload_n 1, 1) := by decide +kernel
theorem dX3_ofPlaceNow_59 : decode cX3_ofPlaceNow 59 = .ok (.iaload, 1) := by decide +kernel
theorem dX3_ofPlaceNow_60 : decode cX3_ofPlaceNow 60 = .ok (.ireturn, 1) := by decide +kernel
theorem dX3_ofPlaceNow_61 : decode cX3_ofPlaceNow 61 = .ok (.iconst 0, 1) := by decide +kernel
theorem dX3_ofPlaceNow_62 : decode cX3_ofPlaceNow 62 = .ok (.istore_n 3, 1) := by decide +kernel
theorem dX3_ofPlaceNow_63 : decode cX3_ofPlaceNow 63 = .ok (.iconst 0, 1) := by decide +kernel
theorem dX3_ofPlaceNow_64 : decode cX3_ofPlaceNow 64 = .ok (.istore 4, 2) := by decide +kernel
theorem dX3_ofPlaceNow_66 : decode cX3_ofPlaceNow 66 = .ok (.iload 4, 2) := by decide +kernel
theorem dX3_ofPlaceNow_68 : decode cX3_ofPlaceNow 68 = .ok (.aload_n 0, 1) := by decide +kernel
theorem dX3_ofPlaceNow_69 : decode cX3_ofPlaceNow 69 = .ok (.getfield 17, 3) := by decide +kernel
theorem dX3_ofPlaceNow_72 : decode cX3_ofPlaceNow 72 = .ok (.if_icmp .ge 34, 3) := by decide +kernel
theorem dX3_ofPlaceNow_75 : decode cX3_ofPlaceNow 75 = .ok (.iload_n 3, 1) := by decide +kernel
theorem dX3_ofPlaceNow_76 : decode cX3_ofPlaceNow 76 = .ok (.aload_n 0, 1) := by decide +kernel
theorem dX3_ofPlaceNow_77 : decode cX3_ofPlaceNow 77 = .ok (.getfield 30, 3) := by decide +kernel
theorem dX3_ofPlaceNow_80 : decode cX3_ofPlaceNow 80 = .ok (.iload 4, 2) := by decide +kernel
theorem dX3_ofPlaceNow_82 : decode cX3_ofPlaceNow 82 = .ok (.iaload, 1) := by decide +kernel
theorem dX3_ofPlaceNow_83 : decode cX3_ofPlaceNow 83 = .ok (.iload_n 1, 1) := by decide +kernel
theorem dX3_ofPlaceNow_84 : decode cX3_ofPlaceNow 84 = .ok (.invokestatic 77, 3) := by decide +kernel
theorem dX3_ofPlaceNow_87 : decode cX3_ofPlaceNow 87 = .ok (.ifCond .eq 10, 3) := by decide +kernel
theorem dX3_ofPlaceNow_90 : decode cX3_ofPlaceNow 90 = .ok (.iconst 1, 1) := by decide +kernel
theorem dX3_ofPlaceNow_91 : decode cX3_ofPlaceNow 91 = .ok (.iload 4, 2) := by decide +kernel
theorem dX3_ofPlaceNow_93 : decode cX3_ofPlaceNow 93 = .ok (.ishl, 1) := by decide +kernel
theorem dX3_ofPlaceNow_94 : decode cX3_ofPlaceNow 94 = .ok (.goto 4, 3) := by decide +kernel
theorem dX3_ofPlaceNow_97 : decode cX3_ofPlaceNow 97 = .ok (.iconst 0, 1) := by decide +kernel
theorem dX3_ofPlaceNow_98 : decode cX3_ofPlaceNow 98 = .ok (.ior, 1) := by decide +kernel
theorem dX3_ofPlaceNow_99 : decode cX3_ofPlaceNow 99 = .ok (.istore_n 3, 1) := by decide +kernel
theorem dX3_ofPlaceNow_100 : decode cX3_ofPlaceNow 100 = .ok (.iinc 4 1, 3) := by decide +kernel
theorem dX3_ofPlaceNow_103 : decode cX3_ofPlaceNow 103 = .ok (.goto (-37), 3) := by decide +kernel
theorem dX3_ofPlaceNow_106 : decode cX3_ofPlaceNow 106 = .ok (.iload_n 3, 1) := by decide +kernel
theorem dX3_ofPlaceNow_107 : decode cX3_ofPlaceNow 107 = .ok (.ireturn, 1) := by decide +kernel
set_option maxRecDepth 20000 in
theorem ggX3_ofPlace_X3_isPlace : GoodIn wsX3_ofPlace wsX3_isPlace := goodIn_rc _ [(0, 5), (0, 6), (0, 27), (0, 28), (0, 29), (0, 30), (0, 31), (1, 0), (1, 1), (1, 2), (1, 3), (1, 4), (1, 5)] (by rfl) (by decide +kernel)
set_option maxRecDepth 20000 in
theorem gX3_ofPlace_X3_isPlace : GoodIn wsX3_ofPlace (wsV RX3 104 RX3 yX3_isPlace wsX3_isPlace) := goodIn_app (goodIn_of _ (by decide +kernel)) ggX3_ofPlace_X3_isPlace
set_option maxRecDepth 20000 in
theorem ggX3_ofPlace_X3_isThrown : GoodIn wsX3_ofPlace wsX3_isThrown := goodIn_rc _ [(0, 10), (0, 11), (0, 27), (0, 28), (0, 29), (0, 30), (0, 31), (1, 0), (1, 1), (1, 2), (1, 3), (1, 4), (1, 5)] (by rfl) (by decide +kernel)
set_option maxRecDepth 20000 in
theorem gX3_ofPlace_X3_isThrown : GoodIn wsX3_ofPlace (wsV RX3 88 RX3 yX3_isThrown wsX3_isThrown) := goodIn_app (goodIn_of _ (by decide +kernel)) ggX3_ofPlace_X3_isThrown
set_option maxRecDepth 20000 in
theorem ggX3_ofPlace_X3_ofPlaceNow : GoodIn wsX3_ofPlace wsX3_ofPlaceNow := goodIn_rc _ [(0, 15), (0, 16), (0, 17), (0, 18), (0, 6), (0, 19), (0, 20), (0, 21), (0, 4), (0, 22), (0, 23), (0, 24), (0, 25), (0, 26), (0, 27), (0, 28), (0, 29), (0, 30), (0, 31), (1, 0), (1, 1), (1, 2), (1, 3), (1, 4), (1, 5)] (by rfl) (by decide +kernel)
set_option maxRecDepth 20000 in
theorem gX3_ofPlace_X3_ofPlaceNow : GoodIn wsX3_ofPlace (wsV RX3 126 RX3 yX3_ofPlaceNow wsX3_ofPlaceNow) := goodIn_app (goodIn_of _ (by decide +kernel)) ggX3_ofPlace_X3_ofPlaceNow
theorem dX3_ofPlace_0 : decode cX3_ofPlace 0 = .ok (.aload_n 0, 1) := by decide +kernel
theorem dX3_ofPlace_1 : decode cX3_ofPlace 1 = .ok (.aload_n 0, 1) := by decide +kernel
theorem dX3_ofPlace_2 : decode cX3_ofPlace 2 = .ok (.iload_n 1, 1) := by decide +kernel
theorem dX3_ofPlace_3 : decode cX3_ofPlace 3 = .ok (.invokevirtual 104, 3) := by decide +kernel
theorem dX3_ofPlace_6 : decode cX3_ofPlace 6 = .ok (.ifCond .ne 7, 3) := by decide +kernel
theorem dX3_ofPlace_9 : decode cX3_ofPlace 9 = .ok (.iconst 1, 1) := by decide +kernel
theorem dX3_ofPlace_10 : decode cX3_ofPlace 10 = .ok (.goto 4, 3) := by decide +kernel
theorem dX3_ofPlace_13 : decode cX3_ofPlace 13 = .ok (.iconst 0, 1) := by decide +kernel
theorem dX3_ofPlace_14 : decode cX3_ofPlace 14 = .ok (.iload_n 2, 1) := by decide +kernel
theorem dX3_ofPlace_15 : decode cX3_ofPlace 15 = .ok (.ifCond .lt 8, 3) := by decide +kernel
theorem dX3_ofPlace_18 : decode cX3_ofPlace 18 = .ok (.iload_n 2, 1) := by decide +kernel
theorem dX3_ofPlace_19 : decode cX3_ofPlace 19 = .ok (.iconst 4, 1) := by decide +kernel
theorem dX3_ofPlace_20 : decode cX3_ofPlace 20 = .ok (.if_icmp .le 7, 3) := by decide +kernel
theorem dX3_ofPlace_23 : decode cX3_ofPlace 23 = .ok (.iconst 1, 1) := by decide +kernel
theorem dX3_ofPlace_24 : decode cX3_ofPlace 24 = .ok (.goto 4, 3) := by decide +kernel
theorem dX3_ofPlace_27 : decode cX3_ofPlace 27 = .ok (.iconst 0, 1) := by decide +kernel
theorem dX3_ofPlace_28 : decode cX3_ofPlace 28 = .ok (.invokevirtual 88, 3) := by decide +kernel
theorem dX3_ofPlace_31 : decode cX3_ofPlace 31 = .ok (.ifCond .eq 7, 3) := by decide +kernel
theorem dX3_ofPlace_34 : decode cX3_ofPlace 34 = .ok (.iconst 0, 1) := by decide +kernel
theorem dX3_ofPlace_35 : decode cX3_ofPlace 35 = .ok (.goto 9, 3) := by decide +kernel
theorem dX3_ofPlace_38 : decode cX3_ofPlace 38 = .ok (.aload_n 0, 1) := by decide +kernel
theorem dX3_ofPlace_39 : decode cX3_ofPlace 39 = .ok (.iload_n 1, 1) := by decide +kernel
theorem dX3_ofPlace_40 : decode cX3_ofPlace 40 = .ok (.iload_n 2, 1) := by decide +kernel
theorem dX3_ofPlace_41 : decode cX3_ofPlace 41 = .ok (.invokevirtual 126, 3) := by decide +kernel
theorem dX3_ofPlace_44 : decode cX3_ofPlace 44 = .ok (.ireturn, 1) := by decide +kernel
set_option maxRecDepth 20000 in
theorem ggX3_isWay_X3_isPlace : GoodIn wsX3_isWay wsX3_isPlace := goodIn_rc _ [(0, 6), (0, 7), (0, 20), (0, 21), (0, 22), (0, 23), (0, 24), (0, 25), (0, 26), (0, 27), (0, 28), (0, 29), (0, 30)] (by rfl) (by decide +kernel)
set_option maxRecDepth 20000 in
theorem gX3_isWay_X3_isPlace : GoodIn wsX3_isWay (wsV RX3 104 RX3 yX3_isPlace wsX3_isPlace) := goodIn_app (goodIn_of _ (by decide +kernel)) ggX3_isWay_X3_isPlace
set_option maxRecDepth 20000 in
theorem ggX3_isWay_X3_isThrown_ : GoodIn wsX3_isWay wsX3_isThrown_ := goodIn_rc _ [(0, 11), (0, 12), (0, 13), (0, 14), (0, 5), (0, 15), (0, 16), (0, 20), (0, 21), (0, 22), (0, 23), (0, 24), (0, 25), (0, 26), (0, 27), (0, 28), (0, 29), (0, 30)] (by rfl) (by decide +kernel)
set_option maxRecDepth 20000 in
theorem gX3_isWay_X3_isThrown_ : GoodIn wsX3_isWay (wsV RX3 98 RX3 yX3_isThrown_ wsX3_isThrown_) := goodIn_app (goodIn_of _ (by decide +kernel)) ggX3_isWay_X3_isThrown_
set_option maxRecDepth 20000 in
theorem ggX3_isWay_X3_isIn : GoodIn wsX3_isWay wsX3_isIn := goodIn_rc _ [(0, 19)] (by rfl) (by decide +kernel)
set_option maxRecDepth 20000 in
theorem gX3_isWay_X3_isIn : GoodIn wsX3_isWay (va_wsS RX3 77 yX3_isIn wsX3_isIn) := goodIn_app (goodIn_of _ (by decide +kernel)) ggX3_isWay_X3_isIn
theorem dX3_isWay_0 : decode cX3_isWay 0 = .ok (.aload_n 0, 1) := by decide +kernel
theorem dX3_isWay_1 : decode cX3_isWay 1 = .ok (.aload_n 0, 1) := by decide +kernel
theorem dX3_isWay_2 : decode cX3_isWay 2 = .ok (.iload_n 1, 1) := by decide +kernel
theorem dX3_isWay_3 : decode cX3_isWay 3 = .ok (.invokevirtual 104, 3) := by decide +kernel
theorem dX3_isWay_6 : decode cX3_isWay 6 = .ok (.ifCond .eq 11, 3) := by decide +kernel
theorem dX3_isWay_9 : decode cX3_isWay 9 = .ok (.aload_n 0, 1) := by decide +kernel
theorem dX3_isWay_10 : decode cX3_isWay 10 = .ok (.iload_n 2, 1) := by decide +kernel
theorem dX3_isWay_11 : decode cX3_isWay 11 = .ok (.invokevirtual 104, 3) := by decide +kernel
theorem dX3_isWay_14 : decode cX3_isWay 14 = .ok (.ifCond .ne 7, 3) := by decide +kernel
theorem dX3_isWay_17 : decode cX3_isWay 17 = .ok (.iconst 1, 1) := by decide +kernel
theorem dX3_isWay_18 : decode cX3_isWay 18 = .ok (.goto 4, 3) := by decide +kernel
theorem dX3_isWay_21 : decode cX3_isWay 21 = .ok (.iconst 0, 1) := by decide +kernel
theorem dX3_isWay_22 : decode cX3_isWay 22 = .ok (.invokevirtual 98, 3) := by decide +kernel
theorem dX3_isWay_25 : decode cX3_isWay 25 = .ok (.ifCond .ne 20, 3) := by decide +kernel
theorem dX3_isWay_28 : decode cX3_isWay 28 = .ok (.aload_n 0, 1) := by decide +kernel
theorem dX3_isWay_29 : decode cX3_isWay 29 = .ok (.getfield 30, 3) := by decide +kernel
theorem dX3_isWay_32 : decode cX3_isWay 32 = .ok (.iload_n 1, 1) := by decide +kernel
theorem dX3_isWay_33 : decode cX3_isWay 33 = .ok (.iaload, 1) := by decide +kernel
theorem dX3_isWay_34 : decode cX3_isWay 34 = .ok (.iload_n 2, 1) := by decide +kernel
theorem dX3_isWay_35 : decode cX3_isWay 35 = .ok (.invokestatic 77, 3) := by decide +kernel
theorem dX3_isWay_38 : decode cX3_isWay 38 = .ok (.ifCond .eq 7, 3) := by decide +kernel
theorem dX3_isWay_41 : decode cX3_isWay 41 = .ok (.iconst 1, 1) := by decide +kernel
theorem dX3_isWay_42 : decode cX3_isWay 42 = .ok (.goto 4, 3) := by decide +kernel
theorem dX3_isWay_45 : decode cX3_isWay 45 = .ok (.iconst 0, 1) := by decide +kernel
theorem dX3_isWay_46 : decode cX3_isWay 46 = .ok (.ireturn, 1) := by decide +kernel
set_option maxRecDepth 20000 in
theorem ggX3_ways_X3_isPlace : GoodIn wsX3_ways wsX3_isPlace := goodIn_rc _ [(0, 10), (0, 4), (8, 5), (8, 6), (8, 7), (8, 8), (8, 9), (8, 10), (8, 11), (8, 12), (8, 13), (8, 14), (8, 15)] (by rfl) (by decide +kernel)
set_option maxRecDepth 20000 in
theorem gX3_ways_X3_isPlace : GoodIn wsX3_ways (wsV RX3 104 RX3 yX3_isPlace wsX3_isPlace) := goodIn_app (goodIn_of _ (by decide +kernel)) ggX3_ways_X3_isPlace
set_option maxRecDepth 20000 in
theorem ggX3_ways_X3_isThrown_ : GoodIn wsX3_ways wsX3_isThrown_ := goodIn_rc _ [(0, 14), (0, 15), (0, 16), (0, 17), (0, 9), (0, 18), (0, 19), (8, 5), (8, 6), (8, 7), (8, 8), (8, 9), (8, 10), (8, 11), (8, 12), (8, 13), (8, 14), (8, 15)] (by rfl) (by decide +kernel)
set_option maxRecDepth 20000 in
theorem gX3_ways_X3_isThrown_ : GoodIn wsX3_ways (wsV RX3 98 RX3 yX3_isThrown_ wsX3_isThrown_) := goodIn_app (goodIn_of _ (by decide +kernel)) ggX3_ways_X3_isThrown_
set_option maxRecDepth 20000 in
theorem ggX3_ways_J4_init_da8c8 : GoodIn wsX3_ways wsJ4_init_da8c8 := goodIn_rc _ [(0, 22), (0, 23), (0, 24), (0, 25), (0, 26), (0, 27), (0, 28), (0, 29), (0, 30), (0, 31), (1, 0), (1, 1), (1, 2), (1, 3), (1, 4), (1, 5), (1, 6), (1, 7), (1, 8), (1, 9), (8, 1), (8, 2), (8, 3), (8, 4)] (by rfl) (by decide +kernel)
set_option maxRecDepth 20000 in
theorem gX3_ways_J4_init_da8c8 : GoodIn wsX3_ways (wsJ4_init_da8c8) := ggX3_ways_J4_init_da8c8
set_option maxRecDepth 20000 in
theorem ggX3_ways_X3_isIn : GoodIn wsX3_ways wsX3_isIn := goodIn_rc _ [(1, 12)] (by rfl) (by decide +kernel)
set_option maxRecDepth 20000 in
theorem gX3_ways_X3_isIn : GoodIn wsX3_ways (va_wsS RX3 77 yX3_isIn wsX3_isIn) := goodIn_app (goodIn_of _ (by decide +kernel)) ggX3_ways_X3_isIn
set_option maxRecDepth 20000 in
theorem ggX3_ways_J4_length_8abf5 : GoodIn wsX3_ways wsJ4_length_8abf5 := goodIn_rc _ [(1, 16), (1, 17), (1, 18), (1, 19), (1, 20), (0, 25), (1, 21), (1, 22), (8, 1), (8, 2), (8, 3), (8, 4)] (by rfl) (by decide +kernel)
set_option maxRecDepth 20000 in
theorem gX3_ways_J4_length_8abf5 : GoodIn wsX3_ways (wsV RX3 134 RJ4 yJ4_length_8abf5 wsJ4_length_8abf5) := goodIn_app (goodIn_of _ (by decide +kernel)) ggX3_ways_J4_length_8abf5
set_option maxRecDepth 20000 in
theorem ggX3_ways_J4_append_15ec4 : GoodIn wsX3_ways wsJ4_append_15ec4 := goodIn_rc _ [(1, 26), (1, 27), (1, 28), (1, 19), (1, 29), (0, 25), (1, 30), (1, 22), (1, 31), (2, 0), (2, 1), (2, 2), (2, 3), (1, 0), (2, 4), (2, 5), (2, 6), (2, 7), (2, 8), (1, 1), (2, 9), (2, 10), (2, 11), (2, 12), (2, 13), (2, 14), (2, 15), (2, 16), (2, 17), (2, 18), (2, 19), (2, 20), (2, 21), (2, 22), (2, 23), (2, 24), (2, 25), (2, 26), (2, 27), (2, 28), (2, 29), (2, 30), (2, 31), (3, 0), (3, 1), (3, 2), (3, 3), (3, 4), (0, 31), (3, 5), (3, 6), (3, 7), (3, 8), (3, 9), (3, 10), (3, 11), (3, 12), (3, 13), (3, 14), (3, 15), (3, 16), (0, 30), (3, 17), (3, 18), (1, 4), (3, 19), (3, 20), (3, 21), (3, 22), (3, 23), (3, 24), (3, 25), (3, 26), (3, 27), (3, 28), (3, 29), (3, 30), (3, 31), (4, 0), (4, 1), (4, 2), (4, 3), (4, 4), (4, 5), (4, 6), (4, 7), (4, 8), (4, 9), (4, 10), (4, 11), (4, 12), (4, 13), (4, 14), (4, 15), (4, 16), (4, 17), (4, 18), (4, 19), (4, 20), (4, 21), (4, 22), (4, 23), (4, 24), (4, 25), (4, 26), (4, 27), (4, 28), (4, 29), (4, 30), (4, 31), (5, 0), (5, 1), (5, 2), (5, 3), (1, 2), (1, 3), (1, 5), (1, 6), (1, 7), (1, 8), (1, 9), (5, 4), (5, 5), (5, 6), (5, 7), (5, 8), (5, 9), (5, 10), (5, 11), (5, 12), (5, 13), (5, 14), (5, 15), (5, 16), (5, 17), (5, 18), (5, 19), (5, 20), (5, 21), (5, 22), (5, 23), (5, 24), (5, 25), (8, 1), (8, 2), (8, 3), (8, 4), (8, 16), (8, 17), (8, 18), (8, 19)] (by rfl) (by decide +kernel)
set_option maxRecDepth 20000 in
theorem gX3_ways_J4_append_15ec4 : GoodIn wsX3_ways (wsV RX3 139 RJ4 yJ4_append_15ec4 wsJ4_append_15ec4) := goodIn_app (goodIn_of _ (by decide +kernel)) ggX3_ways_J4_append_15ec4
set_option maxRecDepth 20000 in
theorem ggX3_ways_J4_append_bf812 : GoodIn wsX3_ways wsJ4_append_bf812 := goodIn_rc _ [(5, 29), (5, 30), (5, 31), (1, 19), (6, 0), (0, 25), (6, 1), (1, 22), (1, 0), (6, 2), (6, 3), (6, 4), (6, 5), (2, 4), (2, 5), (2, 6), (2, 7), (2, 8), (1, 1), (2, 9), (2, 10), (2, 11), (2, 12), (2, 13), (2, 14), (2, 15), (2, 16), (2, 17), (2, 18), (2, 19), (2, 20), (2, 21), (2, 22), (2, 23), (2, 24), (2, 25), (2, 26), (2, 27), (2, 28), (2, 29), (2, 30), (2, 31), (3, 0), (3, 1), (3, 2), (3, 3), (3, 4), (0, 31), (3, 5), (3, 6), (3, 7), (3, 8), (3, 9), (3, 10), (3, 11), (3, 12), (3, 13), (3, 14), (3, 15), (3, 16), (0, 30), (6, 6), (6, 7), (6, 8), (6, 9), (6, 10), (6, 11), (6, 12), (1, 4), (6, 13), (3, 20), (3, 21), (3, 22), (3, 23), (3, 24), (3, 25), (3, 26), (3, 27), (3, 28), (3, 29), (3, 30), (3, 31), (4, 0), (4, 1), (4, 2), (4, 3), (6, 14), (6, 15), (6, 16), (6, 17), (6, 18), (4, 4), (4, 5), (4, 6), (4, 7), (4, 8), (8, 1), (8, 2), (8, 3), (8, 4)] (by rfl) (by decide +kernel)
set_option maxRecDepth 20000 in
theorem gX3_ways_J4_append_bf812 : GoodIn wsX3_ways (wsV RX3 143 RJ4 yJ4_append_bf812 wsJ4_append_bf812) := goodIn_app (goodIn_of _ (by decide +kernel)) ggX3_ways_J4_append_bf812
set_option maxRecDepth 20000 in
theorem ggX3_ways_J4_toString_0e30d : GoodIn wsX3_ways wsJ4_toString_0e30d := goodIn_rc _ [(6, 22), (6, 23), (6, 24), (3, 29), (6, 25), (6, 26), (6, 27), (6, 28), (6, 29), (6, 30), (6, 31), (0, 28), (0, 29), (4, 19), (4, 13), (4, 18), (7, 0), (7, 1), (7, 2), (7, 3), (7, 4), (0, 25), (7, 5), (1, 0), (7, 6), (1, 18), (7, 7), (7, 8), (1, 14), (0, 3), (1, 16), (1, 17), (1, 19), (1, 20), (1, 21), (1, 22), (7, 9), (3, 13), (3, 14), (3, 15), (3, 16), (0, 30), (1, 1), (7, 10), (7, 11), (2, 29), (7, 12), (2, 31), (3, 0), (3, 1), (3, 2), (3, 3), (3, 4), (7, 13), (7, 14), (7, 15), (0, 31), (3, 5), (3, 6), (2, 21), (3, 7), (3, 8), (3, 9), (3, 10), (3, 11), (7, 16), (7, 17), (7, 18), (7, 19), (0, 2), (7, 20), (7, 21), (1, 4), (7, 22), (7, 23), (7, 24), (7, 25), (5, 11), (5, 12), (5, 13), (3, 24), (3, 25), (3, 26), (5, 14), (5, 15), (5, 16), (3, 31), (5, 17), (5, 18), (4, 2), (5, 19), (7, 26), (7, 27), (7, 28), (3, 20), (4, 7), (4, 8), (1, 6), (1, 7), (1, 8), (1, 9), (7, 29), (7, 30), (7, 31), (8, 0), (8, 16), (8, 17), (8, 18), (8, 19), (8, 1), (8, 2), (8, 3), (8, 4)] (by rfl) (by decide +kernel)
set_option maxRecDepth 20000 in
theorem gX3_ways_J4_toString_0e30d : GoodIn wsX3_ways (wsV RX3 146 RJ4 yJ4_toString_0e30d wsJ4_toString_0e30d) := goodIn_app (goodIn_of _ (by decide +kernel)) ggX3_ways_J4_toString_0e30d
theorem dX3_ways_0 : decode cX3_ways 0 = .ok (.aload_n 0, 1) := by decide +kernel
theorem dX3_ways_1 : decode cX3_ways 1 = .ok (.aload_n 0, 1) := by decide +kernel
theorem dX3_ways_2 : decode cX3_ways 2 = .ok (.iload_n 1, 1) := by decide +kernel
theorem dX3_ways_3 : decode cX3_ways 3 = .ok (.invokevirtual 104, 3) := by decide +kernel
theorem dX3_ways_6 : decode cX3_ways 6 = .ok (.ifCond .ne 7, 3) := by decide +kernel
theorem dX3_ways_9 : decode cX3_ways 9 = .ok (.iconst 1, 1) := by decide +kernel
theorem dX3_ways_10 : decode cX3_ways 10 = .ok (.goto 4, 3) := by decide +kernel
theorem dX3_ways_13 : decode cX3_ways 13 = .ok (.iconst 0, 1) := by decide +kernel
theorem dX3_ways_14 : decode cX3_ways 14 = .ok (.invokevirtual 98, 3) := by decide +kernel
theorem dX3_ways_17 : decode cX3_ways 17 = .ok (.ifCond .eq 6, 3) := by decide +kernel
theorem dX3_ways_20 : decode cX3_ways 20 = .ok (.ldc 129, 2) := by decide +kernel
theorem dX3_ways_22 : decode cX3_ways 22 = .ok (.areturn, 1) := by decide +kernel
theorem dX3_ways_23 : decode cX3_ways 23 = .ok (.new 131, 3) := by decide +kernel
theorem dX3_ways_26 : decode cX3_ways 26 = .ok (.dup, 1) := by decide +kernel
theorem dX3_ways_27 : decode cX3_ways 27 = .ok (.invokespecial 133, 3) := by decide +kernel
theorem dX3_ways_30 : decode cX3_ways 30 = .ok (.astore_n 2, 1) := by decide +kernel
theorem dX3_ways_31 : decode cX3_ways 31 = .ok (.iconst 0, 1) := by decide +kernel
theorem dX3_ways_32 : decode cX3_ways 32 = .ok (.istore_n 3, 1) := by decide +kernel
theorem dX3_ways_33 : decode cX3_ways 33 = .ok (.iload_n 3, 1) := by decide +kernel
theorem dX3_ways_34 : decode cX3_ways 34 = .ok (.aload_n 0, 1) := by decide +kernel
theorem dX3_ways_35 : decode cX3_ways 35 = .ok (.getfield 17, 3) := by decide +kernel
theorem dX3_ways_38 : decode cX3_ways 38 = .ok (.if_icmp .ge 45, 3) := by decide +kernel
theorem dX3_ways_41 : decode cX3_ways 41 = .ok (.aload_n 0, 1) := by decide +kernel
theorem dX3_ways_42 : decode cX3_ways 42 = .ok (.getfield 30, 3) := by decide +kernel
theorem dX3_ways_45 : decode cX3_ways 45 = .ok (.iload_n 1, 1) := by decide +kernel
theorem dX3_ways_46 : decode cX3_ways 46 = .ok (.iaload, 1) := by decide +kernel
theorem dX3_ways_47 : decode cX3_ways 47 = .ok (.iload_n 3, 1) := by decide +kernel
theorem dX3_ways_48 : decode cX3_ways 48 = .ok (.invokestatic 77, 3) := by decide +kernel
theorem dX3_ways_51 : decode cX3_ways 51 = .ok (.ifCond .eq 26, 3) := by decide +kernel
theorem dX3_ways_54 : decode cX3_ways 54 = .ok (.aload_n 2, 1) := by decide +kernel
theorem dX3_ways_55 : decode cX3_ways 55 = .ok (.aload_n 2, 1) := by decide +kernel
theorem dX3_ways_56 : decode cX3_ways 56 = .ok (.invokevirtual 134, 3) := by decide +kernel
theorem dX3_ways_59 : decode cX3_ways 59 = .ok (.ifCond .ne 8, 3) := by decide +kernel
theorem dX3_ways_62 : decode cX3_ways 62 = .ok (.ldc 129, 2) := by decide +kernel
theorem dX3_ways_64 : decode cX3_ways 64 = .ok (.goto 5, 3) := by decide +kernel
theorem dX3_ways_67 : decode cX3_ways 67 = .ok (.ldc 137, 2) := by decide +kernel
theorem dX3_ways_69 : decode cX3_ways 69 = .ok (.invokevirtual 139, 3) := by decide +kernel
theorem dX3_ways_72 : decode cX3_ways 72 = .ok (.iload_n 3, 1) := by decide +kernel
theorem dX3_ways_73 : decode cX3_ways 73 = .ok (.invokevirtual 143, 3) := by decide +kernel
theorem dX3_ways_76 : decode cX3_ways 76 = .ok (.pop, 1) := by decide +kernel
theorem dX3_ways_77 : decode cX3_ways 77 = .ok (.iinc 3 1, 3) := by decide +kernel
theorem dX3_ways_80 : decode cX3_ways 80 = .ok (.goto (-47), 3) := by decide +kernel
theorem dX3_ways_83 : decode cX3_ways 83 = .ok (.aload_n 2, 1) := by decide +kernel
theorem dX3_ways_84 : decode cX3_ways 84 = .ok (.invokevirtual 146, 3) := by decide +kernel
theorem dX3_ways_87 : decode cX3_ways 87 = .ok (.areturn, 1) := by decide +kernel
set_option maxRecDepth 20000 in
theorem ggX3_ahead_X3_all : GoodIn wsX3_ahead wsX3_all := goodIn_rc _ [(0, 5), (0, 6), (0, 29), (0, 30), (0, 31), (1, 0), (1, 1), (1, 2), (1, 3), (1, 4), (1, 5), (1, 6), (1, 7)] (by rfl) (by decide +kernel)
set_option maxRecDepth 20000 in
theorem gX3_ahead_X3_all : GoodIn wsX3_ahead (wsV RX3 55 RX3 yX3_all wsX3_all) := goodIn_app (goodIn_of _ (by decide +kernel)) ggX3_ahead_X3_all
set_option maxRecDepth 20000 in
theorem ggX3_ahead_X3_isSide : GoodIn wsX3_ahead wsX3_isSide := goodIn_rc _ [(0, 9)] (by rfl) (by decide +kernel)
set_option maxRecDepth 20000 in
theorem gX3_ahead_X3_isSide : GoodIn wsX3_ahead (va_wsS RX3 108 yX3_isSide wsX3_isSide) := goodIn_app (goodIn_of _ (by decide +kernel)) ggX3_ahead_X3_isSide
set_option maxRecDepth 20000 in
theorem ggX3_ahead_X3_isThrown_ : GoodIn wsX3_ahead wsX3_isThrown_ := goodIn_rc _ [(0, 13), (0, 14), (0, 15), (0, 16), (0, 4), (0, 17), (0, 18), (0, 29), (0, 30), (0, 31), (1, 0), (1, 1), (1, 2), (1, 3), (1, 4), (1, 5), (1, 6), (1, 7)] (by rfl) (by decide +kernel)
set_option maxRecDepth 20000 in
theorem gX3_ahead_X3_isThrown_ : GoodIn wsX3_ahead (wsV RX3 98 RX3 yX3_isThrown_ wsX3_isThrown_) := goodIn_app (goodIn_of _ (by decide +kernel)) ggX3_ahead_X3_isThrown_
set_option maxRecDepth 20000 in
theorem ggX3_ahead_X3_aheadOf : GoodIn wsX3_ahead wsX3_aheadOf := goodIn_rc _ [(0, 22), (0, 6), (0, 23), (0, 24), (0, 25), (0, 26), (0, 4), (0, 27), (0, 28), (0, 29), (0, 30), (0, 31), (1, 0), (1, 1), (1, 2), (1, 3), (1, 4), (1, 5), (1, 6), (1, 7)] (by rfl) (by decide +kernel)
set_option maxRecDepth 20000 in
theorem gX3_ahead_X3_aheadOf : GoodIn wsX3_ahead (wsV RX3 48 RX3 yX3_aheadOf wsX3_aheadOf) := goodIn_app (goodIn_of _ (by decide +kernel)) ggX3_ahead_X3_aheadOf
theorem dX3_ahead_0 : decode cX3_ahead 0 = .ok (.aload_n 0, 1) := by decide +kernel
theorem dX3_ahead_1 : decode cX3_ahead 1 = .ok (.iload_n 1, 1) := by decide +kernel
theorem dX3_ahead_2 : decode cX3_ahead 2 = .ok (.ifCond .lt 18, 3) := by decide +kernel
theorem dX3_ahead_5 : decode cX3_ahead 5 = .ok (.iload_n 1, 1) := by decide +kernel
theorem dX3_ahead_6 : decode cX3_ahead 6 = .ok (.aload_n 0, 1) := by decide +kernel
theorem dX3_ahead_7 : decode cX3_ahead 7 = .ok (.invokevirtual 55, 3) := by decide +kernel
theorem dX3_ahead_10 : decode cX3_ahead 10 = .ok (.if_icmp .gt 10, 3) := by decide +kernel
theorem dX3_ahead_13 : decode cX3_ahead 13 = .ok (.iload_n 2, 1) := by decide +kernel
theorem dX3_ahead_14 : decode cX3_ahead 14 = .ok (.invokestatic 108, 3) := by decide +kernel
theorem dX3_ahead_17 : decode cX3_ahead 17 = .ok (.ifCond .ne 7, 3) := by decide +kernel
theorem dX3_ahead_20 : decode cX3_ahead 20 = .ok (.iconst 1, 1) := by decide +kernel
theorem dX3_ahead_21 : decode cX3_ahead 21 = .ok (.goto 4, 3) := by decide +kernel
theorem dX3_ahead_24 : decode cX3_ahead 24 = .ok (.iconst 0, 1) := by decide +kernel
theorem dX3_ahead_25 : decode cX3_ahead 25 = .ok (.invokevirtual 98, 3) := by decide +kernel
theorem dX3_ahead_28 : decode cX3_ahead 28 = .ok (.ifCond .eq 7, 3) := by decide +kernel
theorem dX3_ahead_31 : decode cX3_ahead 31 = .ok (.iconst 0, 1) := by decide +kernel
theorem dX3_ahead_32 : decode cX3_ahead 32 = .ok (.goto 9, 3) := by decide +kernel
theorem dX3_ahead_35 : decode cX3_ahead 35 = .ok (.aload_n 0, 1) := by decide +kernel
theorem dX3_ahead_36 : decode cX3_ahead 36 = .ok (.iload_n 1, 1) := by decide +kernel
theorem dX3_ahead_37 : decode cX3_ahead 37 = .ok (.iload_n 2, 1) := by decide +kernel
theorem dX3_ahead_38 : decode cX3_ahead 38 = .ok (.invokevirtual 48, 3) := by decide +kernel
theorem dX3_ahead_41 : decode cX3_ahead 41 = .ok (.ireturn, 1) := by decide +kernel
set_option maxRecDepth 20000 in
theorem ggX3_coming_X3_isSide : GoodIn wsX3_coming wsX3_isSide := goodIn_rc _ [(0, 4)] (by rfl) (by decide +kernel)
set_option maxRecDepth 20000 in
theorem gX3_coming_X3_isSide : GoodIn wsX3_coming (va_wsS RX3 108 yX3_isSide wsX3_isSide) := goodIn_app (goodIn_of _ (by decide +kernel)) ggX3_coming_X3_isSide
set_option maxRecDepth 20000 in
theorem ggX3_coming_X3_isThrown_ : GoodIn wsX3_coming wsX3_isThrown_ := goodIn_rc _ [(0, 8), (0, 9), (0, 10), (0, 11), (0, 3), (0, 12), (0, 13), (1, 2), (1, 3), (1, 4), (1, 5), (1, 6), (1, 7), (1, 8), (1, 9), (1, 10), (1, 11), (1, 12)] (by rfl) (by decide +kernel)
set_option maxRecDepth 20000 in
theorem gX3_coming_X3_isThrown_ : GoodIn wsX3_coming (wsV RX3 98 RX3 yX3_isThrown_ wsX3_isThrown_) := goodIn_app (goodIn_of _ (by decide +kernel)) ggX3_coming_X3_isThrown_
set_option maxRecDepth 20000 in
theorem ggX3_coming_X3_comingOf : GoodIn wsX3_coming wsX3_comingOf := goodIn_rc _ [(0, 17), (0, 18), (0, 19), (0, 20), (0, 21), (0, 3), (0, 22), (0, 23), (0, 24), (0, 25), (0, 26), (0, 27), (0, 28), (0, 29), (0, 30), (0, 31), (1, 0), (1, 1), (1, 2), (1, 3), (1, 4), (1, 5), (1, 6), (1, 7), (1, 8), (1, 9), (1, 10), (1, 11), (1, 12)] (by rfl) (by decide +kernel)
set_option maxRecDepth 20000 in
theorem gX3_coming_X3_comingOf : GoodIn wsX3_coming (wsV RX3 59 RX3 yX3_comingOf wsX3_comingOf) := goodIn_app (goodIn_of _ (by decide +kernel)) ggX3_coming_X3_comingOf
theorem dX3_coming_0 : decode cX3_coming 0 = .ok (.aload_n 0, 1) := by decide +kernel
theorem dX3_coming_1 : decode cX3_coming 1 = .ok (.iload_n 1, 1) := by decide +kernel
theorem dX3_coming_2 : decode cX3_coming 2 = .ok (.invokestatic 108, 3) := by decide +kernel
theorem dX3_coming_5 : decode cX3_coming 5 = .ok (.ifCond .ne 7, 3) := by decide +kernel
theorem dX3_coming_8 : decode cX3_coming 8 = .ok (.iconst 1, 1) := by decide +kernel
theorem dX3_coming_9 : decode cX3_coming 9 = .ok (.goto 4, 3) := by decide +kernel
theorem dX3_coming_12 : decode cX3_coming 12 = .ok (.iconst 0, 1) := by decide +kernel
theorem dX3_coming_13 : decode cX3_coming 13 = .ok (.invokevirtual 98, 3) := by decide +kernel
theorem dX3_coming_16 : decode cX3_coming 16 = .ok (.ifCond .eq 7, 3) := by decide +kernel
theorem dX3_coming_19 : decode cX3_coming 19 = .ok (.iconst 0, 1) := by decide +kernel
theorem dX3_coming_20 : decode cX3_coming 20 = .ok (.goto 8, 3) := by decide +kernel
theorem dX3_coming_23 : decode cX3_coming 23 = .ok (.aload_n 0, 1) := by decide +kernel
theorem dX3_coming_24 : decode cX3_coming 24 = .ok (.iload_n 1, 1) := by decide +kernel
theorem dX3_coming_25 : decode cX3_coming 25 = .ok (.invokevirtual 59, 3) := by decide +kernel
theorem dX3_coming_28 : decode cX3_coming 28 = .ok (.ireturn, 1) := by decide +kernel
set_option maxRecDepth 20000 in
theorem ggX3_keeping_X3_isSide : GoodIn wsX3_keeping wsX3_isSide := goodIn_rc _ [(0, 4)] (by rfl) (by decide +kernel)
set_option maxRecDepth 20000 in
theorem gX3_keeping_X3_isSide : GoodIn wsX3_keeping (va_wsS RX3 108 yX3_isSide wsX3_isSide) := goodIn_app (goodIn_of _ (by decide +kernel)) ggX3_keeping_X3_isSide
set_option maxRecDepth 20000 in
theorem ggX3_keeping_X3_isThrown_ : GoodIn wsX3_keeping wsX3_isThrown_ := goodIn_rc _ [(0, 8), (0, 9), (0, 10), (0, 11), (0, 3), (0, 12), (0, 13), (1, 10), (1, 11), (1, 12), (1, 13), (1, 14), (1, 15), (1, 16), (1, 17), (1, 18), (1, 19), (1, 20)] (by rfl) (by decide +kernel)
set_option maxRecDepth 20000 in
theorem gX3_keeping_X3_isThrown_ : GoodIn wsX3_keeping (wsV RX3 98 RX3 yX3_isThrown_ wsX3_isThrown_) := goodIn_app (goodIn_of _ (by decide +kernel)) ggX3_keeping_X3_isThrown_
set_option maxRecDepth 20000 in
theorem ggX3_keeping_X3_keepingOf : GoodIn wsX3_keeping wsX3_keepingOf := goodIn_rc _ [(0, 17), (0, 18), (0, 19), (0, 20), (0, 3), (0, 21), (0, 22), (0, 23), (0, 24), (0, 25), (0, 26), (0, 27), (0, 28), (0, 29), (0, 30), (0, 31), (1, 0), (1, 1), (1, 2), (1, 3), (1, 4), (1, 5), (1, 6), (1, 7), (1, 8), (1, 9), (1, 10), (1, 11), (1, 12), (1, 13), (1, 14), (1, 15), (1, 16), (1, 17), (1, 18), (1, 19), (1, 20)] (by rfl) (by decide +kernel)
set_option maxRecDepth 20000 in
theorem gX3_keeping_X3_keepingOf : GoodIn wsX3_keeping (wsV RX3 68 RX3 yX3_keepingOf wsX3_keepingOf) := goodIn_app (goodIn_of _ (by decide +kernel)) ggX3_keeping_X3_keepingOf
theorem dX3_keeping_0 : decode cX3_keeping 0 = .ok (.aload_n 0, 1) := by decide +kernel
theorem dX3_keeping_1 : decode cX3_keeping 1 = .ok (.iload_n 1, 1) := by decide +kernel
theorem dX3_keeping_2 : decode cX3_keeping 2 = .ok (.invokestatic 108, 3) := by decide +kernel
theorem dX3_keeping_5 : decode cX3_keeping 5 = .ok (.ifCond .ne 7, 3) := by decide +kernel
theorem dX3_keeping_8 : decode cX3_keeping 8 = .ok (.iconst 1, 1) := by decide +kernel
theorem dX3_keeping_9 : decode cX3_keeping 9 = .ok (.goto 4, 3) := by decide +kernel
theorem dX3_keeping_12 : decode cX3_keeping 12 = .ok (.iconst 0, 1) := by decide +kernel
theorem dX3_keeping_13 : decode cX3_keeping 13 = .ok (.invokevirtual 98, 3) := by decide +kernel
theorem dX3_keeping_16 : decode cX3_keeping 16 = .ok (.ifCond .eq 7, 3) := by decide +kernel
theorem dX3_keeping_19 : decode cX3_keeping 19 = .ok (.iconst 0, 1) := by decide +kernel
theorem dX3_keeping_20 : decode cX3_keeping 20 = .ok (.goto 8, 3) := by decide +kernel
theorem dX3_keeping_23 : decode cX3_keeping 23 = .ok (.aload_n 0, 1) := by decide +kernel
theorem dX3_keeping_24 : decode cX3_keeping 24 = .ok (.iload_n 1, 1) := by decide +kernel
theorem dX3_keeping_25 : decode cX3_keeping 25 = .ok (.invokevirtual 68, 3) := by decide +kernel
theorem dX3_keeping_28 : decode cX3_keeping 28 = .ok (.ireturn, 1) := by decide +kernel
set_option maxRecDepth 20000 in
theorem ggX3_again_X3_isSide : GoodIn wsX3_again wsX3_isSide := goodIn_rc _ [(0, 4)] (by rfl) (by decide +kernel)
set_option maxRecDepth 20000 in
theorem gX3_again_X3_isSide : GoodIn wsX3_again (va_wsS RX3 108 yX3_isSide wsX3_isSide) := goodIn_app (goodIn_of _ (by decide +kernel)) ggX3_again_X3_isSide
set_option maxRecDepth 20000 in
theorem ggX3_again_X3_isThrown_ : GoodIn wsX3_again wsX3_isThrown_ := goodIn_rc _ [(0, 8), (0, 9), (0, 10), (0, 11), (0, 3), (0, 12), (0, 13), (1, 10), (1, 11), (1, 12), (1, 13), (1, 14), (1, 15), (1, 16), (1, 17), (1, 18), (1, 19), (1, 20)] (by rfl) (by decide +kernel)
set_option maxRecDepth 20000 in
theorem gX3_again_X3_isThrown_ : GoodIn wsX3_again (wsV RX3 98 RX3 yX3_isThrown_ wsX3_isThrown_) := goodIn_app (goodIn_of _ (by decide +kernel)) ggX3_again_X3_isThrown_
set_option maxRecDepth 20000 in
theorem ggX3_again_X3_againOf : GoodIn wsX3_again wsX3_againOf := goodIn_rc _ [(0, 17), (0, 18), (0, 19), (0, 20), (0, 3), (0, 21), (0, 22), (0, 23), (0, 24), (0, 25), (0, 26), (0, 27), (0, 28), (0, 29), (0, 30), (0, 31), (1, 0), (1, 1), (1, 2), (1, 3), (1, 4), (1, 5), (1, 6), (1, 7), (1, 8), (1, 9), (1, 10), (1, 11), (1, 12), (1, 13), (1, 14), (1, 15), (1, 16), (1, 17), (1, 18), (1, 19), (1, 20)] (by rfl) (by decide +kernel)
set_option maxRecDepth 20000 in
theorem gX3_again_X3_againOf : GoodIn wsX3_again (wsV RX3 71 RX3 yX3_againOf wsX3_againOf) := goodIn_app (goodIn_of _ (by decide +kernel)) ggX3_again_X3_againOf
theorem dX3_again_0 : decode cX3_again 0 = .ok (.aload_n 0, 1) := by decide +kernel
theorem dX3_again_1 : decode cX3_again 1 = .ok (.iload_n 1, 1) := by decide +kernel
theorem dX3_again_2 : decode cX3_again 2 = .ok (.invokestatic 108, 3) := by decide +kernel
theorem dX3_again_5 : decode cX3_again 5 = .ok (.ifCond .ne 7, 3) := by decide +kernel
theorem dX3_again_8 : decode cX3_again 8 = .ok (.iconst 1, 1) := by decide +kernel
theorem dX3_again_9 : decode cX3_again 9 = .ok (.goto 4, 3) := by decide +kernel
theorem dX3_again_12 : decode cX3_again 12 = .ok (.iconst 0, 1) := by decide +kernel
theorem dX3_again_13 : decode cX3_again 13 = .ok (.invokevirtual 98, 3) := by decide +kernel
theorem dX3_again_16 : decode cX3_again 16 = .ok (.ifCond .eq 7, 3) := by decide +kernel
theorem dX3_again_19 : decode cX3_again 19 = .ok (.iconst 0, 1) := by decide +kernel
theorem dX3_again_20 : decode cX3_again 20 = .ok (.goto 8, 3) := by decide +kernel
theorem dX3_again_23 : decode cX3_again 23 = .ok (.aload_n 0, 1) := by decide +kernel
theorem dX3_again_24 : decode cX3_again 24 = .ok (.iload_n 1, 1) := by decide +kernel
theorem dX3_again_25 : decode cX3_again 25 = .ok (.invokevirtual 71, 3) := by decide +kernel
theorem dX3_again_28 : decode cX3_again 28 = .ok (.ireturn, 1) := by decide +kernel
set_option maxRecDepth 20000 in
theorem ggX3_ranked_X3_isSide : GoodIn wsX3_ranked wsX3_isSide := goodIn_rc _ [(0, 4)] (by rfl) (by decide +kernel)
set_option maxRecDepth 20000 in
theorem gX3_ranked_X3_isSide : GoodIn wsX3_ranked (va_wsS RX3 108 yX3_isSide wsX3_isSide) := goodIn_app (goodIn_of _ (by decide +kernel)) ggX3_ranked_X3_isSide
set_option maxRecDepth 20000 in
theorem ggX3_ranked_X3_isThrown_ : GoodIn wsX3_ranked wsX3_isThrown_ := goodIn_rc _ [(0, 8), (0, 9), (0, 10), (0, 11), (0, 3), (0, 12), (0, 13), (1, 31), (2, 0), (2, 1), (2, 2), (2, 3), (2, 4), (2, 5), (2, 6), (2, 7), (2, 8), (2, 9)] (by rfl) (by decide +kernel)
set_option maxRecDepth 20000 in
theorem gX3_ranked_X3_isThrown_ : GoodIn wsX3_ranked (wsV RX3 98 RX3 yX3_isThrown_ wsX3_isThrown_) := goodIn_app (goodIn_of _ (by decide +kernel)) ggX3_ranked_X3_isThrown_
set_option maxRecDepth 20000 in
theorem ggX3_ranked_X3_wonIn : GoodIn wsX3_ranked wsX3_wonIn := goodIn_rc _ [(0, 17), (0, 18), (0, 19), (0, 20), (0, 3), (0, 21), (0, 22), (0, 23), (0, 24), (0, 25), (0, 26), (0, 27), (0, 28), (0, 29), (0, 30), (0, 31), (1, 0), (1, 1), (1, 2), (1, 3), (1, 4), (1, 5), (1, 6), (1, 7), (1, 8), (1, 9), (1, 10), (1, 11), (1, 12), (1, 13), (1, 14), (1, 15), (1, 16), (1, 17), (1, 18), (1, 19), (1, 20), (1, 21), (1, 22), (1, 23), (1, 24), (1, 25), (1, 26), (1, 27), (1, 28), (1, 29), (1, 30), (1, 31), (2, 0), (2, 1), (2, 2), (2, 3), (2, 4), (2, 5), (2, 6), (2, 7), (2, 8), (2, 9)] (by rfl) (by decide +kernel)
set_option maxRecDepth 20000 in
theorem gX3_ranked_X3_wonIn : GoodIn wsX3_ranked (wsV RX3 81 RX3 yX3_wonIn wsX3_wonIn) := goodIn_app (goodIn_of _ (by decide +kernel)) ggX3_ranked_X3_wonIn
theorem dX3_ranked_0 : decode cX3_ranked 0 = .ok (.aload_n 0, 1) := by decide +kernel
theorem dX3_ranked_1 : decode cX3_ranked 1 = .ok (.iload_n 1, 1) := by decide +kernel
theorem dX3_ranked_2 : decode cX3_ranked 2 = .ok (.invokestatic 108, 3) := by decide +kernel
theorem dX3_ranked_5 : decode cX3_ranked 5 = .ok (.ifCond .ne 7, 3) := by decide +kernel
theorem dX3_ranked_8 : decode cX3_ranked 8 = .ok (.iconst 1, 1) := by decide +kernel
theorem dX3_ranked_9 : decode cX3_ranked 9 = .ok (.goto 4, 3) := by decide +kernel
theorem dX3_ranked_12 : decode cX3_ranked 12 = .ok (.iconst 0, 1) := by decide +kernel
theorem dX3_ranked_13 : decode cX3_ranked 13 = .ok (.invokevirtual 98, 3) := by decide +kernel
theorem dX3_ranked_16 : decode cX3_ranked 16 = .ok (.ifCond .eq 7, 3) := by decide +kernel
theorem dX3_ranked_19 : decode cX3_ranked 19 = .ok (.iconst 0, 1) := by decide +kernel
theorem dX3_ranked_20 : decode cX3_ranked 20 = .ok (.goto 9, 3) := by decide +kernel
theorem dX3_ranked_23 : decode cX3_ranked 23 = .ok (.aload_n 0, 1) := by decide +kernel
theorem dX3_ranked_24 : decode cX3_ranked 24 = .ok (.iconst 3, 1) := by decide +kernel
theorem dX3_ranked_25 : decode cX3_ranked 25 = .ok (.iload_n 1, 1) := by decide +kernel
theorem dX3_ranked_26 : decode cX3_ranked 26 = .ok (.invokevirtual 81, 3) := by decide +kernel
theorem dX3_ranked_29 : decode cX3_ranked 29 = .ok (.ireturn, 1) := by decide +kernel
set_option maxRecDepth 20000 in
theorem ggX3_winner_X3_isPlace : GoodIn wsX3_winner wsX3_isPlace := goodIn_rc _ [(0, 5), (0, 6), (1, 31), (2, 0), (2, 1), (2, 2), (2, 3), (2, 4), (2, 5), (2, 6), (2, 7), (2, 8), (2, 9)] (by rfl) (by decide +kernel)
set_option maxRecDepth 20000 in
theorem gX3_winner_X3_isPlace : GoodIn wsX3_winner (wsV RX3 104 RX3 yX3_isPlace wsX3_isPlace) := goodIn_app (goodIn_of _ (by decide +kernel)) ggX3_winner_X3_isPlace
set_option maxRecDepth 20000 in
theorem ggX3_winner_X3_isThrown : GoodIn wsX3_winner wsX3_isThrown := goodIn_rc _ [(0, 10), (0, 11), (1, 31), (2, 0), (2, 1), (2, 2), (2, 3), (2, 4), (2, 5), (2, 6), (2, 7), (2, 8), (2, 9)] (by rfl) (by decide +kernel)
set_option maxRecDepth 20000 in
theorem gX3_winner_X3_isThrown : GoodIn wsX3_winner (wsV RX3 88 RX3 yX3_isThrown wsX3_isThrown) := goodIn_app (goodIn_of _ (by decide +kernel)) ggX3_winner_X3_isThrown
set_option maxRecDepth 20000 in
theorem ggX3_winner_X3_wonIn : GoodIn wsX3_winner wsX3_wonIn := goodIn_rc _ [(0, 15), (0, 16), (0, 17), (0, 18), (0, 4), (0, 19), (0, 20), (0, 21), (0, 22), (0, 23), (0, 24), (0, 25), (0, 26), (0, 27), (0, 28), (0, 6), (0, 29), (0, 30), (0, 31), (1, 0), (1, 1), (1, 2), (1, 3), (1, 4), (1, 5), (1, 6), (1, 7), (1, 8), (1, 9), (1, 10), (1, 11), (1, 12), (1, 13), (1, 14), (1, 15), (1, 16), (1, 17), (1, 18), (1, 19), (1, 20), (1, 21), (1, 22), (1, 23), (1, 24), (1, 25), (1, 26), (1, 27), (1, 31), (2, 0), (2, 1), (2, 2), (2, 3), (2, 4), (2, 5), (2, 6), (2, 7), (2, 8), (2, 9)] (by rfl) (by decide +kernel)
set_option maxRecDepth 20000 in
theorem gX3_winner_X3_wonIn : GoodIn wsX3_winner (wsV RX3 81 RX3 yX3_wonIn wsX3_wonIn) := goodIn_app (goodIn_of _ (by decide +kernel)) ggX3_winner_X3_wonIn
set_option maxRecDepth 20000 in
theorem ggX3_winner_X3_isIn : GoodIn wsX3_winner wsX3_isIn := goodIn_rc _ [(1, 30)] (by rfl) (by decide +kernel)
set_option maxRecDepth 20000 in
theorem gX3_winner_X3_isIn : GoodIn wsX3_winner (va_wsS RX3 77 yX3_isIn wsX3_isIn) := goodIn_app (goodIn_of _ (by decide +kernel)) ggX3_winner_X3_isIn
theorem dX3_winner_0 : decode cX3_winner 0 = .ok (.aload_n 0, 1) := by decide +kernel
theorem dX3_winner_1 : decode cX3_winner 1 = .ok (.aload_n 0, 1) := by decide +kernel
theorem dX3_winner_2 : decode cX3_winner 2 = .ok (.iload_n 2, 1) := by decide +kernel
theorem dX3_winner_3 : decode cX3_winner 3 = .ok (.invokevirtual 104, 3) := by decide +kernel
theorem dX3_winner_6 : decode cX3_winner 6 = .ok (.ifCond .ne 7, 3) := by decide +kernel
theorem dX3_winner_9 : decode cX3_winner 9 = .ok (.iconst 1, 1) := by decide +kernel
theorem dX3_winner_10 : decode cX3_winner 10 = .ok (.goto 4, 3) := by decide +kernel
theorem dX3_winner_13 : decode cX3_winner 13 = .ok (.iconst 0, 1) := by decide +kernel
theorem dX3_winner_14 : decode cX3_winner 14 = .ok (.iload_n 1, 1) := by decide +kernel
theorem dX3_winner_15 : decode cX3_winner 15 = .ok (.ifCond .lt 8, 3) := by decide +kernel
theorem dX3_winner_18 : decode cX3_winner 18 = .ok (.iload_n 1, 1) := by decide +kernel
theorem dX3_winner_19 : decode cX3_winner 19 = .ok (.iconst 4, 1) := by decide +kernel
theorem dX3_winner_20 : decode cX3_winner 20 = .ok (.if_icmp .le 7, 3) := by decide +kernel
theorem dX3_winner_23 : decode cX3_winner 23 = .ok (.iconst 1, 1) := by decide +kernel
theorem dX3_winner_24 : decode cX3_winner 24 = .ok (.goto 4, 3) := by decide +kernel
theorem dX3_winner_27 : decode cX3_winner 27 = .ok (.iconst 0, 1) := by decide +kernel
theorem dX3_winner_28 : decode cX3_winner 28 = .ok (.invokevirtual 88, 3) := by decide +kernel
theorem dX3_winner_31 : decode cX3_winner 31 = .ok (.ifCond .eq 5, 3) := by decide +kernel
theorem dX3_winner_34 : decode cX3_winner 34 = .ok (.iconst 0, 1) := by decide +kernel
theorem dX3_winner_35 : decode cX3_winner 35 = .ok (.ireturn, 1) := by decide +kernel
theorem dX3_winner_36 : decode cX3_winner 36 = .ok (.iload_n 1, 1) := by decide +kernel
theorem dX3_winner_37 : decode cX3_winner 37 = .ok (.iconst 4, 1) := by decide +kernel
theorem dX3_winner_38 : decode cX3_winner 38 = .ok (.if_icmp .ne 7, 3) := by decide +kernel
theorem dX3_winner_41 : decode cX3_winner 41 = .ok (.iconst 0, 1) := by decide +kernel
theorem dX3_winner_42 : decode cX3_winner 42 = .ok (.goto 6, 3) := by decide +kernel
theorem dX3_winner_45 : decode cX3_winner 45 = .ok (.iload_n 1, 1) := by decide +kernel
theorem dX3_winner_46 : decode cX3_winner 46 = .ok (.iconst 2, 1) := by decide +kernel
theorem dX3_winner_47 : decode cX3_winner 47 = .ok (.irem, 1) := by decide +kernel
theorem dX3_winner_48 : decode cX3_winner 48 = .ok (.istore_n 3, 1) := by decide +kernel
theorem dX3_winner_49 : decode cX3_winner 49 = .ok (.aload_n 0, 1) := by decide +kernel
theorem dX3_winner_50 : decode cX3_winner 50 = .ok (.iload_n 1, 1) := by decide +kernel
theorem dX3_winner_51 : decode cX3_winner 51 = .ok (.iconst 4, 1) := by decide +kernel
theorem dX3_winner_52 : decode cX3_winner 52 = .ok (.if_icmp .ne 7, 3) := by decide +kernel
theorem dX3_winner_55 : decode cX3_winner 55 = .ok (.iconst 3, 1) := by decide +kernel
theorem dX3_winner_56 : decode cX3_winner 56 = .ok (.goto 13, 3) := by decide +kernel
theorem dX3_winner_59 : decode cX3_winner 59 = .ok (.iload_n 1, 1) := by decide +kernel
theorem dX3_winner_60 : decode cX3_winner 60 = .ok (.iconst 2, 1) := by decide +kernel
theorem dX3_winner_61 : decode cX3_winner 61 = .ok (.if_icmp .ge 7, 3) := by decide +kernel
theorem dX3_winner_64 : decode cX3_winner 64 = .ok (.iconst 0, 1) := by decide +kernel
theorem dX3_winner_65 : decode cX3_winner 65 = .ok (.goto 4, 3) := by decide +kernel
theorem dX3_winner_68 : decode cX3_winner 68 = .ok (.iconst 2, 1) := by decide +kernel
theorem dX3_winner_69 : decode cX3_winner 69 = .ok (.iload_n 3, 1) := by decide +kernel
theorem dX3_winner_70 : decode cX3_winner 70 = .ok (.invokevirtual 81, 3) := by decide +kernel
theorem dX3_winner_73 : decode cX3_winner 73 = .ok (.iload_n 2, 1) := by decide +kernel
theorem dX3_winner_74 : decode cX3_winner 74 = .ok (.invokestatic 77, 3) := by decide +kernel
theorem dX3_winner_77 : decode cX3_winner 77 = .ok (.ifCond .eq 7, 3) := by decide +kernel
theorem dX3_winner_80 : decode cX3_winner 80 = .ok (.iload_n 3, 1) := by decide +kernel
theorem dX3_winner_81 : decode cX3_winner 81 = .ok (.goto 6, 3) := by decide +kernel
theorem dX3_winner_84 : decode cX3_winner 84 = .ok (.iconst 1, 1) := by decide +kernel
theorem dX3_winner_85 : decode cX3_winner 85 = .ok (.iload_n 3, 1) := by decide +kernel
theorem dX3_winner_86 : decode cX3_winner 86 = .ok (.isub, 1) := by decide +kernel
theorem dX3_winner_87 : decode cX3_winner 87 = .ok (.ireturn, 1) := by decide +kernel
set_option maxRecDepth 20000 in
theorem ggX3_rounds_X3_isPlace : GoodIn wsX3_rounds wsX3_isPlace := goodIn_rc _ [(0, 5), (0, 6), (1, 9), (1, 10), (1, 11), (1, 12), (1, 13), (1, 14), (1, 15), (1, 16), (1, 17), (1, 18), (1, 19)] (by rfl) (by decide +kernel)
set_option maxRecDepth 20000 in
theorem gX3_rounds_X3_isPlace : GoodIn wsX3_rounds (wsV RX3 104 RX3 yX3_isPlace wsX3_isPlace) := goodIn_app (goodIn_of _ (by decide +kernel)) ggX3_rounds_X3_isPlace
set_option maxRecDepth 20000 in
theorem ggX3_rounds_X3_isSide : GoodIn wsX3_rounds wsX3_isSide := goodIn_rc _ [(0, 9)] (by rfl) (by decide +kernel)
set_option maxRecDepth 20000 in
theorem gX3_rounds_X3_isSide : GoodIn wsX3_rounds (va_wsS RX3 108 yX3_isSide wsX3_isSide) := goodIn_app (goodIn_of _ (by decide +kernel)) ggX3_rounds_X3_isSide
set_option maxRecDepth 20000 in
theorem ggX3_rounds_X3_isThrown : GoodIn wsX3_rounds wsX3_isThrown := goodIn_rc _ [(0, 13), (0, 14), (1, 9), (1, 10), (1, 11), (1, 12), (1, 13), (1, 14), (1, 15), (1, 16), (1, 17), (1, 18), (1, 19)] (by rfl) (by decide +kernel)
set_option maxRecDepth 20000 in
theorem gX3_rounds_X3_isThrown : GoodIn wsX3_rounds (wsV RX3 88 RX3 yX3_isThrown wsX3_isThrown) := goodIn_app (goodIn_of _ (by decide +kernel)) ggX3_rounds_X3_isThrown
set_option maxRecDepth 20000 in
theorem ggX3_rounds_X3_comingOf : GoodIn wsX3_rounds wsX3_comingOf := goodIn_rc _ [(0, 18), (0, 19), (0, 20), (0, 21), (0, 22), (0, 4), (0, 23), (0, 24), (0, 25), (0, 26), (0, 27), (0, 6), (0, 28), (0, 29), (0, 30), (0, 31), (1, 0), (1, 1), (1, 9), (1, 10), (1, 11), (1, 12), (1, 13), (1, 14), (1, 15), (1, 16), (1, 17), (1, 18), (1, 19)] (by rfl) (by decide +kernel)
set_option maxRecDepth 20000 in
theorem gX3_rounds_X3_comingOf : GoodIn wsX3_rounds (wsV RX3 59 RX3 yX3_comingOf wsX3_comingOf) := goodIn_app (goodIn_of _ (by decide +kernel)) ggX3_rounds_X3_comingOf
set_option maxRecDepth 20000 in
theorem ggX3_rounds_X3_roundsTo : GoodIn wsX3_rounds wsX3_roundsTo := goodIn_rc _ [(1, 5), (0, 19), (0, 6), (0, 28), (1, 6), (1, 7), (0, 4), (1, 8), (0, 29), (0, 30), (0, 31), (1, 0), (1, 1), (0, 24), (0, 25), (0, 26), (0, 27), (1, 9), (1, 10), (1, 11), (1, 12), (1, 13), (1, 14), (1, 15), (1, 16), (1, 17), (1, 18), (1, 19)] (by rfl) (by decide +kernel)
set_option maxRecDepth 20000 in
theorem gX3_rounds_X3_roundsTo : GoodIn wsX3_rounds (wsV RX3 84 RX3 yX3_roundsTo wsX3_roundsTo) := goodIn_app (goodIn_of _ (by decide +kernel)) ggX3_rounds_X3_roundsTo
theorem dX3_rounds_0 : decode cX3_rounds 0 = .ok (.aload_n 0, 1) := by decide +kernel
theorem dX3_rounds_1 : decode cX3_rounds 1 = .ok (.aload_n 0, 1) := by decide +kernel
theorem dX3_rounds_2 : decode cX3_rounds 2 = .ok (.iload_n 2, 1) := by decide +kernel
theorem dX3_rounds_3 : decode cX3_rounds 3 = .ok (.invokevirtual 104, 3) := by decide +kernel
theorem dX3_rounds_6 : decode cX3_rounds 6 = .ok (.ifCond .ne 7, 3) := by decide +kernel
theorem dX3_rounds_9 : decode cX3_rounds 9 = .ok (.iconst 1, 1) := by decide +kernel
theorem dX3_rounds_10 : decode cX3_rounds 10 = .ok (.goto 4, 3) := by decide +kernel
theorem dX3_rounds_13 : decode cX3_rounds 13 = .ok (.iconst 0, 1) := by decide +kernel
theorem dX3_rounds_14 : decode cX3_rounds 14 = .ok (.iload_n 1, 1) := by decide +kernel
theorem dX3_rounds_15 : decode cX3_rounds 15 = .ok (.invokestatic 108, 3) := by decide +kernel
theorem dX3_rounds_18 : decode cX3_rounds 18 = .ok (.ifCond .ne 7, 3) := by decide +kernel
theorem dX3_rounds_21 : decode cX3_rounds 21 = .ok (.iconst 1, 1) := by decide +kernel
theorem dX3_rounds_22 : decode cX3_rounds 22 = .ok (.goto 4, 3) := by decide +kernel
theorem dX3_rounds_25 : decode cX3_rounds 25 = .ok (.iconst 0, 1) := by decide +kernel
theorem dX3_rounds_26 : decode cX3_rounds 26 = .ok (.invokevirtual 88, 3) := by decide +kernel
theorem dX3_rounds_29 : decode cX3_rounds 29 = .ok (.ifCond .eq 7, 3) := by decide +kernel
theorem dX3_rounds_32 : decode cX3_rounds 32 = .ok (.iconst 0, 1) := by decide +kernel
theorem dX3_rounds_33 : decode cX3_rounds 33 = .ok (.goto 14, 3) := by decide +kernel
theorem dX3_rounds_36 : decode cX3_rounds 36 = .ok (.aload_n 0, 1) := by decide +kernel
theorem dX3_rounds_37 : decode cX3_rounds 37 = .ok (.aload_n 0, 1) := by decide +kernel
theorem dX3_rounds_38 : decode cX3_rounds 38 = .ok (.iload_n 1, 1) := by decide +kernel
theorem dX3_rounds_39 : decode cX3_rounds 39 = .ok (.invokevirtual 59, 3) := by decide +kernel
theorem dX3_rounds_42 : decode cX3_rounds 42 = .ok (.iload_n 1, 1) := by decide +kernel
theorem dX3_rounds_43 : decode cX3_rounds 43 = .ok (.iload_n 2, 1) := by decide +kernel
theorem dX3_rounds_44 : decode cX3_rounds 44 = .ok (.invokevirtual 84, 3) := by decide +kernel
theorem dX3_rounds_47 : decode cX3_rounds 47 = .ok (.ireturn, 1) := by decide +kernel
set_option maxRecDepth 20000 in
theorem ggX3_againRounds_X3_isPlace : GoodIn wsX3_againRounds wsX3_isPlace := goodIn_rc _ [(0, 5), (0, 6), (1, 17), (1, 18), (1, 19), (1, 20), (1, 21), (1, 22), (1, 23), (1, 24), (1, 25), (1, 26), (1, 27)] (by rfl) (by decide +kernel)
set_option maxRecDepth 20000 in
theorem gX3_againRounds_X3_isPlace : GoodIn wsX3_againRounds (wsV RX3 104 RX3 yX3_isPlace wsX3_isPlace) := goodIn_app (goodIn_of _ (by decide +kernel)) ggX3_againRounds_X3_isPlace
set_option maxRecDepth 20000 in
theorem ggX3_againRounds_X3_isSide : GoodIn wsX3_againRounds wsX3_isSide := goodIn_rc _ [(0, 9)] (by rfl) (by decide +kernel)
set_option maxRecDepth 20000 in
theorem gX3_againRounds_X3_isSide : GoodIn wsX3_againRounds (va_wsS RX3 108 yX3_isSide wsX3_isSide) := goodIn_app (goodIn_of _ (by decide +kernel)) ggX3_againRounds_X3_isSide
set_option maxRecDepth 20000 in
theorem ggX3_againRounds_X3_isThrown : GoodIn wsX3_againRounds wsX3_isThrown := goodIn_rc _ [(0, 13), (0, 14), (1, 17), (1, 18), (1, 19), (1, 20), (1, 21), (1, 22), (1, 23), (1, 24), (1, 25), (1, 26), (1, 27)] (by rfl) (by decide +kernel)
set_option maxRecDepth 20000 in
theorem gX3_againRounds_X3_isThrown : GoodIn wsX3_againRounds (wsV RX3 88 RX3 yX3_isThrown wsX3_isThrown) := goodIn_app (goodIn_of _ (by decide +kernel)) ggX3_againRounds_X3_isThrown
set_option maxRecDepth 20000 in
theorem ggX3_againRounds_X3_againOf : GoodIn wsX3_againRounds wsX3_againOf := goodIn_rc _ [(0, 18), (0, 19), (0, 20), (0, 21), (0, 4), (0, 22), (0, 6), (0, 23), (0, 24), (0, 25), (0, 26), (0, 27), (0, 28), (0, 29), (0, 30), (0, 31), (1, 0), (1, 1), (1, 2), (1, 3), (1, 4), (1, 5), (1, 6), (1, 7), (1, 8), (1, 9), (1, 17), (1, 18), (1, 19), (1, 20), (1, 21), (1, 22), (1, 23), (1, 24), (1, 25), (1, 26), (1, 27)] (by rfl) (by decide +kernel)
set_option maxRecDepth 20000 in
theorem gX3_againRounds_X3_againOf : GoodIn wsX3_againRounds (wsV RX3 71 RX3 yX3_againOf wsX3_againOf) := goodIn_app (goodIn_of _ (by decide +kernel)) ggX3_againRounds_X3_againOf
set_option maxRecDepth 20000 in
theorem ggX3_againRounds_X3_roundsTo : GoodIn wsX3_againRounds wsX3_roundsTo := goodIn_rc _ [(1, 13), (0, 27), (0, 6), (1, 0), (1, 14), (1, 15), (0, 4), (1, 16), (1, 1), (1, 2), (1, 3), (1, 4), (1, 5), (0, 28), (0, 29), (0, 30), (0, 31), (1, 17), (1, 18), (1, 19), (1, 20), (1, 21), (1, 22), (1, 23), (1, 24), (1, 25), (1, 26), (1, 27)] (by rfl) (by decide +kernel)
set_option maxRecDepth 20000 in
theorem gX3_againRounds_X3_roundsTo : GoodIn wsX3_againRounds (wsV RX3 84 RX3 yX3_roundsTo wsX3_roundsTo) := goodIn_app (goodIn_of _ (by decide +kernel)) ggX3_againRounds_X3_roundsTo
theorem dX3_againRounds_0 : decode cX3_againRounds 0 = .ok (.aload_n 0, 1) := by decide +kernel
theorem dX3_againRounds_1 : decode cX3_againRounds 1 = .ok (.aload_n 0, 1) := by decide +kernel
theorem dX3_againRounds_2 : decode cX3_againRounds 2 = .ok (.iload_n 2, 1) := by decide +kernel
theorem dX3_againRounds_3 : decode cX3_againRounds 3 = .ok (.invokevirtual 104, 3) := by decide +kernel
theorem dX3_againRounds_6 : decode cX3_againRounds 6 = .ok (.ifCond .ne 7, 3) := by decide +kernel
theorem dX3_againRounds_9 : decode cX3_againRounds 9 = .ok (.iconst 1, 1) := by decide +kernel
theorem dX3_againRounds_10 : decode cX3_againRounds 10 = .ok (.goto 4, 3) := by decide +kernel
theorem dX3_againRounds_13 : decode cX3_againRounds 13 = .ok (.iconst 0, 1) := by decide +kernel
theorem dX3_againRounds_14 : decode cX3_againRounds 14 = .ok (.iload_n 1, 1) := by decide +kernel
theorem dX3_againRounds_15 : decode cX3_againRounds 15 = .ok (.invokestatic 108, 3) := by decide +kernel
theorem dX3_againRounds_18 : decode cX3_againRounds 18 = .ok (.ifCond .ne 7, 3) := by decide +kernel
theorem dX3_againRounds_21 : decode cX3_againRounds 21 = .ok (.iconst 1, 1) := by decide +kernel
theorem dX3_againRounds_22 : decode cX3_againRounds 22 = .ok (.goto 4, 3) := by decide +kernel
theorem dX3_againRounds_25 : decode cX3_againRounds 25 = .ok (.iconst 0, 1) := by decide +kernel
theorem dX3_againRounds_26 : decode cX3_againRounds 26 = .ok (.invokevirtual 88, 3) := by decide +kernel
theorem dX3_againRounds_29 : decode cX3_againRounds 29 = .ok (.ifCond .eq 7, 3) := by decide +kernel
theorem dX3_againRounds_32 : decode cX3_againRounds 32 = .ok (.iconst 0, 1) := by decide +kernel
theorem dX3_againRounds_33 : decode cX3_againRounds 33 = .ok (.goto 14, 3) := by decide +kernel
theorem dX3_againRounds_36 : decode cX3_againRounds 36 = .ok (.aload_n 0, 1) := by decide +kernel
theorem dX3_againRounds_37 : decode cX3_againRounds 37 = .ok (.aload_n 0, 1) := by decide +kernel
theorem dX3_againRounds_38 : decode cX3_againRounds 38 = .ok (.iload_n 1, 1) := by decide +kernel
theorem dX3_againRounds_39 : decode cX3_againRounds 39 = .ok (.invokevirtual 71, 3) := by decide +kernel
theorem dX3_againRounds_42 : decode cX3_againRounds 42 = .ok (.iload_n 1, 1) := by decide +kernel
theorem dX3_againRounds_43 : decode cX3_againRounds 43 = .ok (.iload_n 2, 1) := by decide +kernel
theorem dX3_againRounds_44 : decode cX3_againRounds 44 = .ok (.invokevirtual 84, 3) := by decide +kernel
theorem dX3_againRounds_47 : decode cX3_againRounds 47 = .ok (.ireturn, 1) := by decide +kernel
set_option maxRecDepth 20000 in
theorem ggX3_falls_X3_isSide : GoodIn wsX3_falls wsX3_isSide := goodIn_rc _ [(0, 4)] (by rfl) (by decide +kernel)
set_option maxRecDepth 20000 in
theorem gX3_falls_X3_isSide : GoodIn wsX3_falls (va_wsS RX3 108 yX3_isSide wsX3_isSide) := goodIn_app (goodIn_of _ (by decide +kernel)) ggX3_falls_X3_isSide
set_option maxRecDepth 20000 in
theorem ggX3_falls_X3_isThrown_ : GoodIn wsX3_falls wsX3_isThrown_ := goodIn_rc _ [(0, 8), (0, 9), (0, 10), (0, 11), (0, 3), (0, 12), (0, 13), (1, 10), (1, 11), (1, 12), (1, 13), (1, 14), (1, 15), (1, 16), (1, 17), (1, 18), (1, 19), (1, 20)] (by rfl) (by decide +kernel)
set_option maxRecDepth 20000 in
theorem gX3_falls_X3_isThrown_ : GoodIn wsX3_falls (wsV RX3 98 RX3 yX3_isThrown_ wsX3_isThrown_) := goodIn_app (goodIn_of _ (by decide +kernel)) ggX3_falls_X3_isThrown_
set_option maxRecDepth 20000 in
theorem ggX3_falls_X3_fallsOf : GoodIn wsX3_falls wsX3_fallsOf := goodIn_rc _ [(0, 17), (0, 18), (0, 19), (0, 20), (0, 3), (0, 21), (0, 22), (0, 23), (0, 24), (0, 25), (0, 26), (0, 27), (0, 28), (0, 29), (0, 30), (0, 31), (1, 0), (1, 1), (1, 2), (1, 3), (1, 4), (1, 5), (1, 6), (1, 7), (1, 8), (1, 9), (1, 10), (1, 11), (1, 12), (1, 13), (1, 14), (1, 15), (1, 16), (1, 17), (1, 18), (1, 19), (1, 20)] (by rfl) (by decide +kernel)
set_option maxRecDepth 20000 in
theorem gX3_falls_X3_fallsOf : GoodIn wsX3_falls (wsV RX3 150 RX3 yX3_fallsOf wsX3_fallsOf) := goodIn_app (goodIn_of _ (by decide +kernel)) ggX3_falls_X3_fallsOf
theorem dX3_falls_0 : decode cX3_falls 0 = .ok (.aload_n 0, 1) := by decide +kernel
theorem dX3_falls_1 : decode cX3_falls 1 = .ok (.iload_n 1, 1) := by decide +kernel
theorem dX3_falls_2 : decode cX3_falls 2 = .ok (.invokestatic 108, 3) := by decide +kernel
theorem dX3_falls_5 : decode cX3_falls 5 = .ok (.ifCond .ne 7, 3) := by decide +kernel
theorem dX3_falls_8 : decode cX3_falls 8 = .ok (.iconst 1, 1) := by decide +kernel
theorem dX3_falls_9 : decode cX3_falls 9 = .ok (.goto 4, 3) := by decide +kernel
theorem dX3_falls_12 : decode cX3_falls 12 = .ok (.iconst 0, 1) := by decide +kernel
theorem dX3_falls_13 : decode cX3_falls 13 = .ok (.invokevirtual 98, 3) := by decide +kernel
theorem dX3_falls_16 : decode cX3_falls 16 = .ok (.ifCond .eq 7, 3) := by decide +kernel
theorem dX3_falls_19 : decode cX3_falls 19 = .ok (.iconst 0, 1) := by decide +kernel
theorem dX3_falls_20 : decode cX3_falls 20 = .ok (.goto 8, 3) := by decide +kernel
theorem dX3_falls_23 : decode cX3_falls 23 = .ok (.aload_n 0, 1) := by decide +kernel
theorem dX3_falls_24 : decode cX3_falls 24 = .ok (.iload_n 1, 1) := by decide +kernel
theorem dX3_falls_25 : decode cX3_falls 25 = .ok (.invokevirtual 150, 3) := by decide +kernel
theorem dX3_falls_28 : decode cX3_falls 28 = .ok (.ireturn, 1) := by decide +kernel
set_option maxRecDepth 20000 in
theorem ggX3_choice_X3_isPlace : GoodIn wsX3_choice wsX3_isPlace := goodIn_rc _ [(0, 5), (0, 6), (2, 10), (2, 11), (2, 12), (2, 13), (2, 14), (2, 15), (2, 16), (2, 17), (2, 18), (2, 19), (2, 20)] (by rfl) (by decide +kernel)
set_option maxRecDepth 20000 in
theorem gX3_choice_X3_isPlace : GoodIn wsX3_choice (wsV RX3 104 RX3 yX3_isPlace wsX3_isPlace) := goodIn_app (goodIn_of _ (by decide +kernel)) ggX3_choice_X3_isPlace
set_option maxRecDepth 20000 in
theorem ggX3_choice_X3_isSide : GoodIn wsX3_choice wsX3_isSide := goodIn_rc _ [(0, 9)] (by rfl) (by decide +kernel)
set_option maxRecDepth 20000 in
theorem gX3_choice_X3_isSide : GoodIn wsX3_choice (va_wsS RX3 108 yX3_isSide wsX3_isSide) := goodIn_app (goodIn_of _ (by decide +kernel)) ggX3_choice_X3_isSide
set_option maxRecDepth 20000 in
theorem ggX3_choice_X3_isThrown : GoodIn wsX3_choice wsX3_isThrown := goodIn_rc _ [(0, 13), (0, 14), (2, 10), (2, 11), (2, 12), (2, 13), (2, 14), (2, 15), (2, 16), (2, 17), (2, 18), (2, 19), (2, 20)] (by rfl) (by decide +kernel)
set_option maxRecDepth 20000 in
theorem gX3_choice_X3_isThrown : GoodIn wsX3_choice (wsV RX3 88 RX3 yX3_isThrown wsX3_isThrown) := goodIn_app (goodIn_of _ (by decide +kernel)) ggX3_choice_X3_isThrown
set_option maxRecDepth 20000 in
theorem ggX3_choice_X3_choiceOf : GoodIn wsX3_choice wsX3_choiceOf := goodIn_rc _ [(0, 18), (0, 19), (0, 6), (0, 20), (0, 21), (0, 22), (0, 23), (0, 4), (0, 24), (0, 25), (0, 26), (0, 27), (0, 28), (0, 29), (0, 30), (0, 31), (1, 0), (1, 1), (1, 2), (1, 3), (1, 4), (1, 5), (1, 6), (1, 7), (1, 8), (1, 9), (1, 10), (1, 11), (1, 12), (1, 13), (1, 14), (1, 15), (1, 16), (1, 17), (1, 18), (1, 19), (1, 20), (1, 21), (1, 22), (1, 23), (1, 24), (1, 25), (1, 26), (1, 27), (1, 28), (1, 29), (1, 30), (1, 31), (2, 0), (2, 1), (2, 2), (2, 3), (2, 4), (2, 5), (2, 6), (2, 7), (2, 8), (2, 9), (2, 10), (2, 11), (2, 12), (2, 13), (2, 14), (2, 15), (2, 16), (2, 17), (2, 18), (2, 19), (2, 20)] (by rfl) (by decide +kernel)
set_option maxRecDepth 20000 in
theorem gX3_choice_X3_choiceOf : GoodIn wsX3_choice (wsV RX3 117 RX3 yX3_choiceOf wsX3_choiceOf) := goodIn_app (goodIn_of _ (by decide +kernel)) ggX3_choice_X3_choiceOf
theorem dX3_choice_0 : decode cX3_choice 0 = .ok (.aload_n 0, 1) := by decide +kernel
theorem dX3_choice_1 : decode cX3_choice 1 = .ok (.aload_n 0, 1) := by decide +kernel
theorem dX3_choice_2 : decode cX3_choice 2 = .ok (.iload_n 3, 1) := by decide +kernel
theorem dX3_choice_3 : decode cX3_choice 3 = .ok (.invokevirtual 104, 3) := by decide +kernel
theorem dX3_choice_6 : decode cX3_choice 6 = .ok (.ifCond .ne 7, 3) := by decide +kernel
theorem dX3_choice_9 : decode cX3_choice 9 = .ok (.iconst 1, 1) := by decide +kernel
theorem dX3_choice_10 : decode cX3_choice 10 = .ok (.goto 4, 3) := by decide +kernel
theorem dX3_choice_13 : decode cX3_choice 13 = .ok (.iconst 0, 1) := by decide +kernel
theorem dX3_choice_14 : decode cX3_choice 14 = .ok (.iload_n 1, 1) := by decide +kernel
theorem dX3_choice_15 : decode cX3_choice 15 = .ok (.ifCond .lt 15, 3) := by decide +kernel
theorem dX3_choice_18 : decode cX3_choice 18 = .ok (.iload_n 1, 1) := by decide +kernel
theorem dX3_choice_19 : decode cX3_choice 19 = .ok (.iconst 2, 1) := by decide +kernel
theorem dX3_choice_20 : decode cX3_choice 20 = .ok (.if_icmp .gt 10, 3) := by decide +kernel
theorem dX3_choice_23 : decode cX3_choice 23 = .ok (.iload_n 2, 1) := by decide +kernel
theorem dX3_choice_24 : decode cX3_choice 24 = .ok (.invokestatic 108, 3) := by decide +kernel
theorem dX3_choice_27 : decode cX3_choice 27 = .ok (.ifCond .ne 7, 3) := by decide +kernel
theorem dX3_choice_30 : decode cX3_choice 30 = .ok (.iconst 1, 1) := by decide +kernel
theorem dX3_choice_31 : decode cX3_choice 31 = .ok (.goto 4, 3) := by decide +kernel
theorem dX3_choice_34 : decode cX3_choice 34 = .ok (.iconst 0, 1) := by decide +kernel
theorem dX3_choice_35 : decode cX3_choice 35 = .ok (.invokevirtual 88, 3) := by decide +kernel
theorem dX3_choice_38 : decode cX3_choice 38 = .ok (.ifCond .eq 7, 3) := by decide +kernel
theorem dX3_choice_41 : decode cX3_choice 41 = .ok (.iconst 0, 1) := by decide +kernel
theorem dX3_choice_42 : decode cX3_choice 42 = .ok (.goto 10, 3) := by decide +kernel
theorem dX3_choice_45 : decode cX3_choice 45 = .ok (.aload_n 0, 1) := by decide +kernel
theorem dX3_choice_46 : decode cX3_choice 46 = .ok (.iload_n 1, 1) := by decide +kernel
theorem dX3_choice_47 : decode cX3_choice 47 = .ok (.iload_n 2, 1) := by decide +kernel
theorem dX3_choice_48 : decode cX3_choice 48 = .ok (.iload_n 3, 1) := by decide +kernel
theorem dX3_choice_49 : decode cX3_choice 49 = .ok (.invokevirtual 117, 3) := by decide +kernel
theorem dX3_choice_52 : decode cX3_choice 52 = .ok (.ireturn, 1) := by decide +kernel
set_option maxRecDepth 20000 in
theorem ggX3_isSure_X3_isSide : GoodIn wsX3_isSure wsX3_isSide := goodIn_rc _ [(0, 4)] (by rfl) (by decide +kernel)
set_option maxRecDepth 20000 in
theorem gX3_isSure_X3_isSide : GoodIn wsX3_isSure (va_wsS RX3 108 yX3_isSide wsX3_isSide) := goodIn_app (goodIn_of _ (by decide +kernel)) ggX3_isSure_X3_isSide
set_option maxRecDepth 20000 in
theorem ggX3_isSure_X3_isThrown_ : GoodIn wsX3_isSure wsX3_isThrown_ := goodIn_rc _ [(0, 8), (0, 9), (0, 10), (0, 11), (0, 3), (0, 12), (0, 13), (0, 14), (0, 15), (0, 16), (0, 17), (0, 18), (0, 19), (0, 20), (0, 21), (0, 22), (0, 23), (0, 24)] (by rfl) (by decide +kernel)
set_option maxRecDepth 20000 in
theorem gX3_isSure_X3_isThrown_ : GoodIn wsX3_isSure (wsV RX3 98 RX3 yX3_isThrown_ wsX3_isThrown_) := goodIn_app (goodIn_of _ (by decide +kernel)) ggX3_isSure_X3_isThrown_
theorem dX3_isSure_0 : decode cX3_isSure 0 = .ok (.aload_n 0, 1) := by decide +kernel
theorem dX3_isSure_1 : decode cX3_isSure 1 = .ok (.iload_n 1, 1) := by decide +kernel
theorem dX3_isSure_2 : decode cX3_isSure 2 = .ok (.ifCond .lt 15, 3) := by decide +kernel
theorem dX3_isSure_5 : decode cX3_isSure 5 = .ok (.iload_n 1, 1) := by decide +kernel
theorem dX3_isSure_6 : decode cX3_isSure 6 = .ok (.iconst 2, 1) := by decide +kernel
theorem dX3_isSure_7 : decode cX3_isSure 7 = .ok (.if_icmp .gt 10, 3) := by decide +kernel
theorem dX3_isSure_10 : decode cX3_isSure 10 = .ok (.iload_n 2, 1) := by decide +kernel
theorem dX3_isSure_11 : decode cX3_isSure 11 = .ok (.invokestatic 108, 3) := by decide +kernel
theorem dX3_isSure_14 : decode cX3_isSure 14 = .ok (.ifCond .ne 7, 3) := by decide +kernel
theorem dX3_isSure_17 : decode cX3_isSure 17 = .ok (.iconst 1, 1) := by decide +kernel
theorem dX3_isSure_18 : decode cX3_isSure 18 = .ok (.goto 4, 3) := by decide +kernel
theorem dX3_isSure_21 : decode cX3_isSure 21 = .ok (.iconst 0, 1) := by decide +kernel
theorem dX3_isSure_22 : decode cX3_isSure 22 = .ok (.invokevirtual 98, 3) := by decide +kernel
theorem dX3_isSure_25 : decode cX3_isSure 25 = .ok (.ifCond .ne 7, 3) := by decide +kernel
theorem dX3_isSure_28 : decode cX3_isSure 28 = .ok (.iconst 1, 1) := by decide +kernel
theorem dX3_isSure_29 : decode cX3_isSure 29 = .ok (.goto 4, 3) := by decide +kernel
theorem dX3_isSure_32 : decode cX3_isSure 32 = .ok (.iconst 0, 1) := by decide +kernel
theorem dX3_isSure_33 : decode cX3_isSure 33 = .ok (.ireturn, 1) := by decide +kernel
set_option maxRecDepth 20000 in
theorem ggX3_play_X3_isPlace : GoodIn wsX3_play wsX3_isPlace := goodIn_rc _ [(0, 9), (0, 10), (9, 29), (9, 30), (9, 31), (10, 0), (10, 1), (10, 2), (10, 3), (10, 4), (10, 5), (10, 6), (10, 7)] (by rfl) (by decide +kernel)
set_option maxRecDepth 20000 in
theorem gX3_play_X3_isPlace : GoodIn wsX3_play (wsV RX3 104 RX3 yX3_isPlace wsX3_isPlace) := goodIn_app (goodIn_of _ (by decide +kernel)) ggX3_play_X3_isPlace
set_option maxRecDepth 20000 in
theorem ggX3_play_X3_isSide : GoodIn wsX3_play wsX3_isSide := goodIn_rc _ [(0, 13)] (by rfl) (by decide +kernel)
set_option maxRecDepth 20000 in
theorem gX3_play_X3_isSide : GoodIn wsX3_play (va_wsS RX3 108 yX3_isSide wsX3_isSide) := goodIn_app (goodIn_of _ (by decide +kernel)) ggX3_play_X3_isSide
set_option maxRecDepth 20000 in
theorem ggX3_play_X3_isThrown : GoodIn wsX3_play wsX3_isThrown := goodIn_rc _ [(0, 17), (0, 18), (9, 29), (9, 30), (9, 31), (10, 0), (10, 1), (10, 2), (10, 3), (10, 4), (10, 5), (10, 6), (10, 7)] (by rfl) (by decide +kernel)
set_option maxRecDepth 20000 in
theorem gX3_play_X3_isThrown : GoodIn wsX3_play (wsV RX3 88 RX3 yX3_isThrown wsX3_isThrown) := goodIn_app (goodIn_of _ (by decide +kernel)) ggX3_play_X3_isThrown
set_option maxRecDepth 20000 in
theorem ggX3_play_J4_init_da8c8 : GoodIn wsX3_play wsJ4_init_da8c8 := goodIn_rc _ [(0, 21), (0, 22), (0, 23), (0, 24), (0, 25), (0, 26), (0, 27), (0, 28), (0, 29), (0, 30), (0, 31), (1, 0), (1, 1), (1, 2), (1, 3), (1, 4), (1, 5), (1, 6), (1, 7), (1, 8), (9, 25), (9, 26), (9, 27), (9, 28)] (by rfl) (by decide +kernel)
set_option maxRecDepth 20000 in
theorem gX3_play_J4_init_da8c8 : GoodIn wsX3_play (wsJ4_init_da8c8) := ggX3_play_J4_init_da8c8
set_option maxRecDepth 20000 in
theorem ggX3_play_J4_append_bf812 : GoodIn wsX3_play wsJ4_append_bf812 := goodIn_rc _ [(1, 12), (1, 13), (1, 14), (1, 15), (1, 16), (0, 24), (1, 17), (1, 18), (0, 31), (1, 19), (1, 20), (1, 21), (1, 22), (1, 23), (1, 24), (1, 25), (1, 26), (1, 27), (1, 0), (1, 28), (1, 29), (1, 30), (1, 31), (2, 0), (2, 1), (2, 2), (2, 3), (2, 4), (2, 5), (2, 6), (2, 7), (2, 8), (2, 9), (2, 10), (2, 11), (2, 12), (2, 13), (2, 14), (2, 15), (2, 16), (2, 17), (2, 18), (2, 19), (2, 20), (2, 21), (2, 22), (2, 23), (0, 30), (2, 24), (2, 25), (2, 26), (2, 27), (2, 28), (2, 29), (2, 30), (2, 31), (3, 0), (3, 1), (3, 2), (3, 3), (0, 29), (3, 4), (3, 5), (3, 6), (3, 7), (3, 8), (3, 9), (3, 10), (1, 3), (3, 11), (3, 12), (3, 13), (3, 14), (3, 15), (3, 16), (3, 17), (3, 18), (3, 19), (3, 20), (3, 21), (3, 22), (3, 23), (3, 24), (3, 25), (3, 26), (3, 27), (3, 28), (3, 29), (3, 30), (3, 31), (4, 0), (4, 1), (4, 2), (4, 3), (4, 4), (4, 5), (9, 25), (9, 26), (9, 27), (9, 28)] (by rfl) (by decide +kernel)
set_option maxRecDepth 20000 in
theorem gX3_play_J4_append_bf812 : GoodIn wsX3_play (wsV RX3 143 RJ4 yJ4_append_bf812 wsJ4_append_bf812) := goodIn_app (goodIn_of _ (by decide +kernel)) ggX3_play_J4_append_bf812
set_option maxRecDepth 20000 in
theorem ggX3_play_X3_sideOf : GoodIn wsX3_play wsX3_sideOf := goodIn_rc _ [(4, 9), (4, 10), (9, 29), (9, 30), (9, 31), (10, 0), (10, 1), (10, 2), (10, 3), (10, 4), (10, 5), (10, 6), (10, 7)] (by rfl) (by decide +kernel)
set_option maxRecDepth 20000 in
theorem gX3_play_X3_sideOf : GoodIn wsX3_play (wsV RX3 45 RX3 yX3_sideOf wsX3_sideOf) := goodIn_app (goodIn_of _ (by decide +kernel)) ggX3_play_X3_sideOf
set_option maxRecDepth 20000 in
theorem ggX3_play_X3_choiceOf : GoodIn wsX3_play wsX3_choiceOf := goodIn_rc _ [(4, 14), (4, 15), (0, 10), (0, 4), (4, 16), (4, 17), (4, 18), (0, 8), (4, 19), (4, 20), (4, 21), (4, 22), (4, 23), (4, 24), (4, 25), (4, 26), (4, 27), (4, 28), (4, 29), (4, 30), (4, 31), (4, 6), (4, 7), (4, 8), (4, 9), (4, 10), (5, 0), (5, 1), (5, 2), (5, 3), (5, 4), (5, 5), (5, 6), (5, 7), (5, 8), (5, 9), (5, 10), (5, 11), (5, 12), (5, 13), (5, 14), (5, 15), (5, 16), (5, 17), (5, 18), (5, 19), (5, 20), (5, 21), (5, 22), (5, 23), (5, 24), (5, 25), (5, 26), (5, 27), (5, 28), (5, 29), (5, 30), (5, 31), (9, 29), (9, 30), (9, 31), (10, 0), (10, 1), (10, 2), (10, 3), (10, 4), (10, 5), (10, 6), (10, 7)] (by rfl) (by decide +kernel)
set_option maxRecDepth 20000 in
theorem gX3_play_X3_choiceOf : GoodIn wsX3_play (wsV RX3 117 RX3 yX3_choiceOf wsX3_choiceOf) := goodIn_app (goodIn_of _ (by decide +kernel)) ggX3_play_X3_choiceOf
set_option maxRecDepth 20000 in
theorem ggX3_play_J6_numberOfTrailingZeros_0f7a4 : GoodIn wsX3_play wsJ6_numberOfTrailingZeros_0f7a4 := goodIn_rc _ [(6, 2), (6, 3)] (by rfl) (by decide +kernel)
set_option maxRecDepth 20000 in
theorem gX3_play_J6_numberOfTrailingZeros_0f7a4 : GoodIn wsX3_play (va_wsS RX3 153 yJ6_numberOfTrailingZeros_0f7a4 wsJ6_numberOfTrailingZeros_0f7a4) := goodIn_app (goodIn_of _ (by decide +kernel)) ggX3_play_J6_numberOfTrailingZeros_0f7a4
set_option maxRecDepth 20000 in
theorem ggX3_play_J4_append_15ec4 : GoodIn wsX3_play wsJ4_append_15ec4 := goodIn_rc _ [(6, 7), (6, 8), (6, 9), (1, 15), (6, 10), (0, 24), (6, 11), (1, 18), (6, 12), (6, 13), (6, 14), (6, 15), (6, 16), (0, 31), (1, 23), (1, 24), (1, 25), (1, 26), (1, 27), (1, 0), (1, 28), (1, 29), (1, 30), (1, 31), (2, 0), (2, 1), (2, 2), (2, 3), (2, 4), (2, 5), (2, 6), (2, 7), (2, 8), (2, 9), (2, 10), (2, 11), (2, 12), (2, 13), (2, 14), (2, 15), (2, 16), (2, 17), (2, 18), (2, 19), (2, 20), (2, 21), (2, 22), (2, 23), (0, 30), (2, 24), (2, 25), (2, 26), (2, 27), (2, 28), (2, 29), (2, 30), (2, 31), (3, 0), (3, 1), (3, 2), (3, 3), (0, 29), (6, 17), (6, 18), (1, 3), (6, 19), (3, 12), (3, 13), (3, 14), (3, 15), (3, 16), (3, 17), (3, 18), (3, 19), (3, 20), (3, 21), (3, 22), (3, 23), (3, 24), (3, 25), (3, 26), (3, 27), (4, 1), (4, 2), (4, 3), (4, 4), (4, 5), (6, 20), (6, 21), (6, 22), (6, 23), (6, 24), (6, 25), (6, 26), (6, 27), (6, 28), (6, 29), (6, 30), (6, 31), (7, 0), (7, 1), (7, 2), (7, 3), (7, 4), (7, 5), (7, 6), (7, 7), (7, 8), (7, 9), (7, 10), (7, 11), (7, 12), (7, 13), (7, 14), (1, 1), (1, 2), (1, 4), (1, 5), (1, 6), (1, 7), (1, 8), (7, 15), (7, 16), (7, 17), (7, 18), (7, 19), (7, 20), (7, 21), (7, 22), (7, 23), (7, 24), (7, 25), (7, 26), (7, 27), (7, 28), (7, 29), (7, 30), (7, 31), (8, 0), (8, 1), (8, 2), (8, 3), (8, 4), (9, 25), (9, 26), (9, 27), (9, 28), (10, 8), (10, 9), (10, 10), (10, 11)] (by rfl) (by decide +kernel)
set_option maxRecDepth 20000 in
theorem gX3_play_J4_append_15ec4 : GoodIn wsX3_play (wsV RX3 139 RJ4 yJ4_append_15ec4 wsJ4_append_15ec4) := goodIn_app (goodIn_of _ (by decide +kernel)) ggX3_play_J4_append_15ec4
set_option maxRecDepth 20000 in
theorem ggX3_play_X3_isIn : GoodIn wsX3_play wsX3_isIn := goodIn_rc _ [(5, 27)] (by rfl) (by decide +kernel)
set_option maxRecDepth 20000 in
theorem gX3_play_X3_isIn : GoodIn wsX3_play (va_wsS RX3 77 yX3_isIn wsX3_isIn) := goodIn_app (goodIn_of _ (by decide +kernel)) ggX3_play_X3_isIn
set_option maxRecDepth 20000 in
theorem ggX3_play_J4_toString_0e30d : GoodIn wsX3_play wsJ4_toString_0e30d := goodIn_rc _ [(8, 8), (8, 9), (8, 10), (3, 21), (8, 11), (8, 12), (8, 13), (8, 14), (8, 15), (8, 16), (8, 17), (0, 27), (0, 28), (6, 30), (6, 24), (6, 29), (8, 18), (8, 19), (8, 20), (8, 21), (8, 22), (0, 24), (8, 23), (0, 31), (8, 24), (8, 25), (8, 26), (8, 27), (8, 28), (0, 3), (8, 29), (8, 30), (1, 15), (8, 31), (9, 0), (1, 18), (9, 1), (3, 0), (3, 1), (3, 2), (3, 3), (0, 29), (1, 0), (9, 2), (9, 3), (2, 16), (9, 4), (2, 18), (2, 19), (2, 20), (2, 21), (2, 22), (2, 23), (9, 5), (9, 6), (9, 7), (0, 30), (2, 24), (2, 25), (2, 8), (2, 26), (2, 27), (2, 28), (2, 29), (2, 30), (9, 8), (9, 9), (9, 10), (9, 11), (0, 2), (9, 12), (9, 13), (1, 3), (9, 14), (9, 15), (9, 16), (9, 17), (7, 22), (7, 23), (7, 24), (3, 16), (3, 17), (3, 18), (7, 25), (7, 26), (7, 27), (3, 23), (7, 28), (7, 29), (3, 26), (7, 30), (9, 18), (9, 19), (9, 20), (3, 12), (4, 4), (4, 5), (1, 5), (1, 6), (1, 7), (1, 8), (9, 21), (9, 22), (9, 23), (9, 24), (10, 8), (10, 9), (10, 10), (10, 11), (9, 25), (9, 26), (9, 27), (9, 28)] (by rfl) (by decide +kernel)
set_option maxRecDepth 20000 in
theorem gX3_play_J4_toString_0e30d : GoodIn wsX3_play (wsV RX3 146 RJ4 yJ4_toString_0e30d wsJ4_toString_0e30d) := goodIn_app (goodIn_of _ (by decide +kernel)) ggX3_play_J4_toString_0e30d
theorem dX3_play_0 : decode cX3_play 0 = .ok (.aload_n 0, 1) := by decide +kernel
theorem dX3_play_1 : decode cX3_play 1 = .ok (.aload_n 0, 1) := by decide +kernel
theorem dX3_play_2 : decode cX3_play 2 = .ok (.iload_n 2, 1) := by decide +kernel
theorem dX3_play_3 : decode cX3_play 3 = .ok (.invokevirtual 104, 3) := by decide +kernel
theorem dX3_play_6 : decode cX3_play 6 = .ok (.ifCond .ne 7, 3) := by decide +kernel
theorem dX3_play_9 : decode cX3_play 9 = .ok (.iconst 1, 1) := by decide +kernel
theorem dX3_play_10 : decode cX3_play 10 = .ok (.goto 4, 3) := by decide +kernel
theorem dX3_play_13 : decode cX3_play 13 = .ok (.iconst 0, 1) := by decide +kernel
theorem dX3_play_14 : decode cX3_play 14 = .ok (.iload_n 1, 1) := by decide +kernel
theorem dX3_play_15 : decode cX3_play 15 = .ok (.invokestatic 108, 3) := by decide +kernel
theorem dX3_play_18 : decode cX3_play 18 = .ok (.ifCond .ne 7, 3) := by decide +kernel
theorem dX3_play_21 : decode cX3_play 21 = .ok (.iconst 1, 1) := by decide +kernel
theorem dX3_play_22 : decode cX3_play 22 = .ok (.goto 4, 3) := by decide +kernel
theorem dX3_play_25 : decode cX3_play 25 = .ok (.iconst 0, 1) := by decide +kernel
theorem dX3_play_26 : decode cX3_play 26 = .ok (.invokevirtual 88, 3) := by decide +kernel
theorem dX3_play_29 : decode cX3_play 29 = .ok (.ifCond .eq 6, 3) := by decide +kernel
theorem dX3_play_32 : decode cX3_play 32 = .ok (.ldc 129, 2) := by decide +kernel
theorem dX3_play_34 : decode cX3_play 34 = .ok (.areturn, 1) := by decide +kernel
theorem dX3_play_35 : decode cX3_play 35 = .ok (.new 131, 3) := by decide +kernel
theorem dX3_play_38 : decode cX3_play 38 = .ok (.dup, 1) := by decide +kernel
theorem dX3_play_39 : decode cX3_play 39 = .ok (.invokespecial 133, 3) := by decide +kernel
theorem dX3_play_42 : decode cX3_play 42 = .ok (.iload_n 2, 1) := by decide +kernel
theorem dX3_play_43 : decode cX3_play 43 = .ok (.invokevirtual 143, 3) := by decide +kernel
theorem dX3_play_46 : decode cX3_play 46 = .ok (.astore_n 3, 1) := by decide +kernel
theorem dX3_play_47 : decode cX3_play 47 = .ok (.iconst 1, 1) := by decide +kernel
theorem dX3_play_48 : decode cX3_play 48 = .ok (.iload_n 2, 1) := by decide +kernel
theorem dX3_play_49 : decode cX3_play 49 = .ok (.ishl, 1) := by decide +kernel
theorem dX3_play_50 : decode cX3_play 50 = .ok (.istore 4, 2) := by decide +kernel
theorem dX3_play_52 : decode cX3_play 52 = .ok (.iload_n 2, 1) := by decide +kernel
theorem dX3_play_53 : decode cX3_play 53 = .ok (.istore 5, 2) := by decide +kernel
theorem dX3_play_55 : decode cX3_play 55 = .ok (.aload_n 0, 1) := by decide +kernel
theorem dX3_play_56 : decode cX3_play 56 = .ok (.getfield 30, 3) := by decide +kernel
theorem dX3_play_59 : decode cX3_play 59 = .ok (.iload 5, 2) := by decide +kernel
theorem dX3_play_61 : decode cX3_play 61 = .ok (.iaload, 1) := by decide +kernel
theorem dX3_play_62 : decode cX3_play 62 = .ok (.ifCond .eq 91, 3) := by decide +kernel
theorem dX3_play_65 : decode cX3_play 65 = .ok (.aload_n 0, 1) := by decide +kernel
theorem dX3_play_66 : decode cX3_play 66 = .ok (.aload_n 0, 1) := by decide +kernel
theorem dX3_play_67 : decode cX3_play 67 = .ok (.iload 5, 2) := by decide +kernel
theorem dX3_play_69 : decode cX3_play 69 = .ok (.invokevirtual 45, 3) := by decide +kernel
theorem dX3_play_72 : decode cX3_play 72 = .ok (.iload_n 1, 1) := by decide +kernel
theorem dX3_play_73 : decode cX3_play 73 = .ok (.if_icmp .ne 7, 3) := by decide +kernel
theorem dX3_play_76 : decode cX3_play 76 = .ok (.iconst 0, 1) := by decide +kernel
theorem dX3_play_77 : decode cX3_play 77 = .ok (.goto 4, 3) := by decide +kernel
theorem dX3_play_80 : decode cX3_play 80 = .ok (.iconst 1, 1) := by decide +kernel
theorem dX3_play_81 : decode cX3_play 81 = .ok (.aload_n 0, 1) := by decide +kernel
theorem dX3_play_82 : decode cX3_play 82 = .ok (.iload 5, 2) := by decide +kernel
theorem dX3_play_84 : decode cX3_play 84 = .ok (.invokevirtual 45, 3) := by decide +kernel
theorem dX3_play_87 : decode cX3_play 87 = .ok (.iload 5, 2) := by decide +kernel
theorem dX3_play_89 : decode cX3_play 89 = .ok (.invokevirtual 117, 3) := by decide +kernel
theorem dX3_play_92 : decode cX3_play 92 = .ok (.istore 6, 2) := by decide +kernel
theorem dX3_play_94 : decode cX3_play 94 = .ok (.iload 6, 2) := by decide +kernel
theorem dX3_play_96 : decode cX3_play 96 = .ok (.ifCond .ge 16, 3) := by decide +kernel
theorem dX3_play_99 : decode cX3_play 99 = .ok (.aload_n 0, 1) := by decide +kernel
theorem dX3_play_100 : decode cX3_play 100 = .ok (.getfield 30, 3) := by decide +kernel
theorem dX3_play_103 : decode cX3_play 103 = .ok (.iload 5, 2) := by decide +kernel
theorem dX3_play_105 : decode cX3_play 105 = .ok (.iaload, 1) := by decide +kernel
theorem dX3_play_106 : decode cX3_play 106 = .ok (.invokestatic 153, 3) := by decide +kernel
theorem dX3_play_109 : decode cX3_play 109 = .ok (.goto 5, 3) := by decide +kernel
theorem dX3_play_112 : decode cX3_play 112 = .ok (.iload 6, 2) := by decide +kernel
theorem dX3_play_114 : decode cX3_play 114 = .ok (.istore 5, 2) := by decide +kernel
theorem dX3_play_116 : decode cX3_play 116 = .ok (.aload_n 3, 1) := by decide +kernel
theorem dX3_play_117 : decode cX3_play 117 = .ok (.ldc 156, 2) := by decide +kernel
theorem dX3_play_119 : decode cX3_play 119 = .ok (.invokevirtual 139, 3) := by decide +kernel
theorem dX3_play_122 : decode cX3_play 122 = .ok (.iload 5, 2) := by decide +kernel
theorem dX3_play_124 : decode cX3_play 124 = .ok (.invokevirtual 143, 3) := by decide +kernel
theorem dX3_play_127 : decode cX3_play 127 = .ok (.pop, 1) := by decide +kernel
theorem dX3_play_128 : decode cX3_play 128 = .ok (.iload 4, 2) := by decide +kernel
theorem dX3_play_130 : decode cX3_play 130 = .ok (.iload 5, 2) := by decide +kernel
theorem dX3_play_132 : decode cX3_play 132 = .ok (.invokestatic 77, 3) := by decide +kernel
theorem dX3_play_135 : decode cX3_play 135 = .ok (.ifCond .eq 6, 3) := by decide +kernel
theorem dX3_play_138 : decode cX3_play 138 = .ok (.goto 15, 3) := by decide +kernel
theorem dX3_play_141 : decode cX3_play 141 = .ok (.iload 4, 2) := by decide +kernel
theorem dX3_play_143 : decode cX3_play 143 = .ok (.iconst 1, 1) := by decide +kernel
theorem dX3_play_144 : decode cX3_play 144 = .ok (.iload 5, 2) := by decide +kernel
theorem dX3_play_146 : decode cX3_play 146 = .ok (.ishl, 1) := by decide +kernel
theorem dX3_play_147 : decode cX3_play 147 = .ok (.ior, 1) := by decide +kernel
theorem dX3_play_148 : decode cX3_play 148 = .ok (.istore 4, 2) := by decide +kernel
theorem dX3_play_150 : decode cX3_play 150 = .ok (.goto (-95), 3) := by decide +kernel
theorem dX3_play_153 : decode cX3_play 153 = .ok (.aload_n 3, 1) := by decide +kernel
theorem dX3_play_154 : decode cX3_play 154 = .ok (.invokevirtual 146, 3) := by decide +kernel
theorem dX3_play_157 : decode cX3_play 157 = .ok (.areturn, 1) := by decide +kernel
set_option maxRecDepth 20000 in
theorem ggX3_choices_X3_isSide : GoodIn wsX3_choices wsX3_isSide := goodIn_rc _ [(0, 4)] (by rfl) (by decide +kernel)
set_option maxRecDepth 20000 in
theorem gX3_choices_X3_isSide : GoodIn wsX3_choices (va_wsS RX3 108 yX3_isSide wsX3_isSide) := goodIn_app (goodIn_of _ (by decide +kernel)) ggX3_choices_X3_isSide
set_option maxRecDepth 20000 in
theorem ggX3_choices_X3_isThrown_ : GoodIn wsX3_choices wsX3_isThrown_ := goodIn_rc _ [(0, 8), (0, 9), (0, 10), (0, 11), (0, 3), (0, 12), (0, 13), (1, 0), (1, 1), (1, 2), (1, 3), (1, 4), (1, 5), (1, 6), (1, 7), (1, 8), (1, 9), (1, 10)] (by rfl) (by decide +kernel)
set_option maxRecDepth 20000 in
theorem gX3_choices_X3_isThrown_ : GoodIn wsX3_choices (wsV RX3 98 RX3 yX3_isThrown_ wsX3_isThrown_) := goodIn_app (goodIn_of _ (by decide +kernel)) ggX3_choices_X3_isThrown_
set_option maxRecDepth 20000 in
theorem ggX3_choices_X3_choicesOf : GoodIn wsX3_choices wsX3_choicesOf := goodIn_rc _ [(0, 17), (0, 18), (0, 19), (0, 20), (0, 21), (0, 22), (0, 3), (0, 23), (0, 24), (0, 25), (0, 26), (0, 27), (0, 28), (0, 29), (0, 30), (0, 31), (1, 0), (1, 1), (1, 2), (1, 3), (1, 4), (1, 5), (1, 6), (1, 7), (1, 8), (1, 9), (1, 10)] (by rfl) (by decide +kernel)
set_option maxRecDepth 20000 in
theorem gX3_choices_X3_choicesOf : GoodIn wsX3_choices (wsV RX3 158 RX3 yX3_choicesOf wsX3_choicesOf) := goodIn_app (goodIn_of _ (by decide +kernel)) ggX3_choices_X3_choicesOf
theorem dX3_choices_0 : decode cX3_choices 0 = .ok (.aload_n 0, 1) := by decide +kernel
theorem dX3_choices_1 : decode cX3_choices 1 = .ok (.iload_n 1, 1) := by decide +kernel
theorem dX3_choices_2 : decode cX3_choices 2 = .ok (.invokestatic 108, 3) := by decide +kernel
theorem dX3_choices_5 : decode cX3_choices 5 = .ok (.ifCond .ne 7, 3) := by decide +kernel
theorem dX3_choices_8 : decode cX3_choices 8 = .ok (.iconst 1, 1) := by decide +kernel
theorem dX3_choices_9 : decode cX3_choices 9 = .ok (.goto 4, 3) := by decide +kernel
theorem dX3_choices_12 : decode cX3_choices 12 = .ok (.iconst 0, 1) := by decide +kernel
theorem dX3_choices_13 : decode cX3_choices 13 = .ok (.invokevirtual 98, 3) := by decide +kernel
theorem dX3_choices_16 : decode cX3_choices 16 = .ok (.ifCond .eq 7, 3) := by decide +kernel
theorem dX3_choices_19 : decode cX3_choices 19 = .ok (.iconst 0, 1) := by decide +kernel
theorem dX3_choices_20 : decode cX3_choices 20 = .ok (.goto 8, 3) := by decide +kernel
theorem dX3_choices_23 : decode cX3_choices 23 = .ok (.aload_n 0, 1) := by decide +kernel
theorem dX3_choices_24 : decode cX3_choices 24 = .ok (.iload_n 1, 1) := by decide +kernel
theorem dX3_choices_25 : decode cX3_choices 25 = .ok (.invokevirtual 158, 3) := by decide +kernel
theorem dX3_choices_28 : decode cX3_choices 28 = .ok (.ireturn, 1) := by decide +kernel
set_option maxRecDepth 20000 in
theorem ggX3_tried_X3_isSide : GoodIn wsX3_tried wsX3_isSide := goodIn_rc _ [(0, 4)] (by rfl) (by decide +kernel)
set_option maxRecDepth 20000 in
theorem gX3_tried_X3_isSide : GoodIn wsX3_tried (va_wsS RX3 108 yX3_isSide wsX3_isSide) := goodIn_app (goodIn_of _ (by decide +kernel)) ggX3_tried_X3_isSide
set_option maxRecDepth 20000 in
theorem ggX3_tried_X3_isThrown_ : GoodIn wsX3_tried wsX3_isThrown_ := goodIn_rc _ [(0, 8), (0, 9), (0, 10), (0, 11), (0, 3), (0, 12), (0, 13), (2, 10), (2, 11), (2, 12), (2, 13), (2, 14), (2, 15), (2, 16), (2, 17), (2, 18), (2, 19), (2, 20)] (by rfl) (by decide +kernel)
set_option maxRecDepth 20000 in
theorem gX3_tried_X3_isThrown_ : GoodIn wsX3_tried (wsV RX3 98 RX3 yX3_isThrown_ wsX3_isThrown_) := goodIn_app (goodIn_of _ (by decide +kernel)) ggX3_tried_X3_isThrown_
set_option maxRecDepth 20000 in
theorem ggX3_tried_X3_choicesOf : GoodIn wsX3_tried wsX3_choicesOf := goodIn_rc _ [(0, 17), (0, 18), (0, 19), (0, 20), (0, 21), (0, 22), (0, 3), (0, 23), (0, 24), (0, 25), (0, 26), (0, 27), (0, 28), (0, 29), (0, 30), (0, 31), (2, 10), (2, 11), (2, 12), (2, 13), (2, 14), (2, 15), (2, 16), (2, 17), (2, 18), (2, 19), (2, 20)] (by rfl) (by decide +kernel)
set_option maxRecDepth 20000 in
theorem gX3_tried_X3_choicesOf : GoodIn wsX3_tried (wsV RX3 158 RX3 yX3_choicesOf wsX3_choicesOf) := goodIn_app (goodIn_of _ (by decide +kernel)) ggX3_tried_X3_choicesOf
set_option maxRecDepth 20000 in
theorem ggX3_tried_X3_wonIn : GoodIn wsX3_tried wsX3_wonIn := goodIn_rc _ [(1, 3), (1, 4), (1, 5), (1, 6), (0, 3), (1, 7), (1, 8), (1, 9), (1, 10), (1, 11), (1, 12), (1, 13), (1, 14), (1, 15), (1, 16), (0, 18), (0, 19), (0, 20), (0, 21), (0, 22), (0, 23), (0, 24), (1, 17), (1, 18), (1, 19), (1, 20), (1, 21), (1, 22), (1, 23), (1, 24), (1, 25), (1, 26), (1, 27), (1, 28), (1, 29), (1, 30), (1, 31), (2, 0), (2, 1), (2, 2), (2, 3), (2, 4), (2, 5), (2, 6), (2, 7), (2, 8), (2, 9), (2, 10), (2, 11), (2, 12), (2, 13), (2, 14), (2, 15), (2, 16), (2, 17), (2, 18), (2, 19), (2, 20)] (by rfl) (by decide +kernel)
set_option maxRecDepth 20000 in
theorem gX3_tried_X3_wonIn : GoodIn wsX3_tried (wsV RX3 81 RX3 yX3_wonIn wsX3_wonIn) := goodIn_app (goodIn_of _ (by decide +kernel)) ggX3_tried_X3_wonIn
theorem dX3_tried_0 : decode cX3_tried 0 = .ok (.aload_n 0, 1) := by decide +kernel
theorem dX3_tried_1 : decode cX3_tried 1 = .ok (.iload_n 1, 1) := by decide +kernel
theorem dX3_tried_2 : decode cX3_tried 2 = .ok (.ifCond .lt 15, 3) := by decide +kernel
theorem dX3_tried_5 : decode cX3_tried 5 = .ok (.iload_n 1, 1) := by decide +kernel
theorem dX3_tried_6 : decode cX3_tried 6 = .ok (.iconst 3, 1) := by decide +kernel
theorem dX3_tried_7 : decode cX3_tried 7 = .ok (.if_icmp .gt 10, 3) := by decide +kernel
theorem dX3_tried_10 : decode cX3_tried 10 = .ok (.iload_n 2, 1) := by decide +kernel
theorem dX3_tried_11 : decode cX3_tried 11 = .ok (.invokestatic 108, 3) := by decide +kernel
theorem dX3_tried_14 : decode cX3_tried 14 = .ok (.ifCond .ne 7, 3) := by decide +kernel
theorem dX3_tried_17 : decode cX3_tried 17 = .ok (.iconst 1, 1) := by decide +kernel
theorem dX3_tried_18 : decode cX3_tried 18 = .ok (.goto 4, 3) := by decide +kernel
theorem dX3_tried_21 : decode cX3_tried 21 = .ok (.iconst 0, 1) := by decide +kernel
theorem dX3_tried_22 : decode cX3_tried 22 = .ok (.invokevirtual 98, 3) := by decide +kernel
theorem dX3_tried_25 : decode cX3_tried 25 = .ok (.ifCond .eq 5, 3) := by decide +kernel
theorem dX3_tried_28 : decode cX3_tried 28 = .ok (.iconst 0, 1) := by decide +kernel
theorem dX3_tried_29 : decode cX3_tried 29 = .ok (.ireturn, 1) := by decide +kernel
theorem dX3_tried_30 : decode cX3_tried 30 = .ok (.aload_n 0, 1) := by decide +kernel
theorem dX3_tried_31 : decode cX3_tried 31 = .ok (.iload_n 2, 1) := by decide +kernel
theorem dX3_tried_32 : decode cX3_tried 32 = .ok (.invokevirtual 158, 3) := by decide +kernel
theorem dX3_tried_35 : decode cX3_tried 35 = .ok (.bipush 64, 2) := by decide +kernel
theorem dX3_tried_37 : decode cX3_tried 37 = .ok (.if_icmp .le 8, 3) := by decide +kernel
theorem dX3_tried_40 : decode cX3_tried 40 = .ok (.bipush (-9), 2) := by decide +kernel
theorem dX3_tried_42 : decode cX3_tried 42 = .ok (.goto 9, 3) := by decide +kernel
theorem dX3_tried_45 : decode cX3_tried 45 = .ok (.aload_n 0, 1) := by decide +kernel
theorem dX3_tried_46 : decode cX3_tried 46 = .ok (.iload_n 1, 1) := by decide +kernel
theorem dX3_tried_47 : decode cX3_tried 47 = .ok (.iload_n 2, 1) := by decide +kernel
theorem dX3_tried_48 : decode cX3_tried 48 = .ok (.invokevirtual 81, 3) := by decide +kernel
theorem dX3_tried_51 : decode cX3_tried 51 = .ok (.ireturn, 1) := by decide +kernel
set_option maxRecDepth 20000 in
theorem ggX3_withGoal_X3_isPlace : GoodIn wsX3_withGoal wsX3_isPlace := goodIn_rc _ [(0, 6), (0, 7), (1, 31), (2, 0), (2, 1), (2, 2), (2, 3), (2, 4), (2, 5), (2, 6), (2, 7), (2, 8), (2, 9)] (by rfl) (by decide +kernel)
set_option maxRecDepth 20000 in
theorem gX3_withGoal_X3_isPlace : GoodIn wsX3_withGoal (wsV RX3 104 RX3 yX3_isPlace wsX3_isPlace) := goodIn_app (goodIn_of _ (by decide +kernel)) ggX3_withGoal_X3_isPlace
set_option maxRecDepth 20000 in
theorem ggX3_withGoal_X3_isSide : GoodIn wsX3_withGoal wsX3_isSide := goodIn_rc _ [(0, 10)] (by rfl) (by decide +kernel)
set_option maxRecDepth 20000 in
theorem gX3_withGoal_X3_isSide : GoodIn wsX3_withGoal (va_wsS RX3 108 yX3_isSide wsX3_isSide) := goodIn_app (goodIn_of _ (by decide +kernel)) ggX3_withGoal_X3_isSide
set_option maxRecDepth 20000 in
theorem ggX3_withGoal_X3_isThrown : GoodIn wsX3_withGoal wsX3_isThrown := goodIn_rc _ [(0, 14), (0, 15), (1, 31), (2, 0), (2, 1), (2, 2), (2, 3), (2, 4), (2, 5), (2, 6), (2, 7), (2, 8), (2, 9)] (by rfl) (by decide +kernel)
set_option maxRecDepth 20000 in
theorem gX3_withGoal_X3_isThrown : GoodIn wsX3_withGoal (wsV RX3 88 RX3 yX3_isThrown wsX3_isThrown) := goodIn_app (goodIn_of _ (by decide +kernel)) ggX3_withGoal_X3_isThrown
set_option maxRecDepth 20000 in
theorem ggX3_withGoal_X3_wonIn : GoodIn wsX3_withGoal wsX3_wonIn := goodIn_rc _ [(0, 19), (0, 20), (0, 21), (0, 22), (0, 5), (0, 23), (0, 1), (0, 24), (0, 25), (0, 26), (0, 27), (0, 28), (0, 29), (0, 30), (0, 31), (0, 7), (1, 0), (1, 1), (1, 2), (1, 3), (1, 4), (1, 5), (1, 6), (1, 7), (1, 8), (1, 9), (1, 10), (1, 11), (1, 12), (1, 13), (1, 14), (1, 15), (1, 16), (1, 17), (1, 18), (1, 19), (1, 20), (1, 21), (1, 22), (1, 23), (1, 24), (1, 25), (1, 26), (1, 27), (1, 28), (1, 29), (1, 30), (1, 31), (2, 0), (2, 1), (2, 2), (2, 3), (2, 4), (2, 5), (2, 6), (2, 7), (2, 8), (2, 9)] (by rfl) (by decide +kernel)
set_option maxRecDepth 20000 in
theorem gX3_withGoal_X3_wonIn : GoodIn wsX3_withGoal (wsV RX3 81 RX3 yX3_wonIn wsX3_wonIn) := goodIn_app (goodIn_of _ (by decide +kernel)) ggX3_withGoal_X3_wonIn
theorem dX3_withGoal_0 : decode cX3_withGoal 0 = .ok (.aload_n 0, 1) := by decide +kernel
theorem dX3_withGoal_1 : decode cX3_withGoal 1 = .ok (.aload_n 0, 1) := by decide +kernel
theorem dX3_withGoal_2 : decode cX3_withGoal 2 = .ok (.iload_n 3, 1) := by decide +kernel
theorem dX3_withGoal_3 : decode cX3_withGoal 3 = .ok (.invokevirtual 104, 3) := by decide +kernel
theorem dX3_withGoal_6 : decode cX3_withGoal 6 = .ok (.ifCond .ne 7, 3) := by decide +kernel
theorem dX3_withGoal_9 : decode cX3_withGoal 9 = .ok (.iconst 1, 1) := by decide +kernel
theorem dX3_withGoal_10 : decode cX3_withGoal 10 = .ok (.goto 4, 3) := by decide +kernel
theorem dX3_withGoal_13 : decode cX3_withGoal 13 = .ok (.iconst 0, 1) := by decide +kernel
theorem dX3_withGoal_14 : decode cX3_withGoal 14 = .ok (.iload_n 1, 1) := by decide +kernel
theorem dX3_withGoal_15 : decode cX3_withGoal 15 = .ok (.ifCond .lt 15, 3) := by decide +kernel
theorem dX3_withGoal_18 : decode cX3_withGoal 18 = .ok (.iload_n 1, 1) := by decide +kernel
theorem dX3_withGoal_19 : decode cX3_withGoal 19 = .ok (.iconst 1, 1) := by decide +kernel
theorem dX3_withGoal_20 : decode cX3_withGoal 20 = .ok (.if_icmp .gt 10, 3) := by decide +kernel
theorem dX3_withGoal_23 : decode cX3_withGoal 23 = .ok (.iload_n 2, 1) := by decide +kernel
theorem dX3_withGoal_24 : decode cX3_withGoal 24 = .ok (.invokestatic 108, 3) := by decide +kernel
theorem dX3_withGoal_27 : decode cX3_withGoal 27 = .ok (.ifCond .ne 7, 3) := by decide +kernel
theorem dX3_withGoal_30 : decode cX3_withGoal 30 = .ok (.iconst 1, 1) := by decide +kernel
theorem dX3_withGoal_31 : decode cX3_withGoal 31 = .ok (.goto 4, 3) := by decide +kernel
theorem dX3_withGoal_34 : decode cX3_withGoal 34 = .ok (.iconst 0, 1) := by decide +kernel
theorem dX3_withGoal_35 : decode cX3_withGoal 35 = .ok (.invokevirtual 88, 3) := by decide +kernel
theorem dX3_withGoal_38 : decode cX3_withGoal 38 = .ok (.ifCond .eq 5, 3) := by decide +kernel
theorem dX3_withGoal_41 : decode cX3_withGoal 41 = .ok (.iconst 0, 1) := by decide +kernel
theorem dX3_withGoal_42 : decode cX3_withGoal 42 = .ok (.ireturn, 1) := by decide +kernel
theorem dX3_withGoal_43 : decode cX3_withGoal 43 = .ok (.aload_n 0, 1) := by decide +kernel
theorem dX3_withGoal_44 : decode cX3_withGoal 44 = .ok (.getfield 23, 3) := by decide +kernel
theorem dX3_withGoal_47 : decode cX3_withGoal 47 = .ok (.istore 4, 2) := by decide +kernel
theorem dX3_withGoal_49 : decode cX3_withGoal 49 = .ok (.aload_n 0, 1) := by decide +kernel
theorem dX3_withGoal_50 : decode cX3_withGoal 50 = .ok (.dup, 1) := by decide +kernel
theorem dX3_withGoal_51 : decode cX3_withGoal 51 = .ok (.getfield 23, 3) := by decide +kernel
theorem dX3_withGoal_54 : decode cX3_withGoal 54 = .ok (.iconst 1, 1) := by decide +kernel
theorem dX3_withGoal_55 : decode cX3_withGoal 55 = .ok (.iload_n 3, 1) := by decide +kernel
theorem dX3_withGoal_56 : decode cX3_withGoal 56 = .ok (.ishl, 1) := by decide +kernel
theorem dX3_withGoal_57 : decode cX3_withGoal 57 = .ok (.ior, 1) := by decide +kernel
theorem dX3_withGoal_58 : decode cX3_withGoal 58 = .ok (.putfield 23, 3) := by decide +kernel
theorem dX3_withGoal_61 : decode cX3_withGoal 61 = .ok (.aload_n 0, 1) := by decide +kernel
theorem dX3_withGoal_62 : decode cX3_withGoal 62 = .ok (.iconst 2, 1) := by decide +kernel
theorem dX3_withGoal_63 : decode cX3_withGoal 63 = .ok (.iload_n 1, 1) := by decide +kernel
theorem dX3_withGoal_64 : decode cX3_withGoal 64 = .ok (.imul, 1) := by decide +kernel
theorem dX3_withGoal_65 : decode cX3_withGoal 65 = .ok (.iload_n 2, 1) := by decide +kernel
theorem dX3_withGoal_66 : decode cX3_withGoal 66 = .ok (.invokevirtual 81, 3) := by decide +kernel
theorem dX3_withGoal_69 : decode cX3_withGoal 69 = .ok (.istore 5, 2) := by decide +kernel
theorem dX3_withGoal_71 : decode cX3_withGoal 71 = .ok (.aload_n 0, 1) := by decide +kernel
theorem dX3_withGoal_72 : decode cX3_withGoal 72 = .ok (.iload 4, 2) := by decide +kernel
theorem dX3_withGoal_74 : decode cX3_withGoal 74 = .ok (.putfield 23, 3) := by decide +kernel
theorem dX3_withGoal_77 : decode cX3_withGoal 77 = .ok (.iload 5, 2) := by decide +kernel
theorem dX3_withGoal_79 : decode cX3_withGoal 79 = .ok (.ireturn, 1) := by decide +kernel
set_option maxRecDepth 20000 in
theorem ggX3_withWay_X3_isPlace : GoodIn wsX3_withWay wsX3_isPlace := goodIn_rc _ [(0, 6), (0, 7), (1, 31), (2, 0), (2, 1), (2, 2), (2, 3), (2, 4), (2, 5), (2, 6), (2, 7), (2, 8), (2, 9)] (by rfl) (by decide +kernel)
set_option maxRecDepth 20000 in
theorem gX3_withWay_X3_isPlace : GoodIn wsX3_withWay (wsV RX3 104 RX3 yX3_isPlace wsX3_isPlace) := goodIn_app (goodIn_of _ (by decide +kernel)) ggX3_withWay_X3_isPlace
set_option maxRecDepth 20000 in
theorem ggX3_withWay_X3_isSide : GoodIn wsX3_withWay wsX3_isSide := goodIn_rc _ [(0, 10)] (by rfl) (by decide +kernel)
set_option maxRecDepth 20000 in
theorem gX3_withWay_X3_isSide : GoodIn wsX3_withWay (va_wsS RX3 108 yX3_isSide wsX3_isSide) := goodIn_app (goodIn_of _ (by decide +kernel)) ggX3_withWay_X3_isSide
set_option maxRecDepth 20000 in
theorem ggX3_withWay_X3_isThrown : GoodIn wsX3_withWay wsX3_isThrown := goodIn_rc _ [(0, 14), (0, 15), (1, 31), (2, 0), (2, 1), (2, 2), (2, 3), (2, 4), (2, 5), (2, 6), (2, 7), (2, 8), (2, 9)] (by rfl) (by decide +kernel)
set_option maxRecDepth 20000 in
theorem gX3_withWay_X3_isThrown : GoodIn wsX3_withWay (wsV RX3 88 RX3 yX3_isThrown wsX3_isThrown) := goodIn_app (goodIn_of _ (by decide +kernel)) ggX3_withWay_X3_isThrown
set_option maxRecDepth 20000 in
theorem ggX3_withWay_X3_wonIn : GoodIn wsX3_withWay wsX3_wonIn := goodIn_rc _ [(0, 19), (0, 20), (0, 21), (0, 22), (0, 5), (0, 23), (0, 24), (0, 25), (0, 26), (0, 27), (0, 28), (0, 29), (0, 30), (0, 31), (1, 0), (0, 7), (0, 1), (1, 1), (1, 2), (1, 3), (1, 4), (1, 5), (1, 6), (1, 7), (1, 8), (1, 9), (1, 10), (1, 11), (1, 12), (1, 13), (1, 14), (1, 15), (1, 16), (1, 17), (1, 18), (1, 19), (1, 20), (1, 21), (1, 22), (1, 23), (1, 24), (1, 25), (1, 26), (1, 27), (1, 28), (1, 29), (1, 30), (1, 31), (2, 0), (2, 1), (2, 2), (2, 3), (2, 4), (2, 5), (2, 6), (2, 7), (2, 8), (2, 9)] (by rfl) (by decide +kernel)
set_option maxRecDepth 20000 in
theorem gX3_withWay_X3_wonIn : GoodIn wsX3_withWay (wsV RX3 81 RX3 yX3_wonIn wsX3_wonIn) := goodIn_app (goodIn_of _ (by decide +kernel)) ggX3_withWay_X3_wonIn
theorem dX3_withWay_0 : decode cX3_withWay 0 = .ok (.aload_n 0, 1) := by decide +kernel
theorem dX3_withWay_1 : decode cX3_withWay 1 = .ok (.aload_n 0, 1) := by decide +kernel
theorem dX3_withWay_2 : decode cX3_withWay 2 = .ok (.iload_n 3, 1) := by decide +kernel
theorem dX3_withWay_3 : decode cX3_withWay 3 = .ok (.invokevirtual 104, 3) := by decide +kernel
theorem dX3_withWay_6 : decode cX3_withWay 6 = .ok (.ifCond .eq 12, 3) := by decide +kernel
theorem dX3_withWay_9 : decode cX3_withWay 9 = .ok (.aload_n 0, 1) := by decide +kernel
theorem dX3_withWay_10 : decode cX3_withWay 10 = .ok (.iload 4, 2) := by decide +kernel
theorem dX3_withWay_12 : decode cX3_withWay 12 = .ok (.invokevirtual 104, 3) := by decide +kernel
theorem dX3_withWay_15 : decode cX3_withWay 15 = .ok (.ifCond .ne 7, 3) := by decide +kernel
theorem dX3_withWay_18 : decode cX3_withWay 18 = .ok (.iconst 1, 1) := by decide +kernel
theorem dX3_withWay_19 : decode cX3_withWay 19 = .ok (.goto 4, 3) := by decide +kernel
theorem dX3_withWay_22 : decode cX3_withWay 22 = .ok (.iconst 0, 1) := by decide +kernel
theorem dX3_withWay_23 : decode cX3_withWay 23 = .ok (.iload_n 1, 1) := by decide +kernel
theorem dX3_withWay_24 : decode cX3_withWay 24 = .ok (.ifCond .lt 15, 3) := by decide +kernel
theorem dX3_withWay_27 : decode cX3_withWay 27 = .ok (.iload_n 1, 1) := by decide +kernel
theorem dX3_withWay_28 : decode cX3_withWay 28 = .ok (.iconst 3, 1) := by decide +kernel
theorem dX3_withWay_29 : decode cX3_withWay 29 = .ok (.if_icmp .gt 10, 3) := by decide +kernel
theorem dX3_withWay_32 : decode cX3_withWay 32 = .ok (.iload_n 2, 1) := by decide +kernel
theorem dX3_withWay_33 : decode cX3_withWay 33 = .ok (.invokestatic 108, 3) := by decide +kernel
theorem dX3_withWay_36 : decode cX3_withWay 36 = .ok (.ifCond .ne 7, 3) := by decide +kernel
theorem dX3_withWay_39 : decode cX3_withWay 39 = .ok (.iconst 1, 1) := by decide +kernel
theorem dX3_withWay_40 : decode cX3_withWay 40 = .ok (.goto 4, 3) := by decide +kernel
theorem dX3_withWay_43 : decode cX3_withWay 43 = .ok (.iconst 0, 1) := by decide +kernel
theorem dX3_withWay_44 : decode cX3_withWay 44 = .ok (.invokevirtual 88, 3) := by decide +kernel
theorem dX3_withWay_47 : decode cX3_withWay 47 = .ok (.ifCond .eq 5, 3) := by decide +kernel
theorem dX3_withWay_50 : decode cX3_withWay 50 = .ok (.iconst 0, 1) := by decide +kernel
theorem dX3_withWay_51 : decode cX3_withWay 51 = .ok (.ireturn, 1) := by decide +kernel
theorem dX3_withWay_52 : decode cX3_withWay 52 = .ok (.aload_n 0, 1) := by decide +kernel
theorem dX3_withWay_53 : decode cX3_withWay 53 = .ok (.getfield 30, 3) := by decide +kernel
theorem dX3_withWay_56 : decode cX3_withWay 56 = .ok (.iload_n 3, 1) := by decide +kernel
theorem dX3_withWay_57 : decode cX3_withWay 57 = .ok (.iaload, 1) := by decide +kernel
theorem dX3_withWay_58 : decode cX3_withWay 58 = .ok (.istore 5, 2) := by decide +kernel
theorem dX3_withWay_60 : decode cX3_withWay 60 = .ok (.aload_n 0, 1) := by decide +kernel
theorem dX3_withWay_61 : decode cX3_withWay 61 = .ok (.getfield 30, 3) := by decide +kernel
theorem dX3_withWay_64 : decode cX3_withWay 64 = .ok (.iload_n 3, 1) := by decide +kernel
theorem dX3_withWay_65 : decode cX3_withWay 65 = .ok (.dup2, 1) := by decide +kernel
theorem dX3_withWay_66 : decode cX3_withWay 66 = .ok (.iaload, 1) := by decide +kernel
theorem dX3_withWay_67 : decode cX3_withWay 67 = .ok (.iconst 1, 1) := by decide +kernel
theorem dX3_withWay_68 : decode cX3_withWay 68 = .ok (.iload 4, 2) := by decide +kernel
theorem dX3_withWay_70 : decode cX3_withWay 70 = .ok (.ishl, 1) := by decide +kernel
theorem dX3_withWay_71 : decode cX3_withWay 71 = .ok (.ior, 1) := by decide +kernel
theorem dX3_withWay_72 : decode cX3_withWay 72 = .ok (.iastore, 1) := by decide +kernel
theorem dX3_withWay_73 : decode cX3_withWay 73 = .ok (.aload_n 0, 1) := by decide +kernel
theorem dX3_withWay_74 : decode cX3_withWay 74 = .ok (.iload_n 1, 1) := by decide +kernel
theorem dX3_withWay_75 : decode cX3_withWay 75 = .ok (.iload_n 2, 1) := by decide +kernel
theorem dX3_withWay_76 : decode cX3_withWay 76 = .ok (.invokevirtual 81, 3) := by decide +kernel
theorem dX3_withWay_79 : decode cX3_withWay 79 = .ok (.istore 6, 2) := by decide +kernel
theorem dX3_withWay_81 : decode cX3_withWay 81 = .ok (.aload_n 0, 1) := by decide +kernel
theorem dX3_withWay_82 : decode cX3_withWay 82 = .ok (.getfield 30, 3) := by decide +kernel
theorem dX3_withWay_85 : decode cX3_withWay 85 = .ok (.iload_n 3, 1) := by decide +kernel
theorem dX3_withWay_86 : decode cX3_withWay 86 = .ok (.iload 5, 2) := by decide +kernel
theorem dX3_withWay_88 : decode cX3_withWay 88 = .ok (.iastore, 1) := by decide +kernel
theorem dX3_withWay_89 : decode cX3_withWay 89 = .ok (.iload 6, 2) := by decide +kernel
theorem dX3_withWay_91 : decode cX3_withWay 91 = .ok (.ireturn, 1) := by decide +kernel
set_option maxRecDepth 20000 in
theorem ggX3_house_X3_isThrown_ : GoodIn wsX3_house wsX3_isThrown_ := goodIn_rc _ [(0, 8), (0, 9), (0, 10), (0, 11), (0, 7), (0, 12), (0, 13), (0, 14), (0, 15), (0, 16), (0, 17), (0, 18), (0, 19), (0, 20), (0, 21), (0, 22), (0, 23), (0, 24)] (by rfl) (by decide +kernel)
set_option maxRecDepth 20000 in
theorem gX3_house_X3_isThrown_ : GoodIn wsX3_house (wsV RX3 98 RX3 yX3_isThrown_ wsX3_isThrown_) := goodIn_app (goodIn_of _ (by decide +kernel)) ggX3_house_X3_isThrown_
theorem dX3_house_0 : decode cX3_house 0 = .ok (.aload_n 0, 1) := by decide +kernel
theorem dX3_house_1 : decode cX3_house 1 = .ok (.iload_n 1, 1) := by decide +kernel
theorem dX3_house_2 : decode cX3_house 2 = .ok (.ifCond .lt 8, 3) := by decide +kernel
theorem dX3_house_5 : decode cX3_house 5 = .ok (.iload_n 1, 1) := by decide +kernel
theorem dX3_house_6 : decode cX3_house 6 = .ok (.iconst 2, 1) := by decide +kernel
theorem dX3_house_7 : decode cX3_house 7 = .ok (.if_icmp .le 7, 3) := by decide +kernel
theorem dX3_house_10 : decode cX3_house 10 = .ok (.iconst 1, 1) := by decide +kernel
theorem dX3_house_11 : decode cX3_house 11 = .ok (.goto 4, 3) := by decide +kernel
theorem dX3_house_14 : decode cX3_house 14 = .ok (.iconst 0, 1) := by decide +kernel
theorem dX3_house_15 : decode cX3_house 15 = .ok (.invokevirtual 98, 3) := by decide +kernel
theorem dX3_house_18 : decode cX3_house 18 = .ok (.ifCond .eq 7, 3) := by decide +kernel
theorem dX3_house_21 : decode cX3_house 21 = .ok (.iconst 0, 1) := by decide +kernel
theorem dX3_house_22 : decode cX3_house 22 = .ok (.goto 30, 3) := by decide +kernel
theorem dX3_house_25 : decode cX3_house 25 = .ok (.iload_n 1, 1) := by decide +kernel
theorem dX3_house_26 : decode cX3_house 26 = .ok (.ifCond .ne 10, 3) := by decide +kernel
theorem dX3_house_29 : decode cX3_house 29 = .ok (.aload_n 0, 1) := by decide +kernel
theorem dX3_house_30 : decode cX3_house 30 = .ok (.getfield 92, 3) := by decide +kernel
theorem dX3_house_33 : decode cX3_house 33 = .ok (.goto 19, 3) := by decide +kernel
theorem dX3_house_36 : decode cX3_house 36 = .ok (.iload_n 1, 1) := by decide +kernel
theorem dX3_house_37 : decode cX3_house 37 = .ok (.iconst 1, 1) := by decide +kernel
theorem dX3_house_38 : decode cX3_house 38 = .ok (.if_icmp .ne 10, 3) := by decide +kernel
theorem dX3_house_41 : decode cX3_house 41 = .ok (.aload_n 0, 1) := by decide +kernel
theorem dX3_house_42 : decode cX3_house 42 = .ok (.getfield 95, 3) := by decide +kernel
theorem dX3_house_45 : decode cX3_house 45 = .ok (.goto 7, 3) := by decide +kernel
theorem dX3_house_48 : decode cX3_house 48 = .ok (.aload_n 0, 1) := by decide +kernel
theorem dX3_house_49 : decode cX3_house 49 = .ok (.getfield 161, 3) := by decide +kernel
theorem dX3_house_52 : decode cX3_house 52 = .ok (.ireturn, 1) := by decide +kernel
theorem dX3_knock_0 : decode cX3_knock 0 = .ok (.aload_n 0, 1) := by decide +kernel
theorem dX3_knock_1 : decode cX3_knock 1 = .ok (.iconst 0, 1) := by decide +kernel
theorem dX3_knock_2 : decode cX3_knock 2 = .ok (.putfield 13, 3) := by decide +kernel
theorem dX3_knock_5 : decode cX3_knock 5 = .ok (.aload_n 0, 1) := by decide +kernel
theorem dX3_knock_6 : decode cX3_knock 6 = .ok (.dup, 1) := by decide +kernel
theorem dX3_knock_7 : decode cX3_knock 7 = .ok (.getfield 161, 3) := by decide +kernel
theorem dX3_knock_10 : decode cX3_knock 10 = .ok (.iconst 1, 1) := by decide +kernel
theorem dX3_knock_11 : decode cX3_knock 11 = .ok (.iadd, 1) := by decide +kernel
theorem dX3_knock_12 : decode cX3_knock 12 = .ok (.putfield 161, 3) := by decide +kernel
theorem dX3_knock_15 : decode cX3_knock 15 = .ok (.aload_n 0, 1) := by decide +kernel
theorem dX3_knock_16 : decode cX3_knock 16 = .ok (.getfield 161, 3) := by decide +kernel
theorem dX3_knock_19 : decode cX3_knock 19 = .ok (.ireturn, 1) := by decide +kernel
theorem dX3_isSound_0 : decode cX3_isSound 0 = .ok (.aload_n 0, 1) := by decide +kernel
theorem dX3_isSound_1 : decode cX3_isSound 1 = .ok (.iconst 0, 1) := by decide +kernel
theorem dX3_isSound_2 : decode cX3_isSound 2 = .ok (.putfield 13, 3) := by decide +kernel
theorem dX3_isSound_5 : decode cX3_isSound 5 = .ok (.iconst 1, 1) := by decide +kernel
theorem dX3_isSound_6 : decode cX3_isSound 6 = .ok (.ireturn, 1) := by decide +kernel
theorem dX3_add_0 : decode cX3_add 0 = .ok (.lload_n 0, 1) := by decide +kernel
theorem dX3_add_1 : decode cX3_add 1 = .ok (.ldc2_w 164, 3) := by decide +kernel
theorem dX3_add_4 : decode cX3_add 4 = .ok (.lmul, 1) := by decide +kernel
theorem dX3_add_5 : decode cX3_add 5 = .ok (.lload_n 2, 1) := by decide +kernel
theorem dX3_add_6 : decode cX3_add 6 = .ok (.ladd, 1) := by decide +kernel
theorem dX3_add_7 : decode cX3_add 7 = .ok (.lreturn, 1) := by decide +kernel
set_option maxRecDepth 20000 in
theorem ggX3_digest_X3_toldNow : GoodIn wsX3_digest wsX3_toldNow := goodIn_rc _ [(0, 12), (0, 4), (0, 13), (0, 14), (0, 15), (0, 16), (0, 17), (0, 18), (0, 19), (0, 11), (0, 20), (0, 21), (0, 22), (0, 23), (0, 24), (0, 25), (0, 26), (0, 27), (0, 28), (0, 29), (0, 30), (0, 31), (1, 0), (3, 5), (3, 6), (3, 7), (3, 8), (3, 9), (3, 10), (3, 11), (3, 12), (3, 13), (3, 14), (3, 15)] (by rfl) (by decide +kernel)
set_option maxRecDepth 20000 in
theorem gX3_digest_X3_toldNow : GoodIn wsX3_digest (wsV RX3 123 RX3 yX3_toldNow wsX3_toldNow) := goodIn_app (goodIn_of _ (by decide +kernel)) ggX3_digest_X3_toldNow
set_option maxRecDepth 20000 in
theorem ggX3_digest_X3_add : GoodIn wsX3_digest wsX3_add := goodIn_rc _ [(1, 3), (1, 4)] (by rfl) (by decide +kernel)
set_option maxRecDepth 20000 in
theorem gX3_digest_X3_add : GoodIn wsX3_digest (va_wsS RX3 168 yX3_add wsX3_add) := goodIn_app (goodIn_of _ (by decide +kernel)) ggX3_digest_X3_add
set_option maxRecDepth 20000 in
theorem ggX3_digest_X3_comingOf : GoodIn wsX3_digest wsX3_comingOf := goodIn_rc _ [(1, 8), (0, 13), (1, 9), (1, 10), (1, 11), (0, 11), (1, 12), (1, 13), (1, 14), (1, 15), (1, 16), (0, 4), (0, 21), (1, 17), (1, 18), (1, 19), (1, 20), (0, 14), (3, 5), (3, 6), (3, 7), (3, 8), (3, 9), (3, 10), (3, 11), (3, 12), (3, 13), (3, 14), (3, 15)] (by rfl) (by decide +kernel)
set_option maxRecDepth 20000 in
theorem gX3_digest_X3_comingOf : GoodIn wsX3_digest (wsV RX3 59 RX3 yX3_comingOf wsX3_comingOf) := goodIn_app (goodIn_of _ (by decide +kernel)) ggX3_digest_X3_comingOf
set_option maxRecDepth 20000 in
theorem ggX3_digest_X3_againOf : GoodIn wsX3_digest wsX3_againOf := goodIn_rc _ [(1, 24), (1, 25), (1, 26), (1, 27), (0, 11), (1, 28), (0, 4), (1, 29), (1, 30), (1, 31), (2, 0), (0, 13), (1, 13), (1, 14), (1, 15), (1, 16), (0, 21), (1, 17), (1, 18), (1, 19), (1, 20), (0, 14), (1, 9), (1, 10), (1, 11), (1, 12), (3, 5), (3, 6), (3, 7), (3, 8), (3, 9), (3, 10), (3, 11), (3, 12), (3, 13), (3, 14), (3, 15)] (by rfl) (by decide +kernel)
set_option maxRecDepth 20000 in
theorem gX3_digest_X3_againOf : GoodIn wsX3_digest (wsV RX3 71 RX3 yX3_againOf wsX3_againOf) := goodIn_app (goodIn_of _ (by decide +kernel)) ggX3_digest_X3_againOf
set_option maxRecDepth 20000 in
theorem ggX3_digest_X3_ofPlaceNow : GoodIn wsX3_digest wsX3_ofPlaceNow := goodIn_rc _ [(2, 4), (2, 5), (0, 13), (0, 21), (0, 4), (1, 17), (1, 18), (1, 19), (0, 11), (1, 20), (0, 14), (2, 6), (2, 7), (2, 8), (3, 5), (3, 6), (3, 7), (3, 8), (3, 9), (3, 10), (3, 11), (3, 12), (3, 13), (3, 14), (3, 15)] (by rfl) (by decide +kernel)
set_option maxRecDepth 20000 in
theorem gX3_digest_X3_ofPlaceNow : GoodIn wsX3_digest (wsV RX3 126 RX3 yX3_ofPlaceNow wsX3_ofPlaceNow) := goodIn_app (goodIn_of _ (by decide +kernel)) ggX3_digest_X3_ofPlaceNow
set_option maxRecDepth 20000 in
theorem ggX3_digest_X3_roundsTo : GoodIn wsX3_digest wsX3_roundsTo := goodIn_rc _ [(2, 12), (0, 13), (0, 4), (0, 21), (2, 6), (2, 7), (0, 11), (2, 8), (1, 17), (1, 18), (1, 19), (1, 20), (0, 14), (1, 13), (1, 14), (1, 15), (1, 16), (3, 5), (3, 6), (3, 7), (3, 8), (3, 9), (3, 10), (3, 11), (3, 12), (3, 13), (3, 14), (3, 15)] (by rfl) (by decide +kernel)
set_option maxRecDepth 20000 in
theorem gX3_digest_X3_roundsTo : GoodIn wsX3_digest (wsV RX3 84 RX3 yX3_roundsTo wsX3_roundsTo) := goodIn_app (goodIn_of _ (by decide +kernel)) ggX3_digest_X3_roundsTo
set_option maxRecDepth 20000 in
theorem ggX3_digest_X3_keepingOf : GoodIn wsX3_digest wsX3_keepingOf := goodIn_rc _ [(2, 16), (1, 25), (1, 26), (1, 27), (0, 11), (1, 28), (0, 4), (1, 5), (1, 6), (1, 7), (1, 8), (0, 13), (1, 9), (1, 10), (1, 11), (1, 12), (1, 13), (1, 14), (1, 15), (1, 16), (0, 21), (1, 17), (1, 18), (1, 19), (1, 20), (0, 14), (3, 5), (3, 6), (3, 7), (3, 8), (3, 9), (3, 10), (3, 11), (3, 12), (3, 13), (3, 14), (3, 15)] (by rfl) (by decide +kernel)
set_option maxRecDepth 20000 in
theorem gX3_digest_X3_keepingOf : GoodIn wsX3_digest (wsV RX3 68 RX3 yX3_keepingOf wsX3_keepingOf) := goodIn_app (goodIn_of _ (by decide +kernel)) ggX3_digest_X3_keepingOf
set_option maxRecDepth 20000 in
theorem ggX3_digest_X3_wonIn : GoodIn wsX3_digest wsX3_wonIn := goodIn_rc _ [(2, 20), (1, 5), (1, 6), (1, 7), (0, 11), (1, 8), (0, 13), (1, 9), (1, 10), (1, 11), (1, 12), (1, 13), (1, 14), (1, 15), (1, 16), (0, 4), (0, 21), (1, 17), (1, 18), (1, 19), (1, 20), (0, 14), (2, 13), (2, 14), (2, 15), (2, 16), (1, 25), (1, 26), (1, 27), (1, 28), (1, 21), (1, 22), (1, 23), (1, 24), (1, 29), (1, 30), (1, 31), (2, 0), (2, 21), (2, 22), (2, 23), (2, 24), (2, 25), (2, 26), (2, 27), (2, 28), (2, 5), (3, 5), (3, 6), (3, 7), (3, 8), (3, 9), (3, 10), (3, 11), (3, 12), (3, 13), (3, 14), (3, 15)] (by rfl) (by decide +kernel)
set_option maxRecDepth 20000 in
theorem gX3_digest_X3_wonIn : GoodIn wsX3_digest (wsV RX3 81 RX3 yX3_wonIn wsX3_wonIn) := goodIn_app (goodIn_of _ (by decide +kernel)) ggX3_digest_X3_wonIn
set_option maxRecDepth 20000 in
theorem ggX3_digest_X3_fallsOf : GoodIn wsX3_digest wsX3_fallsOf := goodIn_rc _ [(3, 0), (1, 25), (1, 26), (1, 27), (0, 11), (1, 28), (0, 4), (1, 29), (1, 30), (1, 31), (2, 0), (0, 13), (1, 13), (1, 14), (1, 15), (1, 16), (0, 21), (1, 17), (1, 18), (1, 19), (1, 20), (0, 14), (1, 9), (1, 10), (1, 11), (1, 12), (3, 5), (3, 6), (3, 7), (3, 8), (3, 9), (3, 10), (3, 11), (3, 12), (3, 13), (3, 14), (3, 15)] (by rfl) (by decide +kernel)
set_option maxRecDepth 20000 in
theorem gX3_digest_X3_fallsOf : GoodIn wsX3_digest (wsV RX3 150 RX3 yX3_fallsOf wsX3_fallsOf) := goodIn_app (goodIn_of _ (by decide +kernel)) ggX3_digest_X3_fallsOf
set_option maxRecDepth 20000 in
theorem ggX3_digest_X3_choicesOf : GoodIn wsX3_digest wsX3_choicesOf := goodIn_rc _ [(3, 4), (0, 4), (0, 21), (1, 17), (1, 18), (1, 19), (0, 11), (1, 20), (0, 14), (0, 22), (0, 23), (0, 24), (0, 25), (0, 26), (0, 27), (0, 28), (3, 5), (3, 6), (3, 7), (3, 8), (3, 9), (3, 10), (3, 11), (3, 12), (3, 13), (3, 14), (3, 15)] (by rfl) (by decide +kernel)
set_option maxRecDepth 20000 in
theorem gX3_digest_X3_choicesOf : GoodIn wsX3_digest (wsV RX3 158 RX3 yX3_choicesOf wsX3_choicesOf) := goodIn_app (goodIn_of _ (by decide +kernel)) ggX3_digest_X3_choicesOf
theorem dX3_digest_0 : decode cX3_digest 0 = .ok (.aload_n 0, 1) := by decide +kernel
theorem dX3_digest_1 : decode cX3_digest 1 = .ok (.iconst 0, 1) := by decide +kernel
theorem dX3_digest_2 : decode cX3_digest 2 = .ok (.putfield 13, 3) := by decide +kernel
theorem dX3_digest_5 : decode cX3_digest 5 = .ok (.ldc2_w 166, 3) := by decide +kernel
theorem dX3_digest_8 : decode cX3_digest 8 = .ok (.lstore_n 1, 1) := by decide +kernel
theorem dX3_digest_9 : decode cX3_digest 9 = .ok (.iconst 0, 1) := by decide +kernel
theorem dX3_digest_10 : decode cX3_digest 10 = .ok (.istore_n 3, 1) := by decide +kernel
theorem dX3_digest_11 : decode cX3_digest 11 = .ok (.iload_n 3, 1) := by decide +kernel
theorem dX3_digest_12 : decode cX3_digest 12 = .ok (.bipush 6, 2) := by decide +kernel
theorem dX3_digest_14 : decode cX3_digest 14 = .ok (.if_icmp .gt 20, 3) := by decide +kernel
theorem dX3_digest_17 : decode cX3_digest 17 = .ok (.lload_n 1, 1) := by decide +kernel
theorem dX3_digest_18 : decode cX3_digest 18 = .ok (.aload_n 0, 1) := by decide +kernel
theorem dX3_digest_19 : decode cX3_digest 19 = .ok (.iload_n 3, 1) := by decide +kernel
theorem dX3_digest_20 : decode cX3_digest 20 = .ok (.invokevirtual 123, 3) := by decide +kernel
theorem dX3_digest_23 : decode cX3_digest 23 = .ok (.i2l, 1) := by decide +kernel
theorem dX3_digest_24 : decode cX3_digest 24 = .ok (.invokestatic 168, 3) := by decide +kernel
theorem dX3_digest_27 : decode cX3_digest 27 = .ok (.lstore_n 1, 1) := by decide +kernel
theorem dX3_digest_28 : decode cX3_digest 28 = .ok (.iinc 3 1, 3) := by decide +kernel
theorem dX3_digest_31 : decode cX3_digest 31 = .ok (.goto (-20), 3) := by decide +kernel
theorem dX3_digest_34 : decode cX3_digest 34 = .ok (.iconst 2, 1) := by decide +kernel
theorem dX3_digest_35 : decode cX3_digest 35 = .ok (.newarray .int, 2) := by decide +kernel
theorem dX3_digest_37 : decode cX3_digest 37 = .ok (.dup, 1) := by decide +kernel
theorem dX3_digest_38 : decode cX3_digest 38 = .ok (.iconst 0, 1) := by decide +kernel
theorem dX3_digest_39 : decode cX3_digest 39 = .ok (.aload_n 0, 1) := by decide +kernel
theorem dX3_digest_40 : decode cX3_digest 40 = .ok (.iconst 0, 1) := by decide +kernel
theorem dX3_digest_41 : decode cX3_digest 41 = .ok (.invokevirtual 59, 3) := by decide +kernel
theorem dX3_digest_44 : decode cX3_digest 44 = .ok (.iastore, 1) := by decide +kernel
theorem dX3_digest_45 : decode cX3_digest 45 = .ok (.dup, 1) := by decide +kernel
theorem dX3_digest_46 : decode cX3_digest 46 = .ok (.iconst 1, 1) := by decide +kernel
theorem dX3_digest_47 : decode cX3_digest 47 = .ok (.aload_n 0, 1) := by decide +kernel
theorem dX3_digest_48 : decode cX3_digest 48 = .ok (.iconst 1, 1) := by decide +kernel
theorem dX3_digest_49 : decode cX3_digest 49 = .ok (.invokevirtual 59, 3) := by decide +kernel
theorem dX3_digest_52 : decode cX3_digest 52 = .ok (.iastore, 1) := by decide +kernel
theorem dX3_digest_53 : decode cX3_digest 53 = .ok (.astore_n 3, 1) := by decide +kernel
theorem dX3_digest_54 : decode cX3_digest 54 = .ok (.iconst 2, 1) := by decide +kernel
theorem dX3_digest_55 : decode cX3_digest 55 = .ok (.newarray .int, 2) := by decide +kernel
theorem dX3_digest_57 : decode cX3_digest 57 = .ok (.dup, 1) := by decide +kernel
theorem dX3_digest_58 : decode cX3_digest 58 = .ok (.iconst 0, 1) := by decide +kernel
theorem dX3_digest_59 : decode cX3_digest 59 = .ok (.aload_n 0, 1) := by decide +kernel
theorem dX3_digest_60 : decode cX3_digest 60 = .ok (.iconst 0, 1) := by decide +kernel
theorem dX3_digest_61 : decode cX3_digest 61 = .ok (.invokevirtual 71, 3) := by decide +kernel
theorem dX3_digest_64 : decode cX3_digest 64 = .ok (.iastore, 1) := by decide +kernel
theorem dX3_digest_65 : decode cX3_digest 65 = .ok (.dup, 1) := by decide +kernel
theorem dX3_digest_66 : decode cX3_digest 66 = .ok (.iconst 1, 1) := by decide +kernel
theorem dX3_digest_67 : decode cX3_digest 67 = .ok (.aload_n 0, 1) := by decide +kernel
theorem dX3_digest_68 : decode cX3_digest 68 = .ok (.iconst 1, 1) := by decide +kernel
theorem dX3_digest_69 : decode cX3_digest 69 = .ok (.invokevirtual 71, 3) := by decide +kernel
theorem dX3_digest_72 : decode cX3_digest 72 = .ok (.iastore, 1) := by decide +kernel
theorem dX3_digest_73 : decode cX3_digest 73 = .ok (.astore 4, 2) := by decide +kernel
theorem dX3_digest_75 : decode cX3_digest 75 = .ok (.iconst 0, 1) := by decide +kernel
theorem dX3_digest_76 : decode cX3_digest 76 = .ok (.istore 5, 2) := by decide +kernel
theorem dX3_digest_78 : decode cX3_digest 78 = .ok (.iload 5, 2) := by decide +kernel
theorem dX3_digest_80 : decode cX3_digest 80 = .ok (.aload_n 0, 1) := by decide +kernel
theorem dX3_digest_81 : decode cX3_digest 81 = .ok (.getfield 17, 3) := by decide +kernel
theorem dX3_digest_84 : decode cX3_digest 84 = .ok (.if_icmp .ge 105, 3) := by decide +kernel
theorem dX3_digest_87 : decode cX3_digest 87 = .ok (.iconst 0, 1) := by decide +kernel
theorem dX3_digest_88 : decode cX3_digest 88 = .ok (.istore 6, 2) := by decide +kernel
theorem dX3_digest_90 : decode cX3_digest 90 = .ok (.iload 6, 2) := by decide +kernel
theorem dX3_digest_92 : decode cX3_digest 92 = .ok (.iconst 3, 1) := by decide +kernel
theorem dX3_digest_93 : decode cX3_digest 93 = .ok (.if_icmp .gt 23, 3) := by decide +kernel
theorem dX3_digest_96 : decode cX3_digest 96 = .ok (.lload_n 1, 1) := by decide +kernel
theorem dX3_digest_97 : decode cX3_digest 97 = .ok (.aload_n 0, 1) := by decide +kernel
theorem dX3_digest_98 : decode cX3_digest 98 = .ok (.iload 5, 2) := by decide +kernel
theorem dX3_digest_100 : decode cX3_digest 100 = .ok (.iload 6, 2) := by decide +kernel
theorem dX3_digest_102 : decode cX3_digest 102 = .ok (.invokevirtual 126, 3) := by decide +kernel
theorem dX3_digest_105 : decode cX3_digest 105 = .ok (.i2l, 1) := by decide +kernel
theorem dX3_digest_106 : decode cX3_digest 106 = .ok (.invokestatic 168, 3) := by decide +kernel
theorem dX3_digest_109 : decode cX3_digest 109 = .ok (.lstore_n 1, 1) := by decide +kernel
theorem dX3_digest_110 : decode cX3_digest 110 = .ok (.iinc 6 1, 3) := by decide +kernel
theorem dX3_digest_113 : decode cX3_digest 113 = .ok (.goto (-23), 3) := by decide +kernel
theorem dX3_digest_116 : decode cX3_digest 116 = .ok (.iconst 0, 1) := by decide +kernel
theorem dX3_digest_117 : decode cX3_digest 117 = .ok (.istore 6, 2) := by decide +kernel
theorem dX3_digest_119 : decode cX3_digest 119 = .ok (.iload 6, 2) := by decide +kernel
theorem dX3_digest_121 : decode cX3_digest 121 = .ok (.iconst 2, 1) := by decide +kernel
theorem dX3_digest_122 : decode cX3_digest 122 = .ok (.if_icmp .ge 27, 3) := by decide +kernel
theorem dX3_digest_125 : decode cX3_digest 125 = .ok (.lload_n 1, 1) := by decide +kernel
theorem dX3_digest_126 : decode cX3_digest 126 = .ok (.aload_n 0, 1) := by decide +kernel
theorem dX3_digest_127 : decode cX3_digest 127 = .ok (.aload_n 3, 1) := by decide +kernel
theorem dX3_digest_128 : decode cX3_digest 128 = .ok (.iload 6, 2) := by decide +kernel
theorem dX3_digest_130 : decode cX3_digest 130 = .ok (.iaload, 1) := by decide +kernel
theorem dX3_digest_131 : decode cX3_digest 131 = .ok (.iload 6, 2) := by decide +kernel
theorem dX3_digest_133 : decode cX3_digest 133 = .ok (.iload 5, 2) := by decide +kernel
theorem dX3_digest_135 : decode cX3_digest 135 = .ok (.invokevirtual 84, 3) := by decide +kernel
theorem dX3_digest_138 : decode cX3_digest 138 = .ok (.i2l, 1) := by decide +kernel
theorem dX3_digest_139 : decode cX3_digest 139 = .ok (.invokestatic 168, 3) := by decide +kernel
theorem dX3_digest_142 : decode cX3_digest 142 = .ok (.lstore_n 1, 1) := by decide +kernel
theorem dX3_digest_143 : decode cX3_digest 143 = .ok (.iinc 6 1, 3) := by decide +kernel
theorem dX3_digest_146 : decode cX3_digest 146 = .ok (.goto (-27), 3) := by decide +kernel
theorem dX3_digest_149 : decode cX3_digest 149 = .ok (.iconst 0, 1) := by decide +kernel
theorem dX3_digest_150 : decode cX3_digest 150 = .ok (.istore 6, 2) := by decide +kernel
theorem dX3_digest_152 : decode cX3_digest 152 = .ok (.iload 6, 2) := by decide +kernel
theorem dX3_digest_154 : decode cX3_digest 154 = .ok (.iconst 2, 1) := by decide +kernel
theorem dX3_digest_155 : decode cX3_digest 155 = .ok (.if_icmp .ge 28, 3) := by decide +kernel
theorem dX3_digest_158 : decode cX3_digest 158 = .ok (.lload_n 1, 1) := by decide +kernel
theorem dX3_digest_159 : decode cX3_digest 159 = .ok (.aload_n 0, 1) := by decide +kernel
theorem dX3_digest_160 : decode cX3_digest 160 = .ok (.aload 4, 2) := by decide +kernel
theorem dX3_digest_162 : decode cX3_digest 162 = .ok (.iload 6, 2) := by decide +kernel
theorem dX3_digest_164 : decode cX3_digest 164 = .ok (.iaload, 1) := by decide +kernel
theorem dX3_digest_165 : decode cX3_digest 165 = .ok (.iload 6, 2) := by decide +kernel
theorem dX3_digest_167 : decode cX3_digest 167 = .ok (.iload 5, 2) := by decide +kernel
theorem dX3_digest_169 : decode cX3_digest 169 = .ok (.invokevirtual 84, 3) := by decide +kernel
theorem dX3_digest_172 : decode cX3_digest 172 = .ok (.i2l, 1) := by decide +kernel
theorem dX3_digest_173 : decode cX3_digest 173 = .ok (.invokestatic 168, 3) := by decide +kernel
theorem dX3_digest_176 : decode cX3_digest 176 = .ok (.lstore_n 1, 1) := by decide +kernel
theorem dX3_digest_177 : decode cX3_digest 177 = .ok (.iinc 6 1, 3) := by decide +kernel
theorem dX3_digest_180 : decode cX3_digest 180 = .ok (.goto (-28), 3) := by decide +kernel
theorem dX3_digest_183 : decode cX3_digest 183 = .ok (.iinc 5 1, 3) := by decide +kernel
theorem dX3_digest_186 : decode cX3_digest 186 = .ok (.goto (-108), 3) := by decide +kernel
theorem dX3_digest_189 : decode cX3_digest 189 = .ok (.iconst 0, 1) := by decide +kernel
theorem dX3_digest_190 : decode cX3_digest 190 = .ok (.istore 5, 2) := by decide +kernel
theorem dX3_digest_192 : decode cX3_digest 192 = .ok (.iload 5, 2) := by decide +kernel
theorem dX3_digest_194 : decode cX3_digest 194 = .ok (.iconst 2, 1) := by decide +kernel
theorem dX3_digest_195 : decode cX3_digest 195 = .ok (.if_icmp .ge 71, 3) := by decide +kernel
theorem dX3_digest_198 : decode cX3_digest 198 = .ok (.lload_n 1, 1) := by decide +kernel
theorem dX3_digest_199 : decode cX3_digest 199 = .ok (.aload_n 3, 1) := by decide +kernel
theorem dX3_digest_200 : decode cX3_digest 200 = .ok (.iload 5, 2) := by decide +kernel
theorem dX3_digest_202 : decode cX3_digest 202 = .ok (.iaload, 1) := by decide +kernel
theorem dX3_digest_203 : decode cX3_digest 203 = .ok (.i2l, 1) := by decide +kernel
theorem dX3_digest_204 : decode cX3_digest 204 = .ok (.invokestatic 168, 3) := by decide +kernel
theorem dX3_digest_207 : decode cX3_digest 207 = .ok (.aload_n 0, 1) := by decide +kernel
theorem dX3_digest_208 : decode cX3_digest 208 = .ok (.iload 5, 2) := by decide +kernel
theorem dX3_digest_210 : decode cX3_digest 210 = .ok (.invokevirtual 68, 3) := by decide +kernel
theorem dX3_digest_213 : decode cX3_digest 213 = .ok (.i2l, 1) := by decide +kernel
theorem dX3_digest_214 : decode cX3_digest 214 = .ok (.invokestatic 168, 3) := by decide +kernel
theorem dX3_digest_217 : decode cX3_digest 217 = .ok (.aload 4, 2) := by decide +kernel
theorem dX3_digest_219 : decode cX3_digest 219 = .ok (.iload 5, 2) := by decide +kernel
theorem dX3_digest_221 : decode cX3_digest 221 = .ok (.iaload, 1) := by decide +kernel
theorem dX3_digest_222 : decode cX3_digest 222 = .ok (.i2l, 1) := by decide +kernel
theorem dX3_digest_223 : decode cX3_digest 223 = .ok (.invokestatic 168, 3) := by decide +kernel
theorem dX3_digest_226 : decode cX3_digest 226 = .ok (.lstore_n 1, 1) := by decide +kernel
theorem dX3_digest_227 : decode cX3_digest 227 = .ok (.lload_n 1, 1) := by decide +kernel
theorem dX3_digest_228 : decode cX3_digest 228 = .ok (.aload_n 0, 1) := by decide +kernel
theorem dX3_digest_229 : decode cX3_digest 229 = .ok (.iconst 3, 1) := by decide +kernel
theorem dX3_digest_230 : decode cX3_digest 230 = .ok (.iload 5, 2) := by decide +kernel
theorem dX3_digest_232 : decode cX3_digest 232 = .ok (.invokevirtual 81, 3) := by decide +kernel
theorem dX3_digest_235 : decode cX3_digest 235 = .ok (.i2l, 1) := by decide +kernel
theorem dX3_digest_236 : decode cX3_digest 236 = .ok (.invokestatic 168, 3) := by decide +kernel
theorem dX3_digest_239 : decode cX3_digest 239 = .ok (.aload_n 0, 1) := by decide +kernel
theorem dX3_digest_240 : decode cX3_digest 240 = .ok (.iload 5, 2) := by decide +kernel
theorem dX3_digest_242 : decode cX3_digest 242 = .ok (.invokevirtual 150, 3) := by decide +kernel
theorem dX3_digest_245 : decode cX3_digest 245 = .ok (.i2l, 1) := by decide +kernel
theorem dX3_digest_246 : decode cX3_digest 246 = .ok (.invokestatic 168, 3) := by decide +kernel
theorem dX3_digest_249 : decode cX3_digest 249 = .ok (.aload_n 0, 1) := by decide +kernel
theorem dX3_digest_250 : decode cX3_digest 250 = .ok (.iload 5, 2) := by decide +kernel
theorem dX3_digest_252 : decode cX3_digest 252 = .ok (.invokevirtual 158, 3) := by decide +kernel
theorem dX3_digest_255 : decode cX3_digest 255 = .ok (.i2l, 1) := by decide +kernel
theorem dX3_digest_256 : decode cX3_digest 256 = .ok (.invokestatic 168, 3) := by decide +kernel
theorem dX3_digest_259 : decode cX3_digest 259 = .ok (.lstore_n 1, 1) := by decide +kernel
theorem dX3_digest_260 : decode cX3_digest 260 = .ok (.iinc 5 1, 3) := by decide +kernel
theorem dX3_digest_263 : decode cX3_digest 263 = .ok (.goto (-71), 3) := by decide +kernel
theorem dX3_digest_266 : decode cX3_digest 266 = .ok (.lload_n 1, 1) := by decide +kernel
theorem dX3_digest_267 : decode cX3_digest 267 = .ok (.aload_n 0, 1) := by decide +kernel
theorem dX3_digest_268 : decode cX3_digest 268 = .ok (.getfield 92, 3) := by decide +kernel
theorem dX3_digest_271 : decode cX3_digest 271 = .ok (.i2l, 1) := by decide +kernel
theorem dX3_digest_272 : decode cX3_digest 272 = .ok (.invokestatic 168, 3) := by decide +kernel
theorem dX3_digest_275 : decode cX3_digest 275 = .ok (.aload_n 0, 1) := by decide +kernel
theorem dX3_digest_276 : decode cX3_digest 276 = .ok (.getfield 95, 3) := by decide +kernel
theorem dX3_digest_279 : decode cX3_digest 279 = .ok (.i2l, 1) := by decide +kernel
theorem dX3_digest_280 : decode cX3_digest 280 = .ok (.invokestatic 168, 3) := by decide +kernel
theorem dX3_digest_283 : decode cX3_digest 283 = .ok (.aload_n 0, 1) := by decide +kernel
theorem dX3_digest_284 : decode cX3_digest 284 = .ok (.getfield 161, 3) := by decide +kernel
theorem dX3_digest_287 : decode cX3_digest 287 = .ok (.i2l, 1) := by decide +kernel
theorem dX3_digest_288 : decode cX3_digest 288 = .ok (.invokestatic 168, 3) := by decide +kernel
theorem dX3_digest_291 : decode cX3_digest 291 = .ok (.lconst 1, 1) := by decide +kernel
theorem dX3_digest_292 : decode cX3_digest 292 = .ok (.invokestatic 168, 3) := by decide +kernel
theorem dX3_digest_295 : decode cX3_digest 295 = .ok (.lreturn, 1) := by decide +kernel
theorem dJ6_numberOfTrailingZeros_0f7a4_0 : decode cJ6_numberOfTrailingZeros_0f7a4 0 = .ok (.iload_n 0, 1) := by decide +kernel
theorem dJ6_numberOfTrailingZeros_0f7a4_1 : decode cJ6_numberOfTrailingZeros_0f7a4 1 = .ok (.iconst (-1), 1) := by decide +kernel
theorem dJ6_numberOfTrailingZeros_0f7a4_2 : decode cJ6_numberOfTrailingZeros_0f7a4 2 = .ok (.ixor, 1) := by decide +kernel
theorem dJ6_numberOfTrailingZeros_0f7a4_3 : decode cJ6_numberOfTrailingZeros_0f7a4 3 = .ok (.iload_n 0, 1) := by decide +kernel
theorem dJ6_numberOfTrailingZeros_0f7a4_4 : decode cJ6_numberOfTrailingZeros_0f7a4 4 = .ok (.iconst 1, 1) := by decide +kernel
theorem dJ6_numberOfTrailingZeros_0f7a4_5 : decode cJ6_numberOfTrailingZeros_0f7a4 5 = .ok (.isub, 1) := by decide +kernel
theorem dJ6_numberOfTrailingZeros_0f7a4_6 : decode cJ6_numberOfTrailingZeros_0f7a4 6 = .ok (.iand, 1) := by decide +kernel
theorem dJ6_numberOfTrailingZeros_0f7a4_7 : decode cJ6_numberOfTrailingZeros_0f7a4 7 = .ok (.istore_n 0, 1) := by decide +kernel
theorem dJ6_numberOfTrailingZeros_0f7a4_8 : decode cJ6_numberOfTrailingZeros_0f7a4 8 = .ok (.iload_n 0, 1) := by decide +kernel
theorem dJ6_numberOfTrailingZeros_0f7a4_9 : decode cJ6_numberOfTrailingZeros_0f7a4 9 = .ok (.ifCond .gt 8, 3) := by decide +kernel
theorem dJ6_numberOfTrailingZeros_0f7a4_12 : decode cJ6_numberOfTrailingZeros_0f7a4 12 = .ok (.iload_n 0, 1) := by decide +kernel
theorem dJ6_numberOfTrailingZeros_0f7a4_13 : decode cJ6_numberOfTrailingZeros_0f7a4 13 = .ok (.bipush 32, 2) := by decide +kernel
theorem dJ6_numberOfTrailingZeros_0f7a4_15 : decode cJ6_numberOfTrailingZeros_0f7a4 15 = .ok (.iand, 1) := by decide +kernel
theorem dJ6_numberOfTrailingZeros_0f7a4_16 : decode cJ6_numberOfTrailingZeros_0f7a4 16 = .ok (.ireturn, 1) := by decide +kernel
theorem dJ6_numberOfTrailingZeros_0f7a4_17 : decode cJ6_numberOfTrailingZeros_0f7a4 17 = .ok (.iconst 1, 1) := by decide +kernel
theorem dJ6_numberOfTrailingZeros_0f7a4_18 : decode cJ6_numberOfTrailingZeros_0f7a4 18 = .ok (.istore_n 1, 1) := by decide +kernel
theorem dJ6_numberOfTrailingZeros_0f7a4_19 : decode cJ6_numberOfTrailingZeros_0f7a4 19 = .ok (.iload_n 0, 1) := by decide +kernel
theorem dJ6_numberOfTrailingZeros_0f7a4_20 : decode cJ6_numberOfTrailingZeros_0f7a4 20 = .ok (.ldc_w 264, 3) := by decide +kernel
theorem dJ6_numberOfTrailingZeros_0f7a4_23 : decode cJ6_numberOfTrailingZeros_0f7a4 23 = .ok (.if_icmp .le 11, 3) := by decide +kernel
theorem dJ6_numberOfTrailingZeros_0f7a4_26 : decode cJ6_numberOfTrailingZeros_0f7a4 26 = .ok (.iinc 1 16, 3) := by decide +kernel
theorem dJ6_numberOfTrailingZeros_0f7a4_29 : decode cJ6_numberOfTrailingZeros_0f7a4 29 = .ok (.iload_n 0, 1) := by decide +kernel
theorem dJ6_numberOfTrailingZeros_0f7a4_30 : decode cJ6_numberOfTrailingZeros_0f7a4 30 = .ok (.bipush 16, 2) := by decide +kernel
theorem dJ6_numberOfTrailingZeros_0f7a4_32 : decode cJ6_numberOfTrailingZeros_0f7a4 32 = .ok (.iushr, 1) := by decide +kernel
theorem dJ6_numberOfTrailingZeros_0f7a4_33 : decode cJ6_numberOfTrailingZeros_0f7a4 33 = .ok (.istore_n 0, 1) := by decide +kernel
theorem dJ6_numberOfTrailingZeros_0f7a4_34 : decode cJ6_numberOfTrailingZeros_0f7a4 34 = .ok (.iload_n 0, 1) := by decide +kernel
theorem dJ6_numberOfTrailingZeros_0f7a4_35 : decode cJ6_numberOfTrailingZeros_0f7a4 35 = .ok (.sipush 256, 3) := by decide +kernel
theorem dJ6_numberOfTrailingZeros_0f7a4_38 : decode cJ6_numberOfTrailingZeros_0f7a4 38 = .ok (.if_icmp .le 11, 3) := by decide +kernel
theorem dJ6_numberOfTrailingZeros_0f7a4_41 : decode cJ6_numberOfTrailingZeros_0f7a4 41 = .ok (.iinc 1 8, 3) := by decide +kernel
theorem dJ6_numberOfTrailingZeros_0f7a4_44 : decode cJ6_numberOfTrailingZeros_0f7a4 44 = .ok (.iload_n 0, 1) := by decide +kernel
theorem dJ6_numberOfTrailingZeros_0f7a4_45 : decode cJ6_numberOfTrailingZeros_0f7a4 45 = .ok (.bipush 8, 2) := by decide +kernel
theorem dJ6_numberOfTrailingZeros_0f7a4_47 : decode cJ6_numberOfTrailingZeros_0f7a4 47 = .ok (.iushr, 1) := by decide +kernel
theorem dJ6_numberOfTrailingZeros_0f7a4_48 : decode cJ6_numberOfTrailingZeros_0f7a4 48 = .ok (.istore_n 0, 1) := by decide +kernel
theorem dJ6_numberOfTrailingZeros_0f7a4_49 : decode cJ6_numberOfTrailingZeros_0f7a4 49 = .ok (.iload_n 0, 1) := by decide +kernel
theorem dJ6_numberOfTrailingZeros_0f7a4_50 : decode cJ6_numberOfTrailingZeros_0f7a4 50 = .ok (.bipush 16, 2) := by decide +kernel
theorem dJ6_numberOfTrailingZeros_0f7a4_52 : decode cJ6_numberOfTrailingZeros_0f7a4 52 = .ok (.if_icmp .le 10, 3) := by decide +kernel
theorem dJ6_numberOfTrailingZeros_0f7a4_55 : decode cJ6_numberOfTrailingZeros_0f7a4 55 = .ok (.iinc 1 4, 3) := by decide +kernel
theorem dJ6_numberOfTrailingZeros_0f7a4_58 : decode cJ6_numberOfTrailingZeros_0f7a4 58 = .ok (.iload_n 0, 1) := by decide +kernel
theorem dJ6_numberOfTrailingZeros_0f7a4_59 : decode cJ6_numberOfTrailingZeros_0f7a4 59 = .ok (.iconst 4, 1) := by decide +kernel
theorem dJ6_numberOfTrailingZeros_0f7a4_60 : decode cJ6_numberOfTrailingZeros_0f7a4 60 = .ok (.iushr, 1) := by decide +kernel
theorem dJ6_numberOfTrailingZeros_0f7a4_61 : decode cJ6_numberOfTrailingZeros_0f7a4 61 = .ok (.istore_n 0, 1) := by decide +kernel
theorem dJ6_numberOfTrailingZeros_0f7a4_62 : decode cJ6_numberOfTrailingZeros_0f7a4 62 = .ok (.iload_n 0, 1) := by decide +kernel
theorem dJ6_numberOfTrailingZeros_0f7a4_63 : decode cJ6_numberOfTrailingZeros_0f7a4 63 = .ok (.iconst 4, 1) := by decide +kernel
theorem dJ6_numberOfTrailingZeros_0f7a4_64 : decode cJ6_numberOfTrailingZeros_0f7a4 64 = .ok (.if_icmp .le 10, 3) := by decide +kernel
theorem dJ6_numberOfTrailingZeros_0f7a4_67 : decode cJ6_numberOfTrailingZeros_0f7a4 67 = .ok (.iinc 1 2, 3) := by decide +kernel
theorem dJ6_numberOfTrailingZeros_0f7a4_70 : decode cJ6_numberOfTrailingZeros_0f7a4 70 = .ok (.iload_n 0, 1) := by decide +kernel
theorem dJ6_numberOfTrailingZeros_0f7a4_71 : decode cJ6_numberOfTrailingZeros_0f7a4 71 = .ok (.iconst 2, 1) := by decide +kernel
theorem dJ6_numberOfTrailingZeros_0f7a4_72 : decode cJ6_numberOfTrailingZeros_0f7a4 72 = .ok (.iushr, 1) := by decide +kernel
theorem dJ6_numberOfTrailingZeros_0f7a4_73 : decode cJ6_numberOfTrailingZeros_0f7a4 73 = .ok (.istore_n 0, 1) := by decide +kernel
theorem dJ6_numberOfTrailingZeros_0f7a4_74 : decode cJ6_numberOfTrailingZeros_0f7a4 74 = .ok (.iload_n 1, 1) := by decide +kernel
theorem dJ6_numberOfTrailingZeros_0f7a4_75 : decode cJ6_numberOfTrailingZeros_0f7a4 75 = .ok (.iload_n 0, 1) := by decide +kernel
theorem dJ6_numberOfTrailingZeros_0f7a4_76 : decode cJ6_numberOfTrailingZeros_0f7a4 76 = .ok (.iconst 1, 1) := by decide +kernel
theorem dJ6_numberOfTrailingZeros_0f7a4_77 : decode cJ6_numberOfTrailingZeros_0f7a4 77 = .ok (.iushr, 1) := by decide +kernel
theorem dJ6_numberOfTrailingZeros_0f7a4_78 : decode cJ6_numberOfTrailingZeros_0f7a4 78 = .ok (.iadd, 1) := by decide +kernel
theorem dJ6_numberOfTrailingZeros_0f7a4_79 : decode cJ6_numberOfTrailingZeros_0f7a4 79 = .ok (.ireturn, 1) := by decide +kernel
theorem dJ6_bitCount_0f7a4_0 : decode cJ6_bitCount_0f7a4 0 = .ok (.iload_n 0, 1) := by decide +kernel
theorem dJ6_bitCount_0f7a4_1 : decode cJ6_bitCount_0f7a4 1 = .ok (.iload_n 0, 1) := by decide +kernel
theorem dJ6_bitCount_0f7a4_2 : decode cJ6_bitCount_0f7a4 2 = .ok (.iconst 1, 1) := by decide +kernel
theorem dJ6_bitCount_0f7a4_3 : decode cJ6_bitCount_0f7a4 3 = .ok (.iushr, 1) := by decide +kernel
theorem dJ6_bitCount_0f7a4_4 : decode cJ6_bitCount_0f7a4 4 = .ok (.ldc_w 265, 3) := by decide +kernel
theorem dJ6_bitCount_0f7a4_7 : decode cJ6_bitCount_0f7a4 7 = .ok (.iand, 1) := by decide +kernel
theorem dJ6_bitCount_0f7a4_8 : decode cJ6_bitCount_0f7a4 8 = .ok (.isub, 1) := by decide +kernel
theorem dJ6_bitCount_0f7a4_9 : decode cJ6_bitCount_0f7a4 9 = .ok (.istore_n 0, 1) := by decide +kernel
theorem dJ6_bitCount_0f7a4_10 : decode cJ6_bitCount_0f7a4 10 = .ok (.iload_n 0, 1) := by decide +kernel
theorem dJ6_bitCount_0f7a4_11 : decode cJ6_bitCount_0f7a4 11 = .ok (.ldc_w 266, 3) := by decide +kernel
theorem dJ6_bitCount_0f7a4_14 : decode cJ6_bitCount_0f7a4 14 = .ok (.iand, 1) := by decide +kernel
theorem dJ6_bitCount_0f7a4_15 : decode cJ6_bitCount_0f7a4 15 = .ok (.iload_n 0, 1) := by decide +kernel
theorem dJ6_bitCount_0f7a4_16 : decode cJ6_bitCount_0f7a4 16 = .ok (.iconst 2, 1) := by decide +kernel
theorem dJ6_bitCount_0f7a4_17 : decode cJ6_bitCount_0f7a4 17 = .ok (.iushr, 1) := by decide +kernel
theorem dJ6_bitCount_0f7a4_18 : decode cJ6_bitCount_0f7a4 18 = .ok (.ldc_w 266, 3) := by decide +kernel
theorem dJ6_bitCount_0f7a4_21 : decode cJ6_bitCount_0f7a4 21 = .ok (.iand, 1) := by decide +kernel
theorem dJ6_bitCount_0f7a4_22 : decode cJ6_bitCount_0f7a4 22 = .ok (.iadd, 1) := by decide +kernel
theorem dJ6_bitCount_0f7a4_23 : decode cJ6_bitCount_0f7a4 23 = .ok (.istore_n 0, 1) := by decide +kernel
theorem dJ6_bitCount_0f7a4_24 : decode cJ6_bitCount_0f7a4 24 = .ok (.iload_n 0, 1) := by decide +kernel
theorem dJ6_bitCount_0f7a4_25 : decode cJ6_bitCount_0f7a4 25 = .ok (.iload_n 0, 1) := by decide +kernel
theorem dJ6_bitCount_0f7a4_26 : decode cJ6_bitCount_0f7a4 26 = .ok (.iconst 4, 1) := by decide +kernel
theorem dJ6_bitCount_0f7a4_27 : decode cJ6_bitCount_0f7a4 27 = .ok (.iushr, 1) := by decide +kernel
theorem dJ6_bitCount_0f7a4_28 : decode cJ6_bitCount_0f7a4 28 = .ok (.iadd, 1) := by decide +kernel
theorem dJ6_bitCount_0f7a4_29 : decode cJ6_bitCount_0f7a4 29 = .ok (.ldc_w 267, 3) := by decide +kernel
theorem dJ6_bitCount_0f7a4_32 : decode cJ6_bitCount_0f7a4 32 = .ok (.iand, 1) := by decide +kernel
theorem dJ6_bitCount_0f7a4_33 : decode cJ6_bitCount_0f7a4 33 = .ok (.istore_n 0, 1) := by decide +kernel
theorem dJ6_bitCount_0f7a4_34 : decode cJ6_bitCount_0f7a4 34 = .ok (.iload_n 0, 1) := by decide +kernel
theorem dJ6_bitCount_0f7a4_35 : decode cJ6_bitCount_0f7a4 35 = .ok (.iload_n 0, 1) := by decide +kernel
theorem dJ6_bitCount_0f7a4_36 : decode cJ6_bitCount_0f7a4 36 = .ok (.bipush 8, 2) := by decide +kernel
theorem dJ6_bitCount_0f7a4_38 : decode cJ6_bitCount_0f7a4 38 = .ok (.iushr, 1) := by decide +kernel
theorem dJ6_bitCount_0f7a4_39 : decode cJ6_bitCount_0f7a4 39 = .ok (.iadd, 1) := by decide +kernel
theorem dJ6_bitCount_0f7a4_40 : decode cJ6_bitCount_0f7a4 40 = .ok (.istore_n 0, 1) := by decide +kernel
theorem dJ6_bitCount_0f7a4_41 : decode cJ6_bitCount_0f7a4 41 = .ok (.iload_n 0, 1) := by decide +kernel
theorem dJ6_bitCount_0f7a4_42 : decode cJ6_bitCount_0f7a4 42 = .ok (.iload_n 0, 1) := by decide +kernel
theorem dJ6_bitCount_0f7a4_43 : decode cJ6_bitCount_0f7a4 43 = .ok (.bipush 16, 2) := by decide +kernel
theorem dJ6_bitCount_0f7a4_45 : decode cJ6_bitCount_0f7a4 45 = .ok (.iushr, 1) := by decide +kernel
theorem dJ6_bitCount_0f7a4_46 : decode cJ6_bitCount_0f7a4 46 = .ok (.iadd, 1) := by decide +kernel
theorem dJ6_bitCount_0f7a4_47 : decode cJ6_bitCount_0f7a4 47 = .ok (.istore_n 0, 1) := by decide +kernel
theorem dJ6_bitCount_0f7a4_48 : decode cJ6_bitCount_0f7a4 48 = .ok (.iload_n 0, 1) := by decide +kernel
theorem dJ6_bitCount_0f7a4_49 : decode cJ6_bitCount_0f7a4 49 = .ok (.bipush 63, 2) := by decide +kernel
theorem dJ6_bitCount_0f7a4_51 : decode cJ6_bitCount_0f7a4 51 = .ok (.iand, 1) := by decide +kernel
theorem dJ6_bitCount_0f7a4_52 : decode cJ6_bitCount_0f7a4 52 = .ok (.ireturn, 1) := by decide +kernel
