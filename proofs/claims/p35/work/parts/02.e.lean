set_option maxRecDepth 20000 in
theorem gX3_give_X3_sideOf : GoodIn wsX3_give (wsV RX3 45 RX3 yX3_sideOf wsX3_sideOf) := goodIn_app (goodIn_of _ (by decide +kernel)) ggX3_give_X3_sideOf
set_option maxRecDepth 20000 in
theorem ggX3_give_X3_done : GoodIn wsX3_give wsX3_done := goodIn_r _ [23, 24, 25, 26, 27, 28, 29, 30, 31, 32, 33, 34, 35] (by decide +kernel) (by decide +kernel)
set_option maxRecDepth 20000 in
theorem gX3_give_X3_done : GoodIn wsX3_give (wsV RX3 101 RX3 yX3_done wsX3_done) := goodIn_app (goodIn_of _ (by decide +kernel)) ggX3_give_X3_done
theorem dX3_give_0 : decode cX3_give 0 = .ok (.aload_n 0, 1) := by decide +kernel
theorem dX3_give_1 : decode cX3_give 1 = .ok (.aload_n 0, 1) := by decide +kernel
theorem dX3_give_2 : decode cX3_give 2 = .ok (.iload_n 1, 1) := by decide +kernel
theorem dX3_give_3 : decode cX3_give 3 = .ok (.invokevirtual 104, 3) := by decide +kernel
theorem dX3_give_6 : decode cX3_give 6 = .ok (.ifCond .ne 7, 3) := by decide +kernel
theorem dX3_give_9 : decode cX3_give 9 = .ok (.iconst 1, 1) := by decide +kernel
theorem dX3_give_10 : decode cX3_give 10 = .ok (.goto 4, 3) := by decide +kernel
theorem dX3_give_13 : decode cX3_give 13 = .ok (.iconst 0, 1) := by decide +kernel
theorem dX3_give_14 : decode cX3_give 14 = .ok (.iload_n 2, 1) := by decide +kernel
theorem dX3_give_15 : decode cX3_give 15 = .ok (.invokestatic 108, 3) := by decide +kernel
theorem dX3_give_18 : decode cX3_give 18 = .ok (.ifCond .ne 7, 3) := by decide +kernel
theorem dX3_give_21 : decode cX3_give 21 = .ok (.iconst 1, 1) := by decide +kernel
theorem dX3_give_22 : decode cX3_give 22 = .ok (.goto 4, 3) := by decide +kernel
theorem dX3_give_25 : decode cX3_give 25 = .ok (.iconst 0, 1) := by decide +kernel
theorem dX3_give_26 : decode cX3_give 26 = .ok (.invokevirtual 88, 3) := by decide +kernel
theorem dX3_give_29 : decode cX3_give 29 = .ok (.ifCond .eq 5, 3) := by decide +kernel
theorem dX3_give_32 : decode cX3_give 32 = .ok (.iconst 0, 1) := by decide +kernel
theorem dX3_give_33 : decode cX3_give 33 = .ok (.ireturn, 1) := by decide +kernel
theorem dX3_give_34 : decode cX3_give 34 = .ok (.aload_n 0, 1) := by decide +kernel
theorem dX3_give_35 : decode cX3_give 35 = .ok (.iload_n 1, 1) := by decide +kernel
theorem dX3_give_36 : decode cX3_give 36 = .ok (.invokevirtual 45, 3) := by decide +kernel
theorem dX3_give_39 : decode cX3_give 39 = .ok (.istore_n 3, 1) := by decide +kernel
theorem dX3_give_40 : decode cX3_give 40 = .ok (.aload_n 0, 1) := by decide +kernel
theorem dX3_give_41 : decode cX3_give 41 = .ok (.aload_n 0, 1) := by decide +kernel
theorem dX3_give_42 : decode cX3_give 42 = .ok (.getfield 20, 3) := by decide +kernel
theorem dX3_give_45 : decode cX3_give 45 = .ok (.iconst 1, 1) := by decide +kernel
theorem dX3_give_46 : decode cX3_give 46 = .ok (.iload_n 1, 1) := by decide +kernel
theorem dX3_give_47 : decode cX3_give 47 = .ok (.ishl, 1) := by decide +kernel
theorem dX3_give_48 : decode cX3_give 48 = .ok (.iconst (-1), 1) := by decide +kernel
theorem dX3_give_49 : decode cX3_give 49 = .ok (.ixor, 1) := by decide +kernel
theorem dX3_give_50 : decode cX3_give 50 = .ok (.iand, 1) := by decide +kernel
theorem dX3_give_51 : decode cX3_give 51 = .ok (.iload_n 2, 1) := by decide +kernel
theorem dX3_give_52 : decode cX3_give 52 = .ok (.iload_n 1, 1) := by decide +kernel
theorem dX3_give_53 : decode cX3_give 53 = .ok (.ishl, 1) := by decide +kernel
theorem dX3_give_54 : decode cX3_give 54 = .ok (.ior, 1) := by decide +kernel
theorem dX3_give_55 : decode cX3_give 55 = .ok (.putfield 20, 3) := by decide +kernel
theorem dX3_give_58 : decode cX3_give 58 = .ok (.aload_n 0, 1) := by decide +kernel
theorem dX3_give_59 : decode cX3_give 59 = .ok (.iload_n 3, 1) := by decide +kernel
theorem dX3_give_60 : decode cX3_give 60 = .ok (.invokevirtual 101, 3) := by decide +kernel
theorem dX3_give_63 : decode cX3_give 63 = .ok (.ireturn, 1) := by decide +kernel
set_option maxRecDepth 20000 in
theorem ggX3_rank_X3_isPlace : GoodIn wsX3_rank wsX3_isPlace := goodIn_r _ [6, 7, 18, 19, 20, 21, 22, 23, 24, 25, 26, 27, 28] (by decide +kernel) (by decide +kernel)
set_option maxRecDepth 20000 in
theorem gX3_rank_X3_isPlace : GoodIn wsX3_rank (wsV RX3 104 RX3 yX3_isPlace wsX3_isPlace) := goodIn_app (goodIn_of _ (by decide +kernel)) ggX3_rank_X3_isPlace
set_option maxRecDepth 20000 in
theorem ggX3_rank_X3_isThrown : GoodIn wsX3_rank wsX3_isThrown := goodIn_r _ [11, 12, 18, 19, 20, 21, 22, 23, 24, 25, 26, 27, 28] (by decide +kernel) (by decide +kernel)
set_option maxRecDepth 20000 in
theorem gX3_rank_X3_isThrown : GoodIn wsX3_rank (wsV RX3 88 RX3 yX3_isThrown wsX3_isThrown) := goodIn_app (goodIn_of _ (by decide +kernel)) ggX3_rank_X3_isThrown
set_option maxRecDepth 20000 in
theorem ggX3_rank_X3_done : GoodIn wsX3_rank wsX3_done := goodIn_r _ [16, 17, 18, 19, 20, 21, 22, 23, 24, 25, 26, 27, 28] (by decide +kernel) (by decide +kernel)
set_option maxRecDepth 20000 in
theorem gX3_rank_X3_done : GoodIn wsX3_rank (wsV RX3 101 RX3 yX3_done wsX3_done) := goodIn_app (goodIn_of _ (by decide +kernel)) ggX3_rank_X3_done
theorem dX3_rank_0 : decode cX3_rank 0 = .ok (.aload_n 0, 1) := by decide +kernel
theorem dX3_rank_1 : decode cX3_rank 1 = .ok (.aload_n 0, 1) := by decide +kernel
theorem dX3_rank_2 : decode cX3_rank 2 = .ok (.iload_n 1, 1) := by decide +kernel
theorem dX3_rank_3 : decode cX3_rank 3 = .ok (.invokevirtual 104, 3) := by decide +kernel
theorem dX3_rank_6 : decode cX3_rank 6 = .ok (.ifCond .ne 7, 3) := by decide +kernel
theorem dX3_rank_9 : decode cX3_rank 9 = .ok (.iconst 1, 1) := by decide +kernel
theorem dX3_rank_10 : decode cX3_rank 10 = .ok (.goto 4, 3) := by decide +kernel
theorem dX3_rank_13 : decode cX3_rank 13 = .ok (.iconst 0, 1) := by decide +kernel
theorem dX3_rank_14 : decode cX3_rank 14 = .ok (.iload_n 2, 1) := by decide +kernel
theorem dX3_rank_15 : decode cX3_rank 15 = .ok (.ifCond .lt 8, 3) := by decide +kernel
theorem dX3_rank_18 : decode cX3_rank 18 = .ok (.iload_n 2, 1) := by decide +kernel
theorem dX3_rank_19 : decode cX3_rank 19 = .ok (.iconst 2, 1) := by decide +kernel
theorem dX3_rank_20 : decode cX3_rank 20 = .ok (.if_icmp .le 7, 3) := by decide +kernel
theorem dX3_rank_23 : decode cX3_rank 23 = .ok (.iconst 1, 1) := by decide +kernel
theorem dX3_rank_24 : decode cX3_rank 24 = .ok (.goto 4, 3) := by decide +kernel
theorem dX3_rank_27 : decode cX3_rank 27 = .ok (.iconst 0, 1) := by decide +kernel
theorem dX3_rank_28 : decode cX3_rank 28 = .ok (.invokevirtual 88, 3) := by decide +kernel
theorem dX3_rank_31 : decode cX3_rank 31 = .ok (.ifCond .eq 5, 3) := by decide +kernel
theorem dX3_rank_34 : decode cX3_rank 34 = .ok (.iconst 0, 1) := by decide +kernel
theorem dX3_rank_35 : decode cX3_rank 35 = .ok (.ireturn, 1) := by decide +kernel
theorem dX3_rank_36 : decode cX3_rank 36 = .ok (.aload_n 0, 1) := by decide +kernel
theorem dX3_rank_37 : decode cX3_rank 37 = .ok (.getfield 26, 3) := by decide +kernel
theorem dX3_rank_40 : decode cX3_rank 40 = .ok (.iload_n 1, 1) := by decide +kernel
theorem dX3_rank_41 : decode cX3_rank 41 = .ok (.iaload, 1) := by decide +kernel
theorem dX3_rank_42 : decode cX3_rank 42 = .ok (.istore_n 3, 1) := by decide +kernel
theorem dX3_rank_43 : decode cX3_rank 43 = .ok (.aload_n 0, 1) := by decide +kernel
theorem dX3_rank_44 : decode cX3_rank 44 = .ok (.getfield 26, 3) := by decide +kernel
theorem dX3_rank_47 : decode cX3_rank 47 = .ok (.iload_n 1, 1) := by decide +kernel
theorem dX3_rank_48 : decode cX3_rank 48 = .ok (.iload_n 2, 1) := by decide +kernel
theorem dX3_rank_49 : decode cX3_rank 49 = .ok (.iastore, 1) := by decide +kernel
theorem dX3_rank_50 : decode cX3_rank 50 = .ok (.aload_n 0, 1) := by decide +kernel
theorem dX3_rank_51 : decode cX3_rank 51 = .ok (.iload_n 3, 1) := by decide +kernel
theorem dX3_rank_52 : decode cX3_rank 52 = .ok (.invokevirtual 101, 3) := by decide +kernel
theorem dX3_rank_55 : decode cX3_rank 55 = .ok (.ireturn, 1) := by decide +kernel
set_option maxRecDepth 20000 in
theorem ggX3_goal_X3_all : GoodIn wsX3_goal wsX3_all := goodIn_r _ [6, 7, 22, 23, 24, 25, 26, 27, 28, 29, 30, 31, 32] (by decide +kernel) (by decide +kernel)
set_option maxRecDepth 20000 in
theorem gX3_goal_X3_all : GoodIn wsX3_goal (wsV RX3 55 RX3 yX3_all wsX3_all) := goodIn_app (goodIn_of _ (by decide +kernel)) ggX3_goal_X3_all
set_option maxRecDepth 20000 in
theorem ggX3_goal_X3_isThrown_ : GoodIn wsX3_goal wsX3_isThrown_ := goodIn_r _ [11, 12, 13, 14, 5, 15, 16, 22, 23, 24, 25, 26, 27, 28, 29, 30, 31, 32] (by decide +kernel) (by decide +kernel)
set_option maxRecDepth 20000 in
theorem gX3_goal_X3_isThrown_ : GoodIn wsX3_goal (wsV RX3 98 RX3 yX3_isThrown_ wsX3_isThrown_) := goodIn_app (goodIn_of _ (by decide +kernel)) ggX3_goal_X3_isThrown_
set_option maxRecDepth 20000 in
theorem ggX3_goal_X3_done : GoodIn wsX3_goal wsX3_done := goodIn_r _ [20, 21, 22, 23, 24, 25, 26, 27, 28, 29, 30, 31, 32] (by decide +kernel) (by decide +kernel)
set_option maxRecDepth 20000 in
theorem gX3_goal_X3_done : GoodIn wsX3_goal (wsV RX3 101 RX3 yX3_done wsX3_done) := goodIn_app (goodIn_of _ (by decide +kernel)) ggX3_goal_X3_done
theorem dX3_goal_0 : decode cX3_goal 0 = .ok (.aload_n 0, 1) := by decide +kernel
theorem dX3_goal_1 : decode cX3_goal 1 = .ok (.iload_n 1, 1) := by decide +kernel
theorem dX3_goal_2 : decode cX3_goal 2 = .ok (.ifCond .lt 11, 3) := by decide +kernel
theorem dX3_goal_5 : decode cX3_goal 5 = .ok (.iload_n 1, 1) := by decide +kernel
theorem dX3_goal_6 : decode cX3_goal 6 = .ok (.aload_n 0, 1) := by decide +kernel
theorem dX3_goal_7 : decode cX3_goal 7 = .ok (.invokevirtual 55, 3) := by decide +kernel
theorem dX3_goal_10 : decode cX3_goal 10 = .ok (.if_icmp .le 7, 3) := by decide +kernel
theorem dX3_goal_13 : decode cX3_goal 13 = .ok (.iconst 1, 1) := by decide +kernel
theorem dX3_goal_14 : decode cX3_goal 14 = .ok (.goto 4, 3) := by decide +kernel
theorem dX3_goal_17 : decode cX3_goal 17 = .ok (.iconst 0, 1) := by decide +kernel
theorem dX3_goal_18 : decode cX3_goal 18 = .ok (.invokevirtual 98, 3) := by decide +kernel
theorem dX3_goal_21 : decode cX3_goal 21 = .ok (.ifCond .eq 5, 3) := by decide +kernel
theorem dX3_goal_24 : decode cX3_goal 24 = .ok (.iconst 0, 1) := by decide +kernel
theorem dX3_goal_25 : decode cX3_goal 25 = .ok (.ireturn, 1) := by decide +kernel
theorem dX3_goal_26 : decode cX3_goal 26 = .ok (.aload_n 0, 1) := by decide +kernel
theorem dX3_goal_27 : decode cX3_goal 27 = .ok (.getfield 23, 3) := by decide +kernel
theorem dX3_goal_30 : decode cX3_goal 30 = .ok (.istore_n 2, 1) := by decide +kernel
theorem dX3_goal_31 : decode cX3_goal 31 = .ok (.aload_n 0, 1) := by decide +kernel
theorem dX3_goal_32 : decode cX3_goal 32 = .ok (.iload_n 1, 1) := by decide +kernel
theorem dX3_goal_33 : decode cX3_goal 33 = .ok (.putfield 23, 3) := by decide +kernel
theorem dX3_goal_36 : decode cX3_goal 36 = .ok (.aload_n 0, 1) := by decide +kernel
theorem dX3_goal_37 : decode cX3_goal 37 = .ok (.iload_n 2, 1) := by decide +kernel
theorem dX3_goal_38 : decode cX3_goal 38 = .ok (.invokevirtual 101, 3) := by decide +kernel
theorem dX3_goal_41 : decode cX3_goal 41 = .ok (.ireturn, 1) := by decide +kernel
set_option maxRecDepth 20000 in
theorem ggX3_way_X3_isPlace : GoodIn wsX3_way wsX3_isPlace := goodIn_r _ [6, 7, 41, 42, 43, 44, 45, 46, 47, 48, 49, 50, 51] (by decide +kernel) (by decide +kernel)
set_option maxRecDepth 20000 in
theorem gX3_way_X3_isPlace : GoodIn wsX3_way (wsV RX3 104 RX3 yX3_isPlace wsX3_isPlace) := goodIn_app (goodIn_of _ (by decide +kernel)) ggX3_way_X3_isPlace
set_option maxRecDepth 20000 in
theorem ggX3_way_X3_isThrown_ : GoodIn wsX3_way wsX3_isThrown_ := goodIn_r _ [11, 12, 13, 14, 5, 15, 16, 41, 42, 43, 44, 45, 46, 47, 48, 49, 50, 51] (by decide +kernel) (by decide +kernel)
set_option maxRecDepth 20000 in
theorem gX3_way_X3_isThrown_ : GoodIn wsX3_way (wsV RX3 98 RX3 yX3_isThrown_ wsX3_isThrown_) := goodIn_app (goodIn_of _ (by decide +kernel)) ggX3_way_X3_isThrown_
set_option maxRecDepth 20000 in
theorem ggX3_way_X3_isIn : GoodIn wsX3_way wsX3_isIn := goodIn_r _ [19] (by decide +kernel) (by decide +kernel)
set_option maxRecDepth 20000 in
theorem gX3_way_X3_isIn : GoodIn wsX3_way (va_wsS RX3 77 yX3_isIn wsX3_isIn) := goodIn_app (goodIn_of _ (by decide +kernel)) ggX3_way_X3_isIn
set_option maxRecDepth 20000 in
theorem ggX3_way_X3_done : GoodIn wsX3_way wsX3_done := goodIn_r _ [23, 24, 41, 42, 43, 44, 45, 46, 47, 48, 49, 50, 51] (by decide +kernel) (by decide +kernel)
set_option maxRecDepth 20000 in
theorem gX3_way_X3_done : GoodIn wsX3_way (wsV RX3 101 RX3 yX3_done wsX3_done) := goodIn_app (goodIn_of _ (by decide +kernel)) ggX3_way_X3_done
set_option maxRecDepth 20000 in
theorem ggX3_way_X3_waysNow : GoodIn wsX3_way wsX3_waysNow := goodIn_r _ [28, 1, 29, 30, 31, 32, 33, 34, 35, 41, 42, 43, 44, 45, 46, 47, 48, 49, 50, 51] (by decide +kernel) (by decide +kernel)
set_option maxRecDepth 20000 in
theorem gX3_way_X3_waysNow : GoodIn wsX3_way (wsV RX3 111 RX3 yX3_waysNow wsX3_waysNow) := goodIn_app (goodIn_of _ (by decide +kernel)) ggX3_way_X3_waysNow
set_option maxRecDepth 20000 in
theorem ggX3_way_X3_no : GoodIn wsX3_way wsX3_no := goodIn_r _ [39, 40, 41, 42, 43, 44, 45, 46, 47, 48, 49, 50, 51] (by decide +kernel) (by decide +kernel)
set_option maxRecDepth 20000 in
theorem gX3_way_X3_no : GoodIn wsX3_way (wsV RX3 114 RX3 yX3_no wsX3_no) := goodIn_app (goodIn_of _ (by decide +kernel)) ggX3_way_X3_no
theorem dX3_way_0 : decode cX3_way 0 = .ok (.aload_n 0, 1) := by decide +kernel
theorem dX3_way_1 : decode cX3_way 1 = .ok (.aload_n 0, 1) := by decide +kernel
theorem dX3_way_2 : decode cX3_way 2 = .ok (.iload_n 1, 1) := by decide +kernel
theorem dX3_way_3 : decode cX3_way 3 = .ok (.invokevirtual 104, 3) := by decide +kernel
theorem dX3_way_6 : decode cX3_way 6 = .ok (.ifCond .eq 11, 3) := by decide +kernel
theorem dX3_way_9 : decode cX3_way 9 = .ok (.aload_n 0, 1) := by decide +kernel
theorem dX3_way_10 : decode cX3_way 10 = .ok (.iload_n 2, 1) := by decide +kernel
theorem dX3_way_11 : decode cX3_way 11 = .ok (.invokevirtual 104, 3) := by decide +kernel
theorem dX3_way_14 : decode cX3_way 14 = .ok (.ifCond .ne 7, 3) := by decide +kernel
theorem dX3_way_17 : decode cX3_way 17 = .ok (.iconst 1, 1) := by decide +kernel
theorem dX3_way_18 : decode cX3_way 18 = .ok (.goto 4, 3) := by decide +kernel
theorem dX3_way_21 : decode cX3_way 21 = .ok (.iconst 0, 1) := by decide +kernel
theorem dX3_way_22 : decode cX3_way 22 = .ok (.invokevirtual 98, 3) := by decide +kernel
theorem dX3_way_25 : decode cX3_way 25 = .ok (.ifCond .eq 5, 3) := by decide +kernel
theorem dX3_way_28 : decode cX3_way 28 = .ok (.iconst 0, 1) := by decide +kernel
theorem dX3_way_29 : decode cX3_way 29 = .ok (.ireturn, 1) := by decide +kernel
theorem dX3_way_30 : decode cX3_way 30 = .ok (.aload_n 0, 1) := by decide +kernel
theorem dX3_way_31 : decode cX3_way 31 = .ok (.getfield 30, 3) := by decide +kernel
theorem dX3_way_34 : decode cX3_way 34 = .ok (.iload_n 1, 1) := by decide +kernel
theorem dX3_way_35 : decode cX3_way 35 = .ok (.iaload, 1) := by decide +kernel
theorem dX3_way_36 : decode cX3_way 36 = .ok (.iload_n 2, 1) := by decide +kernel
theorem dX3_way_37 : decode cX3_way 37 = .ok (.invokestatic 77, 3) := by decide +kernel
theorem dX3_way_40 : decode cX3_way 40 = .ok (.ifCond .eq 9, 3) := by decide +kernel
theorem dX3_way_43 : decode cX3_way 43 = .ok (.aload_n 0, 1) := by decide +kernel
theorem dX3_way_44 : decode cX3_way 44 = .ok (.iconst 0, 1) := by decide +kernel
theorem dX3_way_45 : decode cX3_way 45 = .ok (.invokevirtual 101, 3) := by decide +kernel
theorem dX3_way_48 : decode cX3_way 48 = .ok (.ireturn, 1) := by decide +kernel
theorem dX3_way_49 : decode cX3_way 49 = .ok (.aload_n 0, 1) := by decide +kernel
theorem dX3_way_50 : decode cX3_way 50 = .ok (.invokevirtual 111, 3) := by decide +kernel
theorem dX3_way_53 : decode cX3_way 53 = .ok (.bipush 30, 2) := by decide +kernel
theorem dX3_way_55 : decode cX3_way 55 = .ok (.if_icmp .ne 8, 3) := by decide +kernel
theorem dX3_way_58 : decode cX3_way 58 = .ok (.aload_n 0, 1) := by decide +kernel
theorem dX3_way_59 : decode cX3_way 59 = .ok (.invokevirtual 114, 3) := by decide +kernel
theorem dX3_way_62 : decode cX3_way 62 = .ok (.ireturn, 1) := by decide +kernel
theorem dX3_way_63 : decode cX3_way 63 = .ok (.aload_n 0, 1) := by decide +kernel
theorem dX3_way_64 : decode cX3_way 64 = .ok (.getfield 30, 3) := by decide +kernel
theorem dX3_way_67 : decode cX3_way 67 = .ok (.iload_n 1, 1) := by decide +kernel
theorem dX3_way_68 : decode cX3_way 68 = .ok (.dup2, 1) := by decide +kernel
theorem dX3_way_69 : decode cX3_way 69 = .ok (.iaload, 1) := by decide +kernel
theorem dX3_way_70 : decode cX3_way 70 = .ok (.iconst 1, 1) := by decide +kernel
theorem dX3_way_71 : decode cX3_way 71 = .ok (.iload_n 2, 1) := by decide +kernel
theorem dX3_way_72 : decode cX3_way 72 = .ok (.ishl, 1) := by decide +kernel
theorem dX3_way_73 : decode cX3_way 73 = .ok (.ior, 1) := by decide +kernel
theorem dX3_way_74 : decode cX3_way 74 = .ok (.iastore, 1) := by decide +kernel
theorem dX3_way_75 : decode cX3_way 75 = .ok (.aload_n 0, 1) := by decide +kernel
theorem dX3_way_76 : decode cX3_way 76 = .ok (.iconst 1, 1) := by decide +kernel
theorem dX3_way_77 : decode cX3_way 77 = .ok (.invokevirtual 101, 3) := by decide +kernel
theorem dX3_way_80 : decode cX3_way 80 = .ok (.ireturn, 1) := by decide +kernel
set_option maxRecDepth 20000 in
theorem ggX3_lose_X3_isPlace : GoodIn wsX3_lose wsX3_isPlace := goodIn_r _ [6, 7, 25, 26, 27, 28, 29, 30, 31, 32, 33, 34, 35] (by decide +kernel) (by decide +kernel)
set_option maxRecDepth 20000 in
theorem gX3_lose_X3_isPlace : GoodIn wsX3_lose (wsV RX3 104 RX3 yX3_isPlace wsX3_isPlace) := goodIn_app (goodIn_of _ (by decide +kernel)) ggX3_lose_X3_isPlace
set_option maxRecDepth 20000 in
theorem ggX3_lose_X3_isThrown_ : GoodIn wsX3_lose wsX3_isThrown_ := goodIn_r _ [11, 12, 13, 14, 5, 15, 16, 25, 26, 27, 28, 29, 30, 31, 32, 33, 34, 35] (by decide +kernel) (by decide +kernel)
set_option maxRecDepth 20000 in
theorem gX3_lose_X3_isThrown_ : GoodIn wsX3_lose (wsV RX3 98 RX3 yX3_isThrown_ wsX3_isThrown_) := goodIn_app (goodIn_of _ (by decide +kernel)) ggX3_lose_X3_isThrown_
set_option maxRecDepth 20000 in
theorem ggX3_lose_X3_isIn : GoodIn wsX3_lose wsX3_isIn := goodIn_r _ [19] (by decide +kernel) (by decide +kernel)
set_option maxRecDepth 20000 in
theorem gX3_lose_X3_isIn : GoodIn wsX3_lose (va_wsS RX3 77 yX3_isIn wsX3_isIn) := goodIn_app (goodIn_of _ (by decide +kernel)) ggX3_lose_X3_isIn
set_option maxRecDepth 20000 in
theorem ggX3_lose_X3_done : GoodIn wsX3_lose wsX3_done := goodIn_r _ [23, 24, 25, 26, 27, 28, 29, 30, 31, 32, 33, 34, 35] (by decide +kernel) (by decide +kernel)
set_option maxRecDepth 20000 in
theorem gX3_lose_X3_done : GoodIn wsX3_lose (wsV RX3 101 RX3 yX3_done wsX3_done) := goodIn_app (goodIn_of _ (by decide +kernel)) ggX3_lose_X3_done
theorem dX3_lose_0 : decode cX3_lose 0 = .ok (.aload_n 0, 1) := by decide +kernel
theorem dX3_lose_1 : decode cX3_lose 1 = .ok (.aload_n 0, 1) := by decide +kernel
theorem dX3_lose_2 : decode cX3_lose 2 = .ok (.iload_n 1, 1) := by decide +kernel
theorem dX3_lose_3 : decode cX3_lose 3 = .ok (.invokevirtual 104, 3) := by decide +kernel
theorem dX3_lose_6 : decode cX3_lose 6 = .ok (.ifCond .eq 11, 3) := by decide +kernel
theorem dX3_lose_9 : decode cX3_lose 9 = .ok (.aload_n 0, 1) := by decide +kernel
theorem dX3_lose_10 : decode cX3_lose 10 = .ok (.iload_n 2, 1) := by decide +kernel
theorem dX3_lose_11 : decode cX3_lose 11 = .ok (.invokevirtual 104, 3) := by decide +kernel
theorem dX3_lose_14 : decode cX3_lose 14 = .ok (.ifCond .ne 7, 3) := by decide +kernel
theorem dX3_lose_17 : decode cX3_lose 17 = .ok (.iconst 1, 1) := by decide +kernel
theorem dX3_lose_18 : decode cX3_lose 18 = .ok (.goto 4, 3) := by decide +kernel
theorem dX3_lose_21 : decode cX3_lose 21 = .ok (.iconst 0, 1) := by decide +kernel
theorem dX3_lose_22 : decode cX3_lose 22 = .ok (.invokevirtual 98, 3) := by decide +kernel
theorem dX3_lose_25 : decode cX3_lose 25 = .ok (.ifCond .eq 5, 3) := by decide +kernel
theorem dX3_lose_28 : decode cX3_lose 28 = .ok (.iconst 0, 1) := by decide +kernel
theorem dX3_lose_29 : decode cX3_lose 29 = .ok (.ireturn, 1) := by decide +kernel
theorem dX3_lose_30 : decode cX3_lose 30 = .ok (.aload_n 0, 1) := by decide +kernel
theorem dX3_lose_31 : decode cX3_lose 31 = .ok (.getfield 30, 3) := by decide +kernel
theorem dX3_lose_34 : decode cX3_lose 34 = .ok (.iload_n 1, 1) := by decide +kernel
theorem dX3_lose_35 : decode cX3_lose 35 = .ok (.iaload, 1) := by decide +kernel
theorem dX3_lose_36 : decode cX3_lose 36 = .ok (.iload_n 2, 1) := by decide +kernel
theorem dX3_lose_37 : decode cX3_lose 37 = .ok (.invokestatic 77, 3) := by decide +kernel
theorem dX3_lose_40 : decode cX3_lose 40 = .ok (.istore_n 3, 1) := by decide +kernel
theorem dX3_lose_41 : decode cX3_lose 41 = .ok (.aload_n 0, 1) := by decide +kernel
theorem dX3_lose_42 : decode cX3_lose 42 = .ok (.getfield 30, 3) := by decide +kernel
theorem dX3_lose_45 : decode cX3_lose 45 = .ok (.iload_n 1, 1) := by decide +kernel
theorem dX3_lose_46 : decode cX3_lose 46 = .ok (.dup2, 1) := by decide +kernel
theorem dX3_lose_47 : decode cX3_lose 47 = .ok (.iaload, 1) := by decide +kernel
theorem dX3_lose_48 : decode cX3_lose 48 = .ok (.iconst 1, 1) := by decide +kernel
theorem dX3_lose_49 : decode cX3_lose 49 = .ok (.iload_n 2, 1) := by decide +kernel
theorem dX3_lose_50 : decode cX3_lose 50 = .ok (.ishl, 1) := by decide +kernel
theorem dX3_lose_51 : decode cX3_lose 51 = .ok (.iconst (-1), 1) := by decide +kernel
theorem dX3_lose_52 : decode cX3_lose 52 = .ok (.ixor, 1) := by decide +kernel
theorem dX3_lose_53 : decode cX3_lose 53 = .ok (.iand, 1) := by decide +kernel
theorem dX3_lose_54 : decode cX3_lose 54 = .ok (.iastore, 1) := by decide +kernel
theorem dX3_lose_55 : decode cX3_lose 55 = .ok (.aload_n 0, 1) := by decide +kernel
theorem dX3_lose_56 : decode cX3_lose 56 = .ok (.iload_n 3, 1) := by decide +kernel
theorem dX3_lose_57 : decode cX3_lose 57 = .ok (.ifCond .eq 7, 3) := by decide +kernel
theorem dX3_lose_60 : decode cX3_lose 60 = .ok (.iconst 1, 1) := by decide +kernel
theorem dX3_lose_61 : decode cX3_lose 61 = .ok (.goto 4, 3) := by decide +kernel
theorem dX3_lose_64 : decode cX3_lose 64 = .ok (.iconst 0, 1) := by decide +kernel
theorem dX3_lose_65 : decode cX3_lose 65 = .ok (.invokevirtual 101, 3) := by decide +kernel
theorem dX3_lose_68 : decode cX3_lose 68 = .ok (.ireturn, 1) := by decide +kernel
set_option maxRecDepth 20000 in
theorem ggX3_circle_X3_isThrown_ : GoodIn wsX3_circle wsX3_isThrown_ := goodIn_r _ [7, 8, 9, 10, 6, 11, 12, 37, 38, 39, 40, 41, 42, 43, 44, 45, 46, 47] (by decide +kernel) (by decide +kernel)
set_option maxRecDepth 20000 in
theorem gX3_circle_X3_isThrown_ : GoodIn wsX3_circle (wsV RX3 98 RX3 yX3_isThrown_ wsX3_isThrown_) := goodIn_app (goodIn_of _ (by decide +kernel)) ggX3_circle_X3_isThrown_
set_option maxRecDepth 20000 in
theorem ggX3_circle_X3_isIn : GoodIn wsX3_circle wsX3_isIn := goodIn_r _ [15] (by decide +kernel) (by decide +kernel)
set_option maxRecDepth 20000 in
theorem gX3_circle_X3_isIn : GoodIn wsX3_circle (va_wsS RX3 77 yX3_isIn wsX3_isIn) := goodIn_app (goodIn_of _ (by decide +kernel)) ggX3_circle_X3_isIn
set_option maxRecDepth 20000 in
theorem ggX3_circle_X3_waysNow : GoodIn wsX3_circle wsX3_waysNow := goodIn_r _ [19, 2, 20, 21, 22, 23, 24, 25, 26, 37, 38, 39, 40, 41, 42, 43, 44, 45, 46, 47] (by decide +kernel) (by decide +kernel)
set_option maxRecDepth 20000 in
theorem gX3_circle_X3_waysNow : GoodIn wsX3_circle (wsV RX3 111 RX3 yX3_waysNow wsX3_waysNow) := goodIn_app (goodIn_of _ (by decide +kernel)) ggX3_circle_X3_waysNow
set_option maxRecDepth 20000 in
theorem ggX3_circle_X3_no : GoodIn wsX3_circle wsX3_no := goodIn_r _ [30, 31, 37, 38, 39, 40, 41, 42, 43, 44, 45, 46, 47] (by decide +kernel) (by decide +kernel)
set_option maxRecDepth 20000 in
theorem gX3_circle_X3_no : GoodIn wsX3_circle (wsV RX3 114 RX3 yX3_no wsX3_no) := goodIn_app (goodIn_of _ (by decide +kernel)) ggX3_circle_X3_no
set_option maxRecDepth 20000 in
theorem ggX3_circle_X3_done : GoodIn wsX3_circle wsX3_done := goodIn_r _ [35, 36, 37, 38, 39, 40, 41, 42, 43, 44, 45, 46, 47] (by decide +kernel) (by decide +kernel)
set_option maxRecDepth 20000 in
theorem gX3_circle_X3_done : GoodIn wsX3_circle (wsV RX3 101 RX3 yX3_done wsX3_done) := goodIn_app (goodIn_of _ (by decide +kernel)) ggX3_circle_X3_done
theorem dX3_circle_0 : decode cX3_circle 0 = .ok (.aload_n 0, 1) := by decide +kernel
theorem dX3_circle_1 : decode cX3_circle 1 = .ok (.iload_n 1, 1) := by decide +kernel
theorem dX3_circle_2 : decode cX3_circle 2 = .ok (.ifCond .lt 9, 3) := by decide +kernel
theorem dX3_circle_5 : decode cX3_circle 5 = .ok (.iload_n 1, 1) := by decide +kernel
theorem dX3_circle_6 : decode cX3_circle 6 = .ok (.bipush 11, 2) := by decide +kernel
theorem dX3_circle_8 : decode cX3_circle 8 = .ok (.if_icmp .le 7, 3) := by decide +kernel
theorem dX3_circle_11 : decode cX3_circle 11 = .ok (.iconst 1, 1) := by decide +kernel
theorem dX3_circle_12 : decode cX3_circle 12 = .ok (.goto 4, 3) := by decide +kernel
theorem dX3_circle_15 : decode cX3_circle 15 = .ok (.iconst 0, 1) := by decide +kernel
theorem dX3_circle_16 : decode cX3_circle 16 = .ok (.invokevirtual 98, 3) := by decide +kernel
theorem dX3_circle_19 : decode cX3_circle 19 = .ok (.ifCond .eq 5, 3) := by decide +kernel
theorem dX3_circle_22 : decode cX3_circle 22 = .ok (.iconst 0, 1) := by decide +kernel
theorem dX3_circle_23 : decode cX3_circle 23 = .ok (.ireturn, 1) := by decide +kernel
theorem dX3_circle_24 : decode cX3_circle 24 = .ok (.iconst 0, 1) := by decide +kernel
theorem dX3_circle_25 : decode cX3_circle 25 = .ok (.istore_n 2, 1) := by decide +kernel
theorem dX3_circle_26 : decode cX3_circle 26 = .ok (.iconst 0, 1) := by decide +kernel
theorem dX3_circle_27 : decode cX3_circle 27 = .ok (.istore_n 3, 1) := by decide +kernel
theorem dX3_circle_28 : decode cX3_circle 28 = .ok (.iload_n 3, 1) := by decide +kernel
theorem dX3_circle_29 : decode cX3_circle 29 = .ok (.aload_n 0, 1) := by decide +kernel
theorem dX3_circle_30 : decode cX3_circle 30 = .ok (.getfield 17, 3) := by decide +kernel
theorem dX3_circle_33 : decode cX3_circle 33 = .ok (.if_icmp .ge 37, 3) := by decide +kernel
theorem dX3_circle_36 : decode cX3_circle 36 = .ok (.iload_n 2, 1) := by decide +kernel
theorem dX3_circle_37 : decode cX3_circle 37 = .ok (.aload_n 0, 1) := by decide +kernel
theorem dX3_circle_38 : decode cX3_circle 38 = .ok (.getfield 30, 3) := by decide +kernel
theorem dX3_circle_41 : decode cX3_circle 41 = .ok (.iload_n 3, 1) := by decide +kernel
theorem dX3_circle_42 : decode cX3_circle 42 = .ok (.iaload, 1) := by decide +kernel
theorem dX3_circle_43 : decode cX3_circle 43 = .ok (.iload_n 3, 1) := by decide +kernel
theorem dX3_circle_44 : decode cX3_circle 44 = .ok (.iload_n 1, 1) := by decide +kernel
theorem dX3_circle_45 : decode cX3_circle 45 = .ok (.iadd, 1) := by decide +kernel
theorem dX3_circle_46 : decode cX3_circle 46 = .ok (.aload_n 0, 1) := by decide +kernel
theorem dX3_circle_47 : decode cX3_circle 47 = .ok (.getfield 17, 3) := by decide +kernel
theorem dX3_circle_50 : decode cX3_circle 50 = .ok (.irem, 1) := by decide +kernel
theorem dX3_circle_51 : decode cX3_circle 51 = .ok (.invokestatic 77, 3) := by decide +kernel
theorem dX3_circle_54 : decode cX3_circle 54 = .ok (.ifCond .eq 7, 3) := by decide +kernel
theorem dX3_circle_57 : decode cX3_circle 57 = .ok (.iconst 0, 1) := by decide +kernel
theorem dX3_circle_58 : decode cX3_circle 58 = .ok (.goto 4, 3) := by decide +kernel
theorem dX3_circle_61 : decode cX3_circle 61 = .ok (.iconst 1, 1) := by decide +kernel
theorem dX3_circle_62 : decode cX3_circle 62 = .ok (.iadd, 1) := by decide +kernel
theorem dX3_circle_63 : decode cX3_circle 63 = .ok (.istore_n 2, 1) := by decide +kernel
theorem dX3_circle_64 : decode cX3_circle 64 = .ok (.iinc 3 1, 3) := by decide +kernel
theorem dX3_circle_67 : decode cX3_circle 67 = .ok (.goto (-39), 3) := by decide +kernel
theorem dX3_circle_70 : decode cX3_circle 70 = .ok (.aload_n 0, 1) := by decide +kernel
theorem dX3_circle_71 : decode cX3_circle 71 = .ok (.invokevirtual 111, 3) := by decide +kernel
theorem dX3_circle_74 : decode cX3_circle 74 = .ok (.iload_n 2, 1) := by decide +kernel
theorem dX3_circle_75 : decode cX3_circle 75 = .ok (.iadd, 1) := by decide +kernel
theorem dX3_circle_76 : decode cX3_circle 76 = .ok (.bipush 30, 2) := by decide +kernel
theorem dX3_circle_78 : decode cX3_circle 78 = .ok (.if_icmp .le 8, 3) := by decide +kernel
theorem dX3_circle_81 : decode cX3_circle 81 = .ok (.aload_n 0, 1) := by decide +kernel
theorem dX3_circle_82 : decode cX3_circle 82 = .ok (.invokevirtual 114, 3) := by decide +kernel
theorem dX3_circle_85 : decode cX3_circle 85 = .ok (.ireturn, 1) := by decide +kernel
theorem dX3_circle_86 : decode cX3_circle 86 = .ok (.iconst 0, 1) := by decide +kernel
theorem dX3_circle_87 : decode cX3_circle 87 = .ok (.istore_n 3, 1) := by decide +kernel
theorem dX3_circle_88 : decode cX3_circle 88 = .ok (.iload_n 3, 1) := by decide +kernel
theorem dX3_circle_89 : decode cX3_circle 89 = .ok (.aload_n 0, 1) := by decide +kernel
theorem dX3_circle_90 : decode cX3_circle 90 = .ok (.getfield 17, 3) := by decide +kernel
theorem dX3_circle_93 : decode cX3_circle 93 = .ok (.if_icmp .ge 28, 3) := by decide +kernel
theorem dX3_circle_96 : decode cX3_circle 96 = .ok (.aload_n 0, 1) := by decide +kernel
theorem dX3_circle_97 : decode cX3_circle 97 = .ok (.getfield 30, 3) := by decide +kernel
theorem dX3_circle_100 : decode cX3_circle 100 = .ok (.iload_n 3, 1) := by decide +kernel
theorem dX3_circle_101 : decode cX3_circle 101 = .ok (.dup2, 1) := by decide +kernel
theorem dX3_circle_102 : decode cX3_circle 102 = .ok (.iaload, 1) := by decide +kernel
theorem dX3_circle_103 : decode cX3_circle 103 = .ok (.iconst 1, 1) := by decide +kernel
theorem dX3_circle_104 : decode cX3_circle 104 = .ok (.iload_n 3, 1) := by decide +kernel
theorem dX3_circle_105 : decode cX3_circle 105 = .ok (.iload_n 1, 1) := by decide +kernel
theorem dX3_circle_106 : decode cX3_circle 106 = .ok (.iadd, 1) := by decide +kernel
theorem dX3_circle_107 : decode cX3_circle 107 = .ok (.aload_n 0, 1) := by decide +kernel
theorem dX3_circle_108 : decode cX3_circle 108 = .ok (.getfield 17, 3) := by decide +kernel
theorem dX3_circle_111 : decode cX3_circle 111 = .ok (.irem, 1) := by decide +kernel
theorem dX3_circle_112 : decode cX3_circle 112 = .ok (.ishl, 1) := by decide +kernel
theorem dX3_circle_113 : decode cX3_circle 113 = .ok (.ior, 1) := by decide +kernel
theorem dX3_circle_114 : decode cX3_circle 114 = .ok (.iastore, 1) := by decide +kernel
theorem dX3_circle_115 : decode cX3_circle 115 = .ok (.iinc 3 1, 3) := by decide +kernel
theorem dX3_circle_118 : decode cX3_circle 118 = .ok (.goto (-30), 3) := by decide +kernel
theorem dX3_circle_121 : decode cX3_circle 121 = .ok (.aload_n 0, 1) := by decide +kernel
theorem dX3_circle_122 : decode cX3_circle 122 = .ok (.iload_n 2, 1) := by decide +kernel
theorem dX3_circle_123 : decode cX3_circle 123 = .ok (.invokevirtual 101, 3) := by decide +kernel
theorem dX3_circle_126 : decode cX3_circle 126 = .ok (.ireturn, 1) := by decide +kernel
set_option maxRecDepth 20000 in
theorem ggX3_strew_X3_isThrown_ : GoodIn wsX3_strew wsX3_isThrown_ := goodIn_r _ [10, 11, 12, 13, 9, 14, 15, 32, 33, 34, 35, 36, 37, 38, 39, 40, 41, 42] (by decide +kernel) (by decide +kernel)
set_option maxRecDepth 20000 in
theorem gX3_strew_X3_isThrown_ : GoodIn wsX3_strew (wsV RX3 98 RX3 yX3_isThrown_ wsX3_isThrown_) := goodIn_app (goodIn_of _ (by decide +kernel)) ggX3_strew_X3_isThrown_
set_option maxRecDepth 20000 in
theorem ggX3_strew_X3_waysNow : GoodIn wsX3_strew wsX3_waysNow := goodIn_r _ [19, 5, 20, 21, 22, 23, 24, 25, 26, 32, 33, 34, 35, 36, 37, 38, 39, 40, 41, 42] (by decide +kernel) (by decide +kernel)
set_option maxRecDepth 20000 in
theorem gX3_strew_X3_waysNow : GoodIn wsX3_strew (wsV RX3 111 RX3 yX3_waysNow wsX3_waysNow) := goodIn_app (goodIn_of _ (by decide +kernel)) ggX3_strew_X3_waysNow
set_option maxRecDepth 20000 in
theorem ggX3_strew_X3_done : GoodIn wsX3_strew wsX3_done := goodIn_r _ [30, 31, 32, 33, 34, 35, 36, 37, 38, 39, 40, 41, 42] (by decide +kernel) (by decide +kernel)
set_option maxRecDepth 20000 in
theorem gX3_strew_X3_done : GoodIn wsX3_strew (wsV RX3 101 RX3 yX3_done wsX3_done) := goodIn_app (goodIn_of _ (by decide +kernel)) ggX3_strew_X3_done
theorem dX3_strew_0 : decode cX3_strew 0 = .ok (.aload_n 0, 1) := by decide +kernel
theorem dX3_strew_1 : decode cX3_strew 1 = .ok (.iload_n 1, 1) := by decide +kernel
theorem dX3_strew_2 : decode cX3_strew 2 = .ok (.ifCond .lt 10, 3) := by decide +kernel
theorem dX3_strew_5 : decode cX3_strew 5 = .ok (.iload_n 1, 1) := by decide +kernel
theorem dX3_strew_6 : decode cX3_strew 6 = .ok (.sipush 9999, 3) := by decide +kernel
theorem dX3_strew_9 : decode cX3_strew 9 = .ok (.if_icmp .le 7, 3) := by decide +kernel
theorem dX3_strew_12 : decode cX3_strew 12 = .ok (.iconst 1, 1) := by decide +kernel
theorem dX3_strew_13 : decode cX3_strew 13 = .ok (.goto 4, 3) := by decide +kernel
theorem dX3_strew_16 : decode cX3_strew 16 = .ok (.iconst 0, 1) := by decide +kernel
theorem dX3_strew_17 : decode cX3_strew 17 = .ok (.invokevirtual 98, 3) := by decide +kernel
theorem dX3_strew_20 : decode cX3_strew 20 = .ok (.ifCond .eq 5, 3) := by decide +kernel
theorem dX3_strew_23 : decode cX3_strew 23 = .ok (.iconst 0, 1) := by decide +kernel
theorem dX3_strew_24 : decode cX3_strew 24 = .ok (.ireturn, 1) := by decide +kernel
theorem dX3_strew_25 : decode cX3_strew 25 = .ok (.aload_n 0, 1) := by decide +kernel
theorem dX3_strew_26 : decode cX3_strew 26 = .ok (.iconst 0, 1) := by decide +kernel
theorem dX3_strew_27 : decode cX3_strew 27 = .ok (.putfield 20, 3) := by decide +kernel
theorem dX3_strew_30 : decode cX3_strew 30 = .ok (.aload_n 0, 1) := by decide +kernel
theorem dX3_strew_31 : decode cX3_strew 31 = .ok (.iconst 0, 1) := by decide +kernel
theorem dX3_strew_32 : decode cX3_strew 32 = .ok (.putfield 23, 3) := by decide +kernel
theorem dX3_strew_35 : decode cX3_strew 35 = .ok (.iconst 0, 1) := by decide +kernel
theorem dX3_strew_36 : decode cX3_strew 36 = .ok (.istore_n 2, 1) := by decide +kernel
theorem dX3_strew_37 : decode cX3_strew 37 = .ok (.iload_n 2, 1) := by decide +kernel
theorem dX3_strew_38 : decode cX3_strew 38 = .ok (.aload_n 0, 1) := by decide +kernel
theorem dX3_strew_39 : decode cX3_strew 39 = .ok (.getfield 17, 3) := by decide +kernel
theorem dX3_strew_42 : decode cX3_strew 42 = .ok (.if_icmp .ge 92, 3) := by decide +kernel
theorem dX3_strew_45 : decode cX3_strew 45 = .ok (.iload_n 1, 1) := by decide +kernel
theorem dX3_strew_46 : decode cX3_strew 46 = .ok (.bipush 7, 2) := by decide +kernel
theorem dX3_strew_48 : decode cX3_strew 48 = .ok (.iload_n 2, 1) := by decide +kernel
theorem dX3_strew_49 : decode cX3_strew 49 = .ok (.imul, 1) := by decide +kernel
theorem dX3_strew_50 : decode cX3_strew 50 = .ok (.iadd, 1) := by decide +kernel
theorem dX3_strew_51 : decode cX3_strew 51 = .ok (.iload_n 2, 1) := by decide +kernel
theorem dX3_strew_52 : decode cX3_strew 52 = .ok (.iload_n 2, 1) := by decide +kernel
theorem dX3_strew_53 : decode cX3_strew 53 = .ok (.imul, 1) := by decide +kernel
theorem dX3_strew_54 : decode cX3_strew 54 = .ok (.iadd, 1) := by decide +kernel
theorem dX3_strew_55 : decode cX3_strew 55 = .ok (.istore_n 3, 1) := by decide +kernel
theorem dX3_strew_56 : decode cX3_strew 56 = .ok (.aload_n 0, 1) := by decide +kernel
theorem dX3_strew_57 : decode cX3_strew 57 = .ok (.dup, 1) := by decide +kernel
theorem dX3_strew_58 : decode cX3_strew 58 = .ok (.getfield 20, 3) := by decide +kernel
theorem dX3_strew_61 : decode cX3_strew 61 = .ok (.iload_n 3, 1) := by decide +kernel
theorem dX3_strew_62 : decode cX3_strew 62 = .ok (.iconst 2, 1) := by decide +kernel
theorem dX3_strew_63 : decode cX3_strew 63 = .ok (.irem, 1) := by decide +kernel
theorem dX3_strew_64 : decode cX3_strew 64 = .ok (.iload_n 2, 1) := by decide +kernel
theorem dX3_strew_65 : decode cX3_strew 65 = .ok (.ishl, 1) := by decide +kernel
theorem dX3_strew_66 : decode cX3_strew 66 = .ok (.ior, 1) := by decide +kernel
theorem dX3_strew_67 : decode cX3_strew 67 = .ok (.putfield 20, 3) := by decide +kernel
theorem dX3_strew_70 : decode cX3_strew 70 = .ok (.aload_n 0, 1) := by decide +kernel
theorem dX3_strew_71 : decode cX3_strew 71 = .ok (.getfield 26, 3) := by decide +kernel
theorem dX3_strew_74 : decode cX3_strew 74 = .ok (.iload_n 2, 1) := by decide +kernel
theorem dX3_strew_75 : decode cX3_strew 75 = .ok (.iload_n 3, 1) := by decide +kernel
theorem dX3_strew_76 : decode cX3_strew 76 = .ok (.iconst 3, 1) := by decide +kernel
theorem dX3_strew_77 : decode cX3_strew 77 = .ok (.irem, 1) := by decide +kernel
theorem dX3_strew_78 : decode cX3_strew 78 = .ok (.iastore, 1) := by decide +kernel
theorem dX3_strew_79 : decode cX3_strew 79 = .ok (.aload_n 0, 1) := by decide +kernel
theorem dX3_strew_80 : decode cX3_strew 80 = .ok (.dup, 1) := by decide +kernel
theorem dX3_strew_81 : decode cX3_strew 81 = .ok (.getfield 23, 3) := by decide +kernel
theorem dX3_strew_84 : decode cX3_strew 84 = .ok (.iload_n 3, 1) := by decide +kernel
theorem dX3_strew_85 : decode cX3_strew 85 = .ok (.iconst 5, 1) := by decide +kernel
theorem dX3_strew_86 : decode cX3_strew 86 = .ok (.irem, 1) := by decide +kernel
theorem dX3_strew_87 : decode cX3_strew 87 = .ok (.ifCond .ne 9, 3) := by decide +kernel
theorem dX3_strew_90 : decode cX3_strew 90 = .ok (.iconst 1, 1) := by decide +kernel
theorem dX3_strew_91 : decode cX3_strew 91 = .ok (.iload_n 2, 1) := by decide +kernel
theorem dX3_strew_92 : decode cX3_strew 92 = .ok (.ishl, 1) := by decide +kernel
theorem dX3_strew_93 : decode cX3_strew 93 = .ok (.goto 4, 3) := by decide +kernel
theorem dX3_strew_96 : decode cX3_strew 96 = .ok (.iconst 0, 1) := by decide +kernel
theorem dX3_strew_97 : decode cX3_strew 97 = .ok (.ior, 1) := by decide +kernel
theorem dX3_strew_98 : decode cX3_strew 98 = .ok (.putfield 23, 3) := by decide +kernel
theorem dX3_strew_101 : decode cX3_strew 101 = .ok (.aload_n 0, 1) := by decide +kernel
theorem dX3_strew_102 : decode cX3_strew 102 = .ok (.getfield 30, 3) := by decide +kernel
theorem dX3_strew_105 : decode cX3_strew 105 = .ok (.iload_n 2, 1) := by decide +kernel
theorem dX3_strew_106 : decode cX3_strew 106 = .ok (.iconst 1, 1) := by decide +kernel
theorem dX3_strew_107 : decode cX3_strew 107 = .ok (.iload_n 3, 1) := by decide +kernel
theorem dX3_strew_108 : decode cX3_strew 108 = .ok (.aload_n 0, 1) := by decide +kernel
theorem dX3_strew_109 : decode cX3_strew 109 = .ok (.getfield 17, 3) := by decide +kernel
theorem dX3_strew_112 : decode cX3_strew 112 = .ok (.irem, 1) := by decide +kernel
theorem dX3_strew_113 : decode cX3_strew 113 = .ok (.ishl, 1) := by decide +kernel
theorem dX3_strew_114 : decode cX3_strew 114 = .ok (.iconst 1, 1) := by decide +kernel
theorem dX3_strew_115 : decode cX3_strew 115 = .ok (.iconst 3, 1) := by decide +kernel
theorem dX3_strew_116 : decode cX3_strew 116 = .ok (.iload_n 3, 1) := by decide +kernel
theorem dX3_strew_117 : decode cX3_strew 117 = .ok (.imul, 1) := by decide +kernel
theorem dX3_strew_118 : decode cX3_strew 118 = .ok (.iload_n 2, 1) := by decide +kernel
theorem dX3_strew_119 : decode cX3_strew 119 = .ok (.iadd, 1) := by decide +kernel
theorem dX3_strew_120 : decode cX3_strew 120 = .ok (.aload_n 0, 1) := by decide +kernel
theorem dX3_strew_121 : decode cX3_strew 121 = .ok (.getfield 17, 3) := by decide +kernel
theorem dX3_strew_124 : decode cX3_strew 124 = .ok (.irem, 1) := by decide +kernel
theorem dX3_strew_125 : decode cX3_strew 125 = .ok (.ishl, 1) := by decide +kernel
theorem dX3_strew_126 : decode cX3_strew 126 = .ok (.ior, 1) := by decide +kernel
theorem dX3_strew_127 : decode cX3_strew 127 = .ok (.iastore, 1) := by decide +kernel
theorem dX3_strew_128 : decode cX3_strew 128 = .ok (.iinc 2 1, 3) := by decide +kernel
theorem dX3_strew_131 : decode cX3_strew 131 = .ok (.goto (-94), 3) := by decide +kernel
theorem dX3_strew_134 : decode cX3_strew 134 = .ok (.aload_n 0, 1) := by decide +kernel
theorem dX3_strew_135 : decode cX3_strew 135 = .ok (.aload_n 0, 1) := by decide +kernel
theorem dX3_strew_136 : decode cX3_strew 136 = .ok (.invokevirtual 111, 3) := by decide +kernel
theorem dX3_strew_139 : decode cX3_strew 139 = .ok (.invokevirtual 101, 3) := by decide +kernel
theorem dX3_strew_142 : decode cX3_strew 142 = .ok (.ireturn, 1) := by decide +kernel
set_option maxRecDepth 20000 in
theorem ggX3_change_X3_all : GoodIn wsX3_change wsX3_all := goodIn_r _ [8, 3, 21, 22, 23, 24, 25, 26, 27, 28, 29, 30, 31] (by decide +kernel) (by decide +kernel)
set_option maxRecDepth 20000 in
theorem gX3_change_X3_all : GoodIn wsX3_change (wsV RX3 55 RX3 yX3_all wsX3_all) := goodIn_app (goodIn_of _ (by decide +kernel)) ggX3_change_X3_all
set_option maxRecDepth 20000 in
theorem ggX3_change_J6_bitCount_0f7a4 : GoodIn wsX3_change wsJ6_bitCount_0f7a4 := goodIn_r _ [12, 13, 14, 15] (by decide +kernel) (by decide +kernel)
set_option maxRecDepth 20000 in
theorem gX3_change_J6_bitCount_0f7a4 : GoodIn wsX3_change (va_wsS RX3 39 yJ6_bitCount_0f7a4 wsJ6_bitCount_0f7a4) := goodIn_app (goodIn_of _ (by decide +kernel)) ggX3_change_J6_bitCount_0f7a4
set_option maxRecDepth 20000 in
theorem ggX3_change_X3_done : GoodIn wsX3_change wsX3_done := goodIn_r _ [19, 20, 21, 22, 23, 24, 25, 26, 27, 28, 29, 30, 31] (by decide +kernel) (by decide +kernel)
set_option maxRecDepth 20000 in
theorem gX3_change_X3_done : GoodIn wsX3_change (wsV RX3 101 RX3 yX3_done wsX3_done) := goodIn_app (goodIn_of _ (by decide +kernel)) ggX3_change_X3_done
theorem dX3_change_0 : decode cX3_change 0 = .ok (.aload_n 0, 1) := by decide +kernel
theorem dX3_change_1 : decode cX3_change 1 = .ok (.iconst 0, 1) := by decide +kernel
theorem dX3_change_2 : decode cX3_change 2 = .ok (.putfield 13, 3) := by decide +kernel
theorem dX3_change_5 : decode cX3_change 5 = .ok (.aload_n 0, 1) := by decide +kernel
theorem dX3_change_6 : decode cX3_change 6 = .ok (.aload_n 0, 1) := by decide +kernel
theorem dX3_change_7 : decode cX3_change 7 = .ok (.invokevirtual 55, 3) := by decide +kernel
theorem dX3_change_10 : decode cX3_change 10 = .ok (.aload_n 0, 1) := by decide +kernel
theorem dX3_change_11 : decode cX3_change 11 = .ok (.getfield 20, 3) := by decide +kernel
theorem dX3_change_14 : decode cX3_change 14 = .ok (.iconst (-1), 1) := by decide +kernel
theorem dX3_change_15 : decode cX3_change 15 = .ok (.ixor, 1) := by decide +kernel
theorem dX3_change_16 : decode cX3_change 16 = .ok (.iand, 1) := by decide +kernel
theorem dX3_change_17 : decode cX3_change 17 = .ok (.putfield 20, 3) := by decide +kernel
theorem dX3_change_20 : decode cX3_change 20 = .ok (.aload_n 0, 1) := by decide +kernel
theorem dX3_change_21 : decode cX3_change 21 = .ok (.aload_n 0, 1) := by decide +kernel
theorem dX3_change_22 : decode cX3_change 22 = .ok (.getfield 17, 3) := by decide +kernel
theorem dX3_change_25 : decode cX3_change 25 = .ok (.aload_n 0, 1) := by decide +kernel
theorem dX3_change_26 : decode cX3_change 26 = .ok (.getfield 20, 3) := by decide +kernel
theorem dX3_change_29 : decode cX3_change 29 = .ok (.invokestatic 39, 3) := by decide +kernel
theorem dX3_change_32 : decode cX3_change 32 = .ok (.isub, 1) := by decide +kernel
theorem dX3_change_33 : decode cX3_change 33 = .ok (.invokevirtual 101, 3) := by decide +kernel
theorem dX3_change_36 : decode cX3_change 36 = .ok (.ireturn, 1) := by decide +kernel
set_option maxRecDepth 20000 in
theorem ggX3_stand_X3_isPlace : GoodIn wsX3_stand wsX3_isPlace := goodIn_r _ [7, 8, 23, 24, 25, 26, 27, 28, 29, 30, 31, 32, 33] (by decide +kernel) (by decide +kernel)
set_option maxRecDepth 20000 in
theorem gX3_stand_X3_isPlace : GoodIn wsX3_stand (wsV RX3 104 RX3 yX3_isPlace wsX3_isPlace) := goodIn_app (goodIn_of _ (by decide +kernel)) ggX3_stand_X3_isPlace
set_option maxRecDepth 20000 in
theorem ggX3_stand_X3_isThrown_ : GoodIn wsX3_stand wsX3_isThrown_ := goodIn_r _ [12, 13, 14, 15, 6, 16, 17, 23, 24, 25, 26, 27, 28, 29, 30, 31, 32, 33] (by decide +kernel) (by decide +kernel)
set_option maxRecDepth 20000 in
theorem gX3_stand_X3_isThrown_ : GoodIn wsX3_stand (wsV RX3 98 RX3 yX3_isThrown_ wsX3_isThrown_) := goodIn_app (goodIn_of _ (by decide +kernel)) ggX3_stand_X3_isThrown_
set_option maxRecDepth 20000 in
theorem ggX3_stand_X3_done : GoodIn wsX3_stand wsX3_done := goodIn_r _ [21, 22, 23, 24, 25, 26, 27, 28, 29, 30, 31, 32, 33] (by decide +kernel) (by decide +kernel)
set_option maxRecDepth 20000 in
theorem gX3_stand_X3_done : GoodIn wsX3_stand (wsV RX3 101 RX3 yX3_done wsX3_done) := goodIn_app (goodIn_of _ (by decide +kernel)) ggX3_stand_X3_done
theorem dX3_stand_0 : decode cX3_stand 0 = .ok (.aload_n 0, 1) := by decide +kernel
theorem dX3_stand_1 : decode cX3_stand 1 = .ok (.aload_n 0, 1) := by decide +kernel
theorem dX3_stand_2 : decode cX3_stand 2 = .ok (.iload_n 1, 1) := by decide +kernel
theorem dX3_stand_3 : decode cX3_stand 3 = .ok (.invokevirtual 104, 3) := by decide +kernel
theorem dX3_stand_6 : decode cX3_stand 6 = .ok (.ifCond .ne 7, 3) := by decide +kernel
theorem dX3_stand_9 : decode cX3_stand 9 = .ok (.iconst 1, 1) := by decide +kernel
theorem dX3_stand_10 : decode cX3_stand 10 = .ok (.goto 4, 3) := by decide +kernel
theorem dX3_stand_13 : decode cX3_stand 13 = .ok (.iconst 0, 1) := by decide +kernel
theorem dX3_stand_14 : decode cX3_stand 14 = .ok (.invokevirtual 98, 3) := by decide +kernel
theorem dX3_stand_17 : decode cX3_stand 17 = .ok (.ifCond .eq 5, 3) := by decide +kernel
theorem dX3_stand_20 : decode cX3_stand 20 = .ok (.iconst 0, 1) := by decide +kernel
theorem dX3_stand_21 : decode cX3_stand 21 = .ok (.ireturn, 1) := by decide +kernel
theorem dX3_stand_22 : decode cX3_stand 22 = .ok (.aload_n 0, 1) := by decide +kernel
theorem dX3_stand_23 : decode cX3_stand 23 = .ok (.getfield 33, 3) := by decide +kernel
theorem dX3_stand_26 : decode cX3_stand 26 = .ok (.istore_n 2, 1) := by decide +kernel
theorem dX3_stand_27 : decode cX3_stand 27 = .ok (.aload_n 0, 1) := by decide +kernel
theorem dX3_stand_28 : decode cX3_stand 28 = .ok (.iload_n 1, 1) := by decide +kernel
theorem dX3_stand_29 : decode cX3_stand 29 = .ok (.putfield 33, 3) := by decide +kernel
theorem dX3_stand_32 : decode cX3_stand 32 = .ok (.aload_n 0, 1) := by decide +kernel
theorem dX3_stand_33 : decode cX3_stand 33 = .ok (.iconst 0, 1) := by decide +kernel
theorem dX3_stand_34 : decode cX3_stand 34 = .ok (.putfield 36, 3) := by decide +kernel
theorem dX3_stand_37 : decode cX3_stand 37 = .ok (.aload_n 0, 1) := by decide +kernel
theorem dX3_stand_38 : decode cX3_stand 38 = .ok (.iload_n 2, 1) := by decide +kernel
theorem dX3_stand_39 : decode cX3_stand 39 = .ok (.invokevirtual 101, 3) := by decide +kernel
theorem dX3_stand_42 : decode cX3_stand 42 = .ok (.ireturn, 1) := by decide +kernel
set_option maxRecDepth 20000 in
theorem ggX3_go_X3_isPlace : GoodIn wsX3_go wsX3_isPlace := goodIn_r _ [8, 9, 32, 33, 34, 35, 36, 37, 38, 39, 40, 41, 42] (by decide +kernel) (by decide +kernel)
set_option maxRecDepth 20000 in
theorem gX3_go_X3_isPlace : GoodIn wsX3_go (wsV RX3 104 RX3 yX3_isPlace wsX3_isPlace) := goodIn_app (goodIn_of _ (by decide +kernel)) ggX3_go_X3_isPlace
set_option maxRecDepth 20000 in
theorem ggX3_go_X3_isThrown_ : GoodIn wsX3_go wsX3_isThrown_ := goodIn_r _ [13, 14, 15, 16, 7, 17, 18, 32, 33, 34, 35, 36, 37, 38, 39, 40, 41, 42] (by decide +kernel) (by decide +kernel)
set_option maxRecDepth 20000 in
theorem gX3_go_X3_isThrown_ : GoodIn wsX3_go (wsV RX3 98 RX3 yX3_isThrown_ wsX3_isThrown_) := goodIn_app (goodIn_of _ (by decide +kernel)) ggX3_go_X3_isThrown_
set_option maxRecDepth 20000 in
theorem ggX3_go_X3_isIn : GoodIn wsX3_go wsX3_isIn := goodIn_r _ [21] (by decide +kernel) (by decide +kernel)
set_option maxRecDepth 20000 in
theorem gX3_go_X3_isIn : GoodIn wsX3_go (va_wsS RX3 77 yX3_isIn wsX3_isIn) := goodIn_app (goodIn_of _ (by decide +kernel)) ggX3_go_X3_isIn
set_option maxRecDepth 20000 in
theorem ggX3_go_X3_no : GoodIn wsX3_go wsX3_no := goodIn_r _ [25, 26, 32, 33, 34, 35, 36, 37, 38, 39, 40, 41, 42] (by decide +kernel) (by decide +kernel)
set_option maxRecDepth 20000 in
theorem gX3_go_X3_no : GoodIn wsX3_go (wsV RX3 114 RX3 yX3_no wsX3_no) := goodIn_app (goodIn_of _ (by decide +kernel)) ggX3_go_X3_no
set_option maxRecDepth 20000 in
theorem ggX3_go_X3_done : GoodIn wsX3_go wsX3_done := goodIn_r _ [30, 31, 32, 33, 34, 35, 36, 37, 38, 39, 40, 41, 42] (by decide +kernel) (by decide +kernel)
set_option maxRecDepth 20000 in
theorem gX3_go_X3_done : GoodIn wsX3_go (wsV RX3 101 RX3 yX3_done wsX3_done) := goodIn_app (goodIn_of _ (by decide +kernel)) ggX3_go_X3_done
theorem dX3_go_0 : decode cX3_go 0 = .ok (.aload_n 0, 1) := by decide +kernel
theorem dX3_go_1 : decode cX3_go 1 = .ok (.aload_n 0, 1) := by decide +kernel
theorem dX3_go_2 : decode cX3_go 2 = .ok (.iload_n 1, 1) := by decide +kernel
theorem dX3_go_3 : decode cX3_go 3 = .ok (.invokevirtual 104, 3) := by decide +kernel
theorem dX3_go_6 : decode cX3_go 6 = .ok (.ifCond .ne 7, 3) := by decide +kernel
theorem dX3_go_9 : decode cX3_go 9 = .ok (.iconst 1, 1) := by decide +kernel
theorem dX3_go_10 : decode cX3_go 10 = .ok (.goto 4, 3) := by decide +kernel
theorem dX3_go_13 : decode cX3_go 13 = .ok (.iconst 0, 1) := by decide +kernel
theorem dX3_go_14 : decode cX3_go 14 = .ok (.invokevirtual 98, 3) := by decide +kernel
theorem dX3_go_17 : decode cX3_go 17 = .ok (.ifCond .eq 5, 3) := by decide +kernel
theorem dX3_go_20 : decode cX3_go 20 = .ok (.iconst 0, 1) := by decide +kernel
theorem dX3_go_21 : decode cX3_go 21 = .ok (.ireturn, 1) := by decide +kernel
theorem dX3_go_22 : decode cX3_go 22 = .ok (.aload_n 0, 1) := by decide +kernel
theorem dX3_go_23 : decode cX3_go 23 = .ok (.getfield 30, 3) := by decide +kernel
theorem dX3_go_26 : decode cX3_go 26 = .ok (.aload_n 0, 1) := by decide +kernel
theorem dX3_go_27 : decode cX3_go 27 = .ok (.getfield 33, 3) := by decide +kernel
theorem dX3_go_30 : decode cX3_go 30 = .ok (.iaload, 1) := by decide +kernel
theorem dX3_go_31 : decode cX3_go 31 = .ok (.iload_n 1, 1) := by decide +kernel
theorem dX3_go_32 : decode cX3_go 32 = .ok (.invokestatic 77, 3) := by decide +kernel
theorem dX3_go_35 : decode cX3_go 35 = .ok (.ifCond .ne 8, 3) := by decide +kernel
theorem dX3_go_38 : decode cX3_go 38 = .ok (.aload_n 0, 1) := by decide +kernel
theorem dX3_go_39 : decode cX3_go 39 = .ok (.invokevirtual 114, 3) := by decide +kernel
theorem dX3_go_42 : decode cX3_go 42 = .ok (.ireturn, 1) := by decide +kernel
theorem dX3_go_43 : decode cX3_go 43 = .ok (.aload_n 0, 1) := by decide +kernel
theorem dX3_go_44 : decode cX3_go 44 = .ok (.iload_n 1, 1) := by decide +kernel
theorem dX3_go_45 : decode cX3_go 45 = .ok (.putfield 33, 3) := by decide +kernel
theorem dX3_go_48 : decode cX3_go 48 = .ok (.aload_n 0, 1) := by decide +kernel
theorem dX3_go_49 : decode cX3_go 49 = .ok (.dup, 1) := by decide +kernel
theorem dX3_go_50 : decode cX3_go 50 = .ok (.getfield 36, 3) := by decide +kernel
theorem dX3_go_53 : decode cX3_go 53 = .ok (.iconst 1, 1) := by decide +kernel
theorem dX3_go_54 : decode cX3_go 54 = .ok (.iadd, 1) := by decide +kernel
theorem dX3_go_55 : decode cX3_go 55 = .ok (.putfield 36, 3) := by decide +kernel
theorem dX3_go_58 : decode cX3_go 58 = .ok (.aload_n 0, 1) := by decide +kernel
theorem dX3_go_59 : decode cX3_go 59 = .ok (.aload_n 0, 1) := by decide +kernel
theorem dX3_go_60 : decode cX3_go 60 = .ok (.getfield 36, 3) := by decide +kernel
theorem dX3_go_63 : decode cX3_go 63 = .ok (.invokevirtual 101, 3) := by decide +kernel
theorem dX3_go_66 : decode cX3_go 66 = .ok (.ireturn, 1) := by decide +kernel
set_option maxRecDepth 20000 in
theorem ggX3_follow_X3_isThrown_ : GoodIn wsX3_follow wsX3_isThrown_ := goodIn_r _ [7, 8, 9, 10, 6, 11, 12, 83, 84, 85, 86, 87, 88, 89, 90, 91, 92, 93] (by decide +kernel) (by decide +kernel)
set_option maxRecDepth 20000 in
theorem gX3_follow_X3_isThrown_ : GoodIn wsX3_follow (wsV RX3 98 RX3 yX3_isThrown_ wsX3_isThrown_) := goodIn_app (goodIn_of _ (by decide +kernel)) ggX3_follow_X3_isThrown_
set_option maxRecDepth 20000 in
theorem ggX3_follow_X3_sideOf : GoodIn wsX3_follow wsX3_sideOf := goodIn_r _ [16, 17, 83, 84, 85, 86, 87, 88, 89, 90, 91, 92, 93] (by decide +kernel) (by decide +kernel)
set_option maxRecDepth 20000 in
theorem gX3_follow_X3_sideOf : GoodIn wsX3_follow (wsV RX3 45 RX3 yX3_sideOf wsX3_sideOf) := goodIn_app (goodIn_of _ (by decide +kernel)) ggX3_follow_X3_sideOf
set_option maxRecDepth 20000 in
theorem ggX3_follow_X3_choiceOf : GoodIn wsX3_follow wsX3_choiceOf := goodIn_r _ [21, 22, 23, 24, 25, 26, 27, 6, 28, 29, 30, 31, 32, 33, 34, 35, 36, 37, 38, 39, 40, 13, 14, 15, 16, 17, 41, 42, 43, 44, 45, 46, 47, 48, 49, 50, 51, 52, 53, 54, 55, 56, 57, 58, 59, 60, 61, 62, 63, 64, 65, 66, 67, 68, 69, 70, 71, 72, 83, 84, 85, 86, 87, 88, 89, 90, 91, 92, 93] (by decide +kernel) (by decide +kernel)
set_option maxRecDepth 20000 in
theorem gX3_follow_X3_choiceOf : GoodIn wsX3_follow (wsV RX3 117 RX3 yX3_choiceOf wsX3_choiceOf) := goodIn_app (goodIn_of _ (by decide +kernel)) ggX3_follow_X3_choiceOf
set_option maxRecDepth 20000 in
theorem ggX3_follow_X3_no : GoodIn wsX3_follow wsX3_no := goodIn_r _ [76, 77, 83, 84, 85, 86, 87, 88, 89, 90, 91, 92, 93] (by decide +kernel) (by decide +kernel)
set_option maxRecDepth 20000 in
theorem gX3_follow_X3_no : GoodIn wsX3_follow (wsV RX3 114 RX3 yX3_no wsX3_no) := goodIn_app (goodIn_of _ (by decide +kernel)) ggX3_follow_X3_no
set_option maxRecDepth 20000 in
theorem ggX3_follow_X3_done : GoodIn wsX3_follow wsX3_done := goodIn_r _ [81, 82, 83, 84, 85, 86, 87, 88, 89, 90, 91, 92, 93] (by decide +kernel) (by decide +kernel)
set_option maxRecDepth 20000 in
theorem gX3_follow_X3_done : GoodIn wsX3_follow (wsV RX3 101 RX3 yX3_done wsX3_done) := goodIn_app (goodIn_of _ (by decide +kernel)) ggX3_follow_X3_done
theorem dX3_follow_0 : decode cX3_follow 0 = .ok (.aload_n 0, 1) := by decide +kernel
theorem dX3_follow_1 : decode cX3_follow 1 = .ok (.iload_n 1, 1) := by decide +kernel
theorem dX3_follow_2 : decode cX3_follow 2 = .ok (.ifCond .lt 8, 3) := by decide +kernel
theorem dX3_follow_5 : decode cX3_follow 5 = .ok (.iload_n 1, 1) := by decide +kernel
theorem dX3_follow_6 : decode cX3_follow 6 = .ok (.iconst 2, 1) := by decide +kernel
theorem dX3_follow_7 : decode cX3_follow 7 = .ok (.if_icmp .le 7, 3) := by decide +kernel
theorem dX3_follow_10 : decode cX3_follow 10 = .ok (.iconst 1, 1) := by decide +kernel
theorem dX3_follow_11 : decode cX3_follow 11 = .ok (.goto 4, 3) := by decide +kernel
theorem dX3_follow_14 : decode cX3_follow 14 = .ok (.iconst 0, 1) := by decide +kernel
theorem dX3_follow_15 : decode cX3_follow 15 = .ok (.invokevirtual 98, 3) := by decide +kernel
theorem dX3_follow_18 : decode cX3_follow 18 = .ok (.ifCond .eq 5, 3) := by decide +kernel
theorem dX3_follow_21 : decode cX3_follow 21 = .ok (.iconst 0, 1) := by decide +kernel
theorem dX3_follow_22 : decode cX3_follow 22 = .ok (.ireturn, 1) := by decide +kernel
theorem dX3_follow_23 : decode cX3_follow 23 = .ok (.aload_n 0, 1) := by decide +kernel
theorem dX3_follow_24 : decode cX3_follow 24 = .ok (.iload_n 1, 1) := by decide +kernel
theorem dX3_follow_25 : decode cX3_follow 25 = .ok (.aload_n 0, 1) := by decide +kernel
theorem dX3_follow_26 : decode cX3_follow 26 = .ok (.aload_n 0, 1) := by decide +kernel
theorem dX3_follow_27 : decode cX3_follow 27 = .ok (.getfield 33, 3) := by decide +kernel
theorem dX3_follow_30 : decode cX3_follow 30 = .ok (.invokevirtual 45, 3) := by decide +kernel
theorem dX3_follow_33 : decode cX3_follow 33 = .ok (.aload_n 0, 1) := by decide +kernel
theorem dX3_follow_34 : decode cX3_follow 34 = .ok (.getfield 33, 3) := by decide +kernel
theorem dX3_follow_37 : decode cX3_follow 37 = .ok (.invokevirtual 117, 3) := by decide +kernel
theorem dX3_follow_40 : decode cX3_follow 40 = .ok (.istore_n 2, 1) := by decide +kernel
theorem dX3_follow_41 : decode cX3_follow 41 = .ok (.iload_n 2, 1) := by decide +kernel
theorem dX3_follow_42 : decode cX3_follow 42 = .ok (.ifCond .ge 8, 3) := by decide +kernel
theorem dX3_follow_45 : decode cX3_follow 45 = .ok (.aload_n 0, 1) := by decide +kernel
theorem dX3_follow_46 : decode cX3_follow 46 = .ok (.invokevirtual 114, 3) := by decide +kernel
theorem dX3_follow_49 : decode cX3_follow 49 = .ok (.ireturn, 1) := by decide +kernel
theorem dX3_follow_50 : decode cX3_follow 50 = .ok (.aload_n 0, 1) := by decide +kernel
theorem dX3_follow_51 : decode cX3_follow 51 = .ok (.iload_n 2, 1) := by decide +kernel
theorem dX3_follow_52 : decode cX3_follow 52 = .ok (.putfield 33, 3) := by decide +kernel
theorem dX3_follow_55 : decode cX3_follow 55 = .ok (.aload_n 0, 1) := by decide +kernel
theorem dX3_follow_56 : decode cX3_follow 56 = .ok (.dup, 1) := by decide +kernel
theorem dX3_follow_57 : decode cX3_follow 57 = .ok (.getfield 36, 3) := by decide +kernel
theorem dX3_follow_60 : decode cX3_follow 60 = .ok (.iconst 1, 1) := by decide +kernel
theorem dX3_follow_61 : decode cX3_follow 61 = .ok (.iadd, 1) := by decide +kernel
theorem dX3_follow_62 : decode cX3_follow 62 = .ok (.putfield 36, 3) := by decide +kernel
theorem dX3_follow_65 : decode cX3_follow 65 = .ok (.aload_n 0, 1) := by decide +kernel
theorem dX3_follow_66 : decode cX3_follow 66 = .ok (.aload_n 0, 1) := by decide +kernel
theorem dX3_follow_67 : decode cX3_follow 67 = .ok (.getfield 33, 3) := by decide +kernel
theorem dX3_follow_70 : decode cX3_follow 70 = .ok (.invokevirtual 101, 3) := by decide +kernel
theorem dX3_follow_73 : decode cX3_follow 73 = .ok (.ireturn, 1) := by decide +kernel
theorem dX3_stuck_0 : decode cX3_stuck 0 = .ok (.iconst 0, 1) := by decide +kernel
theorem dX3_stuck_1 : decode cX3_stuck 1 = .ok (.istore_n 1, 1) := by decide +kernel
theorem dX3_stuck_2 : decode cX3_stuck 2 = .ok (.aload_n 0, 1) := by decide +kernel
theorem dX3_stuck_3 : decode cX3_stuck 3 = .ok (.getfield 30, 3) := by decide +kernel
theorem dX3_stuck_6 : decode cX3_stuck 6 = .ok (.astore_n 2, 1) := by decide +kernel
theorem dX3_stuck_7 : decode cX3_stuck 7 = .ok (.aload_n 2, 1) := by decide +kernel
theorem dX3_stuck_8 : decode cX3_stuck 8 = .ok (.arraylength, 1) := by decide +kernel
theorem dX3_stuck_9 : decode cX3_stuck 9 = .ok (.istore_n 3, 1) := by decide +kernel
theorem dX3_stuck_10 : decode cX3_stuck 10 = .ok (.iconst 0, 1) := by decide +kernel
theorem dX3_stuck_11 : decode cX3_stuck 11 = .ok (.istore 4, 2) := by decide +kernel
theorem dX3_stuck_13 : decode cX3_stuck 13 = .ok (.iload 4, 2) := by decide +kernel
theorem dX3_stuck_15 : decode cX3_stuck 15 = .ok (.iload_n 3, 1) := by decide +kernel
theorem dX3_stuck_16 : decode cX3_stuck 16 = .ok (.if_icmp .ge 28, 3) := by decide +kernel
theorem dX3_stuck_19 : decode cX3_stuck 19 = .ok (.aload_n 2, 1) := by decide +kernel
theorem dX3_stuck_20 : decode cX3_stuck 20 = .ok (.iload 4, 2) := by decide +kernel
theorem dX3_stuck_22 : decode cX3_stuck 22 = .ok (.iaload, 1) := by decide +kernel
theorem dX3_stuck_23 : decode cX3_stuck 23 = .ok (.istore 5, 2) := by decide +kernel
theorem dX3_stuck_25 : decode cX3_stuck 25 = .ok (.iload_n 1, 1) := by decide +kernel
theorem dX3_stuck_26 : decode cX3_stuck 26 = .ok (.iload 5, 2) := by decide +kernel
theorem dX3_stuck_28 : decode cX3_stuck 28 = .ok (.ifCond .ne 7, 3) := by decide +kernel
theorem dX3_stuck_31 : decode cX3_stuck 31 = .ok (.iconst 1, 1) := by decide +kernel
theorem dX3_stuck_32 : decode cX3_stuck 32 = .ok (.goto 4, 3) := by decide +kernel
theorem dX3_stuck_35 : decode cX3_stuck 35 = .ok (.iconst 0, 1) := by decide +kernel
theorem dX3_stuck_36 : decode cX3_stuck 36 = .ok (.iadd, 1) := by decide +kernel
theorem dX3_stuck_37 : decode cX3_stuck 37 = .ok (.istore_n 1, 1) := by decide +kernel
theorem dX3_stuck_38 : decode cX3_stuck 38 = .ok (.iinc 4 1, 3) := by decide +kernel
theorem dX3_stuck_41 : decode cX3_stuck 41 = .ok (.goto (-28), 3) := by decide +kernel
theorem dX3_stuck_44 : decode cX3_stuck 44 = .ok (.iload_n 1, 1) := by decide +kernel
theorem dX3_stuck_45 : decode cX3_stuck 45 = .ok (.ireturn, 1) := by decide +kernel
set_option maxRecDepth 20000 in
theorem ggX3_toldNow_X3_waysNow : GoodIn wsX3_toldNow wsX3_waysNow := goodIn_r _ [10, 11, 12, 13, 14, 15, 16, 17, 18, 23, 24, 25, 26, 27, 28, 29, 30, 31, 32, 33] (by decide +kernel) (by decide +kernel)
set_option maxRecDepth 20000 in
theorem gX3_toldNow_X3_waysNow : GoodIn wsX3_toldNow (wsV RX3 111 RX3 yX3_waysNow wsX3_waysNow) := goodIn_app (goodIn_of _ (by decide +kernel)) ggX3_toldNow_X3_waysNow
set_option maxRecDepth 20000 in
theorem ggX3_toldNow_X3_stuck : GoodIn wsX3_toldNow wsX3_stuck := goodIn_r _ [22, 11, 23, 24, 25, 26, 27, 28, 29, 30, 31, 32, 33] (by decide +kernel) (by decide +kernel)
set_option maxRecDepth 20000 in
theorem gX3_toldNow_X3_stuck : GoodIn wsX3_toldNow (wsV RX3 120 RX3 yX3_stuck wsX3_stuck) := goodIn_app (goodIn_of _ (by decide +kernel)) ggX3_toldNow_X3_stuck
theorem dX3_toldNow_0 : decode cX3_toldNow 0 = .ok (.iload_n 1, 1) := by decide +kernel
theorem dX3_toldNow_1 : decode cX3_toldNow 1 = .ok (.tableswitch 69 0 5 #[39, 44, 49, 54, 59, 64], 39) := by decide +kernel
theorem dX3_toldNow_40 : decode cX3_toldNow 40 = .ok (.aload_n 0, 1) := by decide +kernel
theorem dX3_toldNow_41 : decode cX3_toldNow 41 = .ok (.getfield 17, 3) := by decide +kernel
theorem dX3_toldNow_44 : decode cX3_toldNow 44 = .ok (.ireturn, 1) := by decide +kernel
theorem dX3_toldNow_45 : decode cX3_toldNow 45 = .ok (.aload_n 0, 1) := by decide +kernel
theorem dX3_toldNow_46 : decode cX3_toldNow 46 = .ok (.invokevirtual 111, 3) := by decide +kernel
theorem dX3_toldNow_49 : decode cX3_toldNow 49 = .ok (.ireturn, 1) := by decide +kernel
theorem dX3_toldNow_50 : decode cX3_toldNow 50 = .ok (.aload_n 0, 1) := by decide +kernel
theorem dX3_toldNow_51 : decode cX3_toldNow 51 = .ok (.getfield 23, 3) := by decide +kernel
theorem dX3_toldNow_54 : decode cX3_toldNow 54 = .ok (.ireturn, 1) := by decide +kernel
theorem dX3_toldNow_55 : decode cX3_toldNow 55 = .ok (.aload_n 0, 1) := by decide +kernel
theorem dX3_toldNow_56 : decode cX3_toldNow 56 = .ok (.getfield 20, 3) := by decide +kernel
theorem dX3_toldNow_59 : decode cX3_toldNow 59 = .ok (.ireturn, 1) := by decide +kernel
theorem dX3_toldNow_60 : decode cX3_toldNow 60 = .ok (.aload_n 0, 1) := by decide +kernel
theorem dX3_toldNow_61 : decode cX3_toldNow 61 = .ok (.getfield 33, 3) := by decide +kernel
theorem dX3_toldNow_64 : decode cX3_toldNow 64 = .ok (.ireturn, 1) := by decide +kernel
theorem dX3_toldNow_65 : decode cX3_toldNow 65 = .ok (.aload_n 0, 1) := by decide +kernel
theorem dX3_toldNow_66 : decode cX3_toldNow 66 = .ok (.getfield 36, 3) := by decide +kernel
theorem dX3_toldNow_69 : decode cX3_toldNow 69 = .ok (.ireturn, 1) := by decide +kernel
theorem dX3_toldNow_70 : decode cX3_toldNow 70 = .ok (.aload_n 0, 1) := by decide +kernel
theorem dX3_toldNow_71 : decode cX3_toldNow 71 = .ok (.invokevirtual 120, 3) := by decide +kernel
theorem dX3_toldNow_74 : decode cX3_toldNow 74 = .ok (.ireturn, 1) := by decide +kernel
set_option maxRecDepth 20000 in
theorem ggX3_told_X3_isThrown_ : GoodIn wsX3_told wsX3_isThrown_ := goodIn_r _ [5, 6, 7, 8, 4, 9, 10, 36, 37, 38, 39, 40, 41, 42, 43, 44, 45, 46] (by decide +kernel) (by decide +kernel)
set_option maxRecDepth 20000 in
theorem gX3_told_X3_isThrown_ : GoodIn wsX3_told (wsV RX3 98 RX3 yX3_isThrown_ wsX3_isThrown_) := goodIn_app (goodIn_of _ (by decide +kernel)) ggX3_told_X3_isThrown_
set_option maxRecDepth 20000 in
theorem ggX3_told_X3_toldNow : GoodIn wsX3_told wsX3_toldNow := goodIn_r _ [14, 15, 16, 17, 18, 19, 20, 21, 22, 4, 23, 24, 25, 26, 27, 28, 29, 30, 31, 32, 33, 34, 35, 36, 37, 38, 39, 40, 41, 42, 43, 44, 45, 46] (by decide +kernel) (by decide +kernel)
set_option maxRecDepth 20000 in
theorem gX3_told_X3_toldNow : GoodIn wsX3_told (wsV RX3 123 RX3 yX3_toldNow wsX3_toldNow) := goodIn_app (goodIn_of _ (by decide +kernel)) ggX3_told_X3_toldNow
theorem dX3_told_0 : decode cX3_told 0 = .ok (.aload_n 0, 1) := by decide +kernel
theorem dX3_told_1 : decode cX3_told 1 = .ok (.iload_n 1, 1) := by decide +kernel
theorem dX3_told_2 : decode cX3_told 2 = .ok (.ifCond .lt 9, 3) := by decide +kernel
theorem dX3_told_5 : decode cX3_told 5 = .ok (.iload_n 1, 1) := by decide +kernel
theorem dX3_told_6 : decode cX3_told 6 = .ok (.bipush 6, 2) := by decide +kernel
theorem dX3_told_8 : decode cX3_told 8 = .ok (.if_icmp .le 7, 3) := by decide +kernel
theorem dX3_told_11 : decode cX3_told 11 = .ok (.iconst 1, 1) := by decide +kernel
theorem dX3_told_12 : decode cX3_told 12 = .ok (.goto 4, 3) := by decide +kernel
theorem dX3_told_15 : decode cX3_told 15 = .ok (.iconst 0, 1) := by decide +kernel
theorem dX3_told_16 : decode cX3_told 16 = .ok (.invokevirtual 98, 3) := by decide +kernel
theorem dX3_told_19 : decode cX3_told 19 = .ok (.ifCond .eq 7, 3) := by decide +kernel
theorem dX3_told_22 : decode cX3_told 22 = .ok (.iconst 0, 1) := by decide +kernel
theorem dX3_told_23 : decode cX3_told 23 = .ok (.goto 8, 3) := by decide +kernel
theorem dX3_told_26 : decode cX3_told 26 = .ok (.aload_n 0, 1) := by decide +kernel
theorem dX3_told_27 : decode cX3_told 27 = .ok (.iload_n 1, 1) := by decide +kernel
theorem dX3_told_28 : decode cX3_told 28 = .ok (.invokevirtual 123, 3) := by decide +kernel
theorem dX3_told_31 : decode cX3_told 31 = .ok (.ireturn, 1) := by decide +kernel
set_option maxRecDepth 20000 in
theorem ggX3_ofPlaceNow_X3_sideOf : GoodIn wsX3_ofPlaceNow wsX3_sideOf := goodIn_r _ [9, 10, 14, 15, 16, 17, 18, 19, 20, 21, 22, 23, 24] (by decide +kernel) (by decide +kernel)
set_option maxRecDepth 20000 in
theorem gX3_ofPlaceNow_X3_sideOf : GoodIn wsX3_ofPlaceNow (wsV RX3 45 RX3 yX3_sideOf wsX3_sideOf) := goodIn_app (goodIn_of _ (by decide +kernel)) ggX3_ofPlaceNow_X3_sideOf
set_option maxRecDepth 20000 in
theorem ggX3_ofPlaceNow_X3_isIn : GoodIn wsX3_ofPlaceNow wsX3_isIn := goodIn_r _ [13] (by decide +kernel) (by decide +kernel)
set_option maxRecDepth 20000 in
theorem gX3_ofPlaceNow_X3_isIn : GoodIn wsX3_ofPlaceNow (va_wsS RX3 77 yX3_isIn wsX3_isIn) := goodIn_app (goodIn_of _ (by decide +kernel)) ggX3_ofPlaceNow_X3_isIn
theorem dX3_ofPlaceNow_0 : decode cX3_ofPlaceNow 0 = .ok (.iload_n 2, 1) := by decide +kernel
theorem dX3_ofPlaceNow_1 : decode cX3_ofPlaceNow 1 = .ok (.tableswitch 60 0 3 #[31, 37, 44, 53], 31) := by decide +kernel
theorem dX3_ofPlaceNow_32 : decode cX3_ofPlaceNow 32 = .ok (.aload_n 0, 1) := by decide +kernel
theorem dX3_ofPlaceNow_33 : decode cX3_ofPlaceNow 33 = .ok (.iload_n 1, 1) := by decide +kernel
theorem dX3_ofPlaceNow_34 : decode cX3_ofPlaceNow 34 = .ok (.invokevirtual 45, 3) := by decide +kernel
theorem dX3_ofPlaceNow_37 : decode cX3_ofPlaceNow 37 = .ok (.ireturn, 1) := by decide +kernel
theorem dX3_ofPlaceNow_38 : decode cX3_ofPlaceNow 38 = .ok (.aload_n 0, 1) := by decide +kernel
theorem dX3_ofPlaceNow_39 : decode cX3_ofPlaceNow 39 = .ok (.getfield 26, 3) := by decide +kernel
theorem dX3_ofPlaceNow_42 : decode cX3_ofPlaceNow 42 = .ok (.iload_n 1, 1) := by decide +kernel
theorem dX3_ofPlaceNow_43 : decode cX3_ofPlaceNow 43 = .ok (.iaload, 1) := by decide +kernel
theorem dX3_ofPlaceNow_44 : decode cX3_ofPlaceNow 44 = .ok (.ireturn, 1) := by decide +kernel
theorem dX3_ofPlaceNow_45 : decode cX3_ofPlaceNow 45 = .ok (.aload_n 0, 1) := by decide +kernel
theorem dX3_ofPlaceNow_46 : decode cX3_ofPlaceNow 46 = .ok (.getfield 23, 3) := by decide +kernel
theorem dX3_ofPlaceNow_49 : decode cX3_ofPlaceNow 49 = .ok (.iload_n 1, 1) := by decide +kernel
theorem dX3_ofPlaceNow_50 : decode cX3_ofPlaceNow 50 = .ok (.ishr, 1) := by decide +kernel
theorem dX3_ofPlaceNow_51 : decode cX3_ofPlaceNow 51 = .ok (.iconst 1, 1) := by decide +kernel
theorem dX3_ofPlaceNow_52 : decode cX3_ofPlaceNow 52 = .ok (.iand, 1) := by decide +kernel
theorem dX3_ofPlaceNow_53 : decode cX3_ofPlaceNow 53 = .ok (.ireturn, 1) := by decide +kernel
theorem dX3_ofPlaceNow_54 : decode cX3_ofPlaceNow 54 = .ok (.aload_n 0, 1) := by decide +kernel
theorem dX3_ofPlaceNow_55 : decode cX3_ofPlaceNow 55 = .ok (.getfield 30, 3) := by decide +kernel
theorem dX3_ofPlaceNow_58 : decode cX3_ofPlaceNow 58 = .ok (.iload_n 1, 1) := by decide +kernel
theorem dX3_ofPlaceNow_59 : decode cX3_ofPlaceNow 59 = .ok (.iaload, 1) := by decide +kernel
theorem dX3_ofPlaceNow_60 : decode cX3_ofPlaceNow 60 = .ok (.ireturn, 1) := by decide +kernel
theorem dX3_ofPlaceNow_61 : decode cX3_ofPlaceNow 61 = .ok (.iconst 0, 1) := by decide +kernel
theorem dX3_ofPlaceNow_62 : decode cX3_ofPlaceNow 62 = .ok (.istore_n 3, 1) := by decide +kernel
theorem dX3_ofPlaceNow_63 : decode cX3_ofPlaceNow 63 = .ok (.iconst 0, 1) := by decide +kernel
theorem dX3_ofPlaceNow_64 : decode cX3_ofPlaceNow 64 = .ok (.istore 4, 2) := by decide +kernel
theorem dX3_ofPlaceNow_66 : decode cX3_ofPlaceNow 66 = .ok (.iload 4, 2) := by decide +kernel
theorem dX3_ofPlaceNow_68 : decode cX3_ofPlaceNow 68 = .ok (.aload_n 0, 1) := by decide +kernel
theorem dX3_ofPlaceNow_69 : decode cX3_ofPlaceNow 69 = .ok (.getfield 17, 3) := by decide +kernel
theorem dX3_ofPlaceNow_72 : decode cX3_ofPlaceNow 72 = .ok (.if_icmp .ge 34, 3) := by decide +kernel
theorem dX3_ofPlaceNow_75 : decode cX3_ofPlaceNow 75 = .ok (.iload_n 3, 1) := by decide +kernel
theorem dX3_ofPlaceNow_76 : decode cX3_ofPlaceNow 76 = .ok (.aload_n 0, 1) := by decide +kernel
theorem dX3_ofPlaceNow_77 : decode cX3_ofPlaceNow 77 = .ok (.getfield 30, 3) := by decide +kernel
theorem dX3_ofPlaceNow_80 : decode cX3_ofPlaceNow 80 = .ok (.iload 4, 2) := by decide +kernel
theorem dX3_ofPlaceNow_82 : decode cX3_ofPlaceNow 82 = .ok (.iaload, 1) := by decide +kernel
theorem dX3_ofPlaceNow_83 : decode cX3_ofPlaceNow 83 = .ok (.iload_n 1, 1) := by decide +kernel
theorem dX3_ofPlaceNow_84 : decode cX3_ofPlaceNow 84 = .ok (.invokestatic 77, 3) := by decide +kernel
theorem dX3_ofPlaceNow_87 : decode cX3_ofPlaceNow 87 = .ok (.ifCond .eq 10, 3) := by decide +kernel
theorem dX3_ofPlaceNow_90 : decode cX3_ofPlaceNow 90 = .ok (.iconst 1, 1) := by decide +kernel
theorem dX3_ofPlaceNow_91 : decode cX3_ofPlaceNow 91 = .ok (.iload 4, 2) := by decide +kernel
theorem dX3_ofPlaceNow_93 : decode cX3_ofPlaceNow 93 = .ok (.ishl, 1) := by decide +kernel
theorem dX3_ofPlaceNow_94 : decode cX3_ofPlaceNow 94 = .ok (.goto 4, 3) := by decide +kernel
theorem dX3_ofPlaceNow_97 : decode cX3_ofPlaceNow 97 = .ok (.iconst 0, 1) := by decide +kernel
theorem dX3_ofPlaceNow_98 : decode cX3_ofPlaceNow 98 = .ok (.ior, 1) := by decide +kernel
theorem dX3_ofPlaceNow_99 : decode cX3_ofPlaceNow 99 = .ok (.istore_n 3, 1) := by decide +kernel
theorem dX3_ofPlaceNow_100 : decode cX3_ofPlaceNow 100 = .ok (.iinc 4 1, 3) := by decide +kernel
theorem dX3_ofPlaceNow_103 : decode cX3_ofPlaceNow 103 = .ok (.goto (-37), 3) := by decide +kernel
theorem dX3_ofPlaceNow_106 : decode cX3_ofPlaceNow 106 = .ok (.iload_n 3, 1) := by decide +kernel
theorem dX3_ofPlaceNow_107 : decode cX3_ofPlaceNow 107 = .ok (.ireturn, 1) := by decide +kernel
set_option maxRecDepth 20000 in
theorem ggX3_ofPlace_X3_isPlace : GoodIn wsX3_ofPlace wsX3_isPlace := goodIn_r _ [5, 6, 27, 28, 29, 30, 31, 32, 33, 34, 35, 36, 37] (by decide +kernel) (by decide +kernel)
set_option maxRecDepth 20000 in
theorem gX3_ofPlace_X3_isPlace : GoodIn wsX3_ofPlace (wsV RX3 104 RX3 yX3_isPlace wsX3_isPlace) := goodIn_app (goodIn_of _ (by decide +kernel)) ggX3_ofPlace_X3_isPlace
set_option maxRecDepth 20000 in
theorem ggX3_ofPlace_X3_isThrown : GoodIn wsX3_ofPlace wsX3_isThrown := goodIn_r _ [10, 11, 27, 28, 29, 30, 31, 32, 33, 34, 35, 36, 37] (by decide +kernel) (by decide +kernel)
set_option maxRecDepth 20000 in
theorem gX3_ofPlace_X3_isThrown : GoodIn wsX3_ofPlace (wsV RX3 88 RX3 yX3_isThrown wsX3_isThrown) := goodIn_app (goodIn_of _ (by decide +kernel)) ggX3_ofPlace_X3_isThrown
set_option maxRecDepth 20000 in
theorem ggX3_ofPlace_X3_ofPlaceNow : GoodIn wsX3_ofPlace wsX3_ofPlaceNow := goodIn_r _ [15, 16, 17, 18, 6, 19, 20, 21, 4, 22, 23, 24, 25, 26, 27, 28, 29, 30, 31, 32, 33, 34, 35, 36, 37] (by decide +kernel) (by decide +kernel)
set_option maxRecDepth 20000 in
theorem gX3_ofPlace_X3_ofPlaceNow : GoodIn wsX3_ofPlace (wsV RX3 126 RX3 yX3_ofPlaceNow wsX3_ofPlaceNow) := goodIn_app (goodIn_of _ (by decide +kernel)) ggX3_ofPlace_X3_ofPlaceNow
theorem dX3_ofPlace_0 : decode cX3_ofPlace 0 = .ok (.aload_n 0, 1) := by decide +kernel
theorem dX3_ofPlace_1 : decode cX3_ofPlace 1 = .ok (.aload_n 0, 1) := by decide +kernel
theorem dX3_ofPlace_2 : decode cX3_ofPlace 2 = .ok (.iload_n 1, 1) := by decide +kernel
theorem dX3_ofPlace_3 : decode cX3_ofPlace 3 = .ok (.invokevirtual 104, 3) := by decide +kernel
theorem dX3_ofPlace_6 : decode cX3_ofPlace 6 = .ok (.ifCond .ne 7, 3) := by decide +kernel
theorem dX3_ofPlace_9 : decode cX3_ofPlace 9 = .ok (.iconst 1, 1) := by decide +kernel
theorem dX3_ofPlace_10 : decode cX3_ofPlace 10 = .ok (.goto 4, 3) := by decide +kernel
theorem dX3_ofPlace_13 : decode cX3_ofPlace 13 = .ok (.iconst 0, 1) := by decide +kernel
theorem dX3_ofPlace_14 : decode cX3_ofPlace 14 = .ok (.iload_n 2, 1) := by decide +kernel
theorem dX3_ofPlace_15 : decode cX3_ofPlace 15 = .ok (.ifCond .lt 8, 3) := by decide +kernel
theorem dX3_ofPlace_18 : decode cX3_ofPlace 18 = .ok (.iload_n 2, 1) := by decide +kernel
theorem dX3_ofPlace_19 : decode cX3_ofPlace 19 = .ok (.iconst 4, 1) := by decide +kernel
theorem dX3_ofPlace_20 : decode cX3_ofPlace 20 = .ok (.if_icmp .le 7, 3) := by decide +kernel
theorem dX3_ofPlace_23 : decode cX3_ofPlace 23 = .ok (.iconst 1, 1) := by decide +kernel
theorem dX3_ofPlace_24 : decode cX3_ofPlace 24 = .ok (.goto 4, 3) := by decide +kernel
theorem dX3_ofPlace_27 : decode cX3_ofPlace 27 = .ok (.iconst 0, 1) := by decide +kernel
theorem dX3_ofPlace_28 : decode cX3_ofPlace 28 = .ok (.invokevirtual 88, 3) := by decide +kernel
theorem dX3_ofPlace_31 : decode cX3_ofPlace 31 = .ok (.ifCond .eq 7, 3) := by decide +kernel
theorem dX3_ofPlace_34 : decode cX3_ofPlace 34 = .ok (.iconst 0, 1) := by decide +kernel
theorem dX3_ofPlace_35 : decode cX3_ofPlace 35 = .ok (.goto 9, 3) := by decide +kernel
theorem dX3_ofPlace_38 : decode cX3_ofPlace 38 = .ok (.aload_n 0, 1) := by decide +kernel
theorem dX3_ofPlace_39 : decode cX3_ofPlace 39 = .ok (.iload_n 1, 1) := by decide +kernel
theorem dX3_ofPlace_40 : decode cX3_ofPlace 40 = .ok (.iload_n 2, 1) := by decide +kernel
theorem dX3_ofPlace_41 : decode cX3_ofPlace 41 = .ok (.invokevirtual 126, 3) := by decide +kernel
theorem dX3_ofPlace_44 : decode cX3_ofPlace 44 = .ok (.ireturn, 1) := by decide +kernel
set_option maxRecDepth 20000 in
theorem ggX3_isWay_X3_isPlace : GoodIn wsX3_isWay wsX3_isPlace := goodIn_r _ [6, 7, 20, 21, 22, 23, 24, 25, 26, 27, 28, 29, 30] (by decide +kernel) (by decide +kernel)
set_option maxRecDepth 20000 in
theorem gX3_isWay_X3_isPlace : GoodIn wsX3_isWay (wsV RX3 104 RX3 yX3_isPlace wsX3_isPlace) := goodIn_app (goodIn_of _ (by decide +kernel)) ggX3_isWay_X3_isPlace
set_option maxRecDepth 20000 in
theorem ggX3_isWay_X3_isThrown_ : GoodIn wsX3_isWay wsX3_isThrown_ := goodIn_r _ [11, 12, 13, 14, 5, 15, 16, 20, 21, 22, 23, 24, 25, 26, 27, 28, 29, 30] (by decide +kernel) (by decide +kernel)
set_option maxRecDepth 20000 in
theorem gX3_isWay_X3_isThrown_ : GoodIn wsX3_isWay (wsV RX3 98 RX3 yX3_isThrown_ wsX3_isThrown_) := goodIn_app (goodIn_of _ (by decide +kernel)) ggX3_isWay_X3_isThrown_
set_option maxRecDepth 20000 in
theorem ggX3_isWay_X3_isIn : GoodIn wsX3_isWay wsX3_isIn := goodIn_r _ [19] (by decide +kernel) (by decide +kernel)
set_option maxRecDepth 20000 in
theorem gX3_isWay_X3_isIn : GoodIn wsX3_isWay (va_wsS RX3 77 yX3_isIn wsX3_isIn) := goodIn_app (goodIn_of _ (by decide +kernel)) ggX3_isWay_X3_isIn
theorem dX3_isWay_0 : decode cX3_isWay 0 = .ok (.aload_n 0, 1) := by decide +kernel
theorem dX3_isWay_1 : decode cX3_isWay 1 = .ok (.aload_n 0, 1) := by decide +kernel
theorem dX3_isWay_2 : decode cX3_isWay 2 = .ok (.iload_n 1, 1) := by decide +kernel
theorem dX3_isWay_3 : decode cX3_isWay 3 = .ok (.invokevirtual 104, 3) := by decide +kernel
theorem dX3_isWay_6 : decode cX3_isWay 6 = .ok (.ifCond .eq 11, 3) := by decide +kernel
theorem dX3_isWay_9 : decode cX3_isWay 9 = .ok (.aload_n 0, 1) := by decide +kernel
theorem dX3_isWay_10 : decode cX3_isWay 10 = .ok (.iload_n 2, 1) := by decide +kernel
theorem dX3_isWay_11 : decode cX3_isWay 11 = .ok (.invokevirtual 104, 3) := by decide +kernel
theorem dX3_isWay_14 : decode cX3_isWay 14 = .ok (.ifCond .ne 7, 3) := by decide +kernel
theorem dX3_isWay_17 : decode cX3_isWay 17 = .ok (.iconst 1, 1) := by decide +kernel
theorem dX3_isWay_18 : decode cX3_isWay 18 = .ok (.goto 4, 3) := by decide +kernel
theorem dX3_isWay_21 : decode cX3_isWay 21 = .ok (.iconst 0, 1) := by decide +kernel
theorem dX3_isWay_22 : decode cX3_isWay 22 = .ok (.invokevirtual 98, 3) := by decide +kernel
theorem dX3_isWay_25 : decode cX3_isWay 25 = .ok (.ifCond .ne 20, 3) := by decide +kernel
theorem dX3_isWay_28 : decode cX3_isWay 28 = .ok (.aload_n 0, 1) := by decide +kernel
theorem dX3_isWay_29 : decode cX3_isWay 29 = .ok (.getfield 30, 3) := by decide +kernel
theorem dX3_isWay_32 : decode cX3_isWay 32 = .ok (.iload_n 1, 1) := by decide +kernel
theorem dX3_isWay_33 : decode cX3_isWay 33 = .ok (.iaload, 1) := by decide +kernel
theorem dX3_isWay_34 : decode cX3_isWay 34 = .ok (.iload_n 2, 1) := by decide +kernel
theorem dX3_isWay_35 : decode cX3_isWay 35 = .ok (.invokestatic 77, 3) := by decide +kernel
theorem dX3_isWay_38 : decode cX3_isWay 38 = .ok (.ifCond .eq 7, 3) := by decide +kernel
theorem dX3_isWay_41 : decode cX3_isWay 41 = .ok (.iconst 1, 1) := by decide +kernel
theorem dX3_isWay_42 : decode cX3_isWay 42 = .ok (.goto 4, 3) := by decide +kernel
theorem dX3_isWay_45 : decode cX3_isWay 45 = .ok (.iconst 0, 1) := by decide +kernel
theorem dX3_isWay_46 : decode cX3_isWay 46 = .ok (.ireturn, 1) := by decide +kernel
set_option maxRecDepth 20000 in
theorem ggX3_ways_X3_isPlace : GoodIn wsX3_ways wsX3_isPlace := goodIn_r _ [10, 4, 261, 262, 263, 264, 265, 266, 267, 268, 269, 270, 271] (by decide +kernel) (by decide +kernel)
set_option maxRecDepth 20000 in
theorem gX3_ways_X3_isPlace : GoodIn wsX3_ways (wsV RX3 104 RX3 yX3_isPlace wsX3_isPlace) := goodIn_app (goodIn_of _ (by decide +kernel)) ggX3_ways_X3_isPlace
set_option maxRecDepth 20000 in
theorem ggX3_ways_X3_isThrown_ : GoodIn wsX3_ways wsX3_isThrown_ := goodIn_r _ [14, 15, 16, 17, 9, 18, 19, 261, 262, 263, 264, 265, 266, 267, 268, 269, 270, 271] (by decide +kernel) (by decide +kernel)
set_option maxRecDepth 20000 in
theorem gX3_ways_X3_isThrown_ : GoodIn wsX3_ways (wsV RX3 98 RX3 yX3_isThrown_ wsX3_isThrown_) := goodIn_app (goodIn_of _ (by decide +kernel)) ggX3_ways_X3_isThrown_
set_option maxRecDepth 20000 in
theorem ggX3_ways_J4_init_da8c8 : GoodIn wsX3_ways wsJ4_init_da8c8 := goodIn_r _ [22, 23, 24, 25, 26, 27, 28, 29, 30, 31, 32, 33, 34, 35, 36, 37, 38, 39, 40, 41, 257, 258, 259, 260] (by decide +kernel) (by decide +kernel)
set_option maxRecDepth 20000 in
theorem gX3_ways_J4_init_da8c8 : GoodIn wsX3_ways (wsJ4_init_da8c8) := ggX3_ways_J4_init_da8c8
set_option maxRecDepth 20000 in
theorem ggX3_ways_X3_isIn : GoodIn wsX3_ways wsX3_isIn := goodIn_r _ [44] (by decide +kernel) (by decide +kernel)
set_option maxRecDepth 20000 in
theorem gX3_ways_X3_isIn : GoodIn wsX3_ways (va_wsS RX3 77 yX3_isIn wsX3_isIn) := goodIn_app (goodIn_of _ (by decide +kernel)) ggX3_ways_X3_isIn
set_option maxRecDepth 20000 in
theorem ggX3_ways_J4_length_8abf5 : GoodIn wsX3_ways wsJ4_length_8abf5 := goodIn_r _ [48, 49, 50, 51, 52, 25, 53, 54, 257, 258, 259, 260] (by decide +kernel) (by decide +kernel)
set_option maxRecDepth 20000 in
theorem gX3_ways_J4_length_8abf5 : GoodIn wsX3_ways (wsV RX3 134 RJ4 yJ4_length_8abf5 wsJ4_length_8abf5) := goodIn_app (goodIn_of _ (by decide +kernel)) ggX3_ways_J4_length_8abf5
set_option maxRecDepth 20000 in
theorem ggX3_ways_J4_append_15ec4 : GoodIn wsX3_ways wsJ4_append_15ec4 := goodIn_r _ [58, 59, 60, 51, 61, 25, 62, 54, 63, 64, 65, 66, 67, 32, 68, 69, 70, 71, 72, 33, 73, 74, 75, 76, 77, 78, 79, 80, 81, 82, 83, 84, 85, 86, 87, 88, 89, 90, 91, 92, 93, 94, 95, 96, 97, 98, 99, 100, 31, 101, 102, 103, 104, 105, 106, 107, 108, 109, 110, 111, 112, 30, 113, 114, 36, 115, 116, 117, 118, 119, 120, 121, 122, 123, 124, 125, 126, 127, 128, 129, 130, 131, 132, 133, 134, 135, 136, 137, 138, 139, 140, 141, 142, 143, 144, 145, 146, 147, 148, 149, 150, 151, 152, 153, 154, 155, 156, 157, 158, 159, 160, 161, 162, 163, 34, 35, 37, 38, 39, 40, 41, 164, 165, 166, 167, 168, 169, 170, 171, 172, 173, 174, 175, 176, 177, 178, 179, 180, 181, 182, 183, 184, 185, 257, 258, 259, 260, 272, 273, 274, 275] (by decide +kernel) (by decide +kernel)
set_option maxRecDepth 20000 in
theorem gX3_ways_J4_append_15ec4 : GoodIn wsX3_ways (wsV RX3 139 RJ4 yJ4_append_15ec4 wsJ4_append_15ec4) := goodIn_app (goodIn_of _ (by decide +kernel)) ggX3_ways_J4_append_15ec4
set_option maxRecDepth 20000 in
theorem ggX3_ways_J4_append_bf812 : GoodIn wsX3_ways wsJ4_append_bf812 := goodIn_r _ [189, 190, 191, 51, 192, 25, 193, 54, 32, 194, 195, 196, 197, 68, 69, 70, 71, 72, 33, 73, 74, 75, 76, 77, 78, 79, 80, 81, 82, 83, 84, 85, 86, 87, 88, 89, 90, 91, 92, 93, 94, 95, 96, 97, 98, 99, 100, 31, 101, 102, 103, 104, 105, 106, 107, 108, 109, 110, 111, 112, 30, 198, 199, 200, 201, 202, 203, 204, 36, 205, 116, 117, 118, 119, 120, 121, 122, 123, 124, 125, 126, 127, 128, 129, 130, 131, 206, 207, 208, 209, 210, 132, 133, 134, 135, 136, 257, 258, 259, 260] (by decide +kernel) (by decide +kernel)
set_option maxRecDepth 20000 in
theorem gX3_ways_J4_append_bf812 : GoodIn wsX3_ways (wsV RX3 143 RJ4 yJ4_append_bf812 wsJ4_append_bf812) := goodIn_app (goodIn_of _ (by decide +kernel)) ggX3_ways_J4_append_bf812
set_option maxRecDepth 20000 in
theorem ggX3_ways_J4_toString_0e30d : GoodIn wsX3_ways wsJ4_toString_0e30d := goodIn_r _ [214, 215, 216, 125, 217, 218, 219, 220, 221, 222, 223, 28, 29, 147, 141, 146, 224, 225, 226, 227, 228, 25, 229, 32, 230, 50, 231, 232, 46, 3, 48, 49, 51, 52, 53, 54, 233, 109, 110, 111, 112, 30, 33, 234, 235, 93, 236, 95, 96, 97, 98, 99, 100, 237, 238, 239, 31, 101, 102, 85, 103, 104, 105, 106, 107, 240, 241, 242, 243, 2, 244, 245, 36, 246, 247, 248, 249, 171, 172, 173, 120, 121, 122, 174, 175, 176, 127, 177, 178, 130, 179, 250, 251, 252, 116, 135, 136, 38, 39, 40, 41, 253, 254, 255, 256, 272, 273, 274, 275, 257, 258, 259, 260] (by decide +kernel) (by decide +kernel)
set_option maxRecDepth 20000 in
theorem gX3_ways_J4_toString_0e30d : GoodIn wsX3_ways (wsV RX3 146 RJ4 yJ4_toString_0e30d wsJ4_toString_0e30d) := goodIn_app (goodIn_of _ (by decide +kernel)) ggX3_ways_J4_toString_0e30d
theorem dX3_ways_0 : decode cX3_ways 0 = .ok (.aload_n 0, 1) := by decide +kernel
theorem dX3_ways_1 : decode cX3_ways 1 = .ok (.aload_n 0, 1) := by decide +kernel
theorem dX3_ways_2 : decode cX3_ways 2 = .ok (.iload_n 1, 1) := by decide +kernel
theorem dX3_ways_3 : decode cX3_ways 3 = .ok (.invokevirtual 104, 3) := by decide +kernel
theorem dX3_ways_6 : decode cX3_ways 6 = .ok (.ifCond .ne 7, 3) := by decide +kernel
theorem dX3_ways_9 : decode cX3_ways 9 = .ok (.iconst 1, 1) := by decide +kernel
theorem dX3_ways_10 : decode cX3_ways 10 = .ok (.goto 4, 3) := by decide +kernel
theorem dX3_ways_13 : decode cX3_ways 13 = .ok (.iconst 0, 1) := by decide +kernel
theorem dX3_ways_14 : decode cX3_ways 14 = .ok (.invokevirtual 98, 3) := by decide +kernel
theorem dX3_ways_17 : decode cX3_ways 17 = .ok (.ifCond .eq 6, 3) := by decide +kernel
theorem dX3_ways_20 : decode cX3_ways 20 = .ok (.ldc 129, 2) := by decide +kernel
theorem dX3_ways_22 : decode cX3_ways 22 = .ok (.areturn, 1) := by decide +kernel
theorem dX3_ways_23 : decode cX3_ways 23 = .ok (.new 131, 3) := by decide +kernel
theorem dX3_ways_26 : decode cX3_ways 26 = .ok (.dup, 1) := by decide +kernel
theorem dX3_ways_27 : decode cX3_ways 27 = .ok (.invokespecial 133, 3) := by decide +kernel
theorem dX3_ways_30 : decode cX3_ways 30 = .ok (.astore_n 2, 1) := by decide +kernel
theorem dX3_ways_31 : decode cX3_ways 31 = .ok (.iconst 0, 1) := by decide +kernel
theorem dX3_ways_32 : decode cX3_ways 32 = .ok (.istore_n 3, 1) := by decide +kernel
theorem dX3_ways_33 : decode cX3_ways 33 = .ok (.iload_n 3, 1) := by decide +kernel
theorem dX3_ways_34 : decode cX3_ways 34 = .ok (.aload_n 0, 1) := by decide +kernel
theorem dX3_ways_35 : decode cX3_ways 35 = .ok (.getfield 17, 3) := by decide +kernel
theorem dX3_ways_38 : decode cX3_ways 38 = .ok (.if_icmp .ge 45, 3) := by decide +kernel
theorem dX3_ways_41 : decode cX3_ways 41 = .ok (.aload_n 0, 1) := by decide +kernel
theorem dX3_ways_42 : decode cX3_ways 42 = .ok (.getfield 30, 3) := by decide +kernel
theorem dX3_ways_45 : decode cX3_ways 45 = .ok (.iload_n 1, 1) := by decide +kernel
theorem dX3_ways_46 : decode cX3_ways 46 = .ok (.iaload, 1) := by decide +kernel
theorem dX3_ways_47 : decode cX3_ways 47 = .ok (.iload_n 3, 1) := by decide +kernel
theorem dX3_ways_48 : decode cX3_ways 48 = .ok (.invokestatic 77, 3) := by decide +kernel
theorem dX3_ways_51 : decode cX3_ways 51 = .ok (.ifCond .eq 26, 3) := by decide +kernel
theorem dX3_ways_54 : decode cX3_ways 54 = .ok (.aload_n 2, 1) := by decide +kernel
theorem dX3_ways_55 : decode cX3_ways 55 = .ok (.aload_n 2, 1) := by decide +kernel
theorem dX3_ways_56 : decode cX3_ways 56 = .ok (.invokevirtual 134, 3) := by decide +kernel
theorem dX3_ways_59 : decode cX3_ways 59 = .ok (.ifCond .ne 8, 3) := by decide +kernel
theorem dX3_ways_62 : decode cX3_ways 62 = .ok (.ldc 129, 2) := by decide +kernel
theorem dX3_ways_64 : decode cX3_ways 64 = .ok (.goto 5, 3) := by decide +kernel
theorem dX3_ways_67 : decode cX3_ways 67 = .ok (.ldc 137, 2) := by decide +kernel
theorem dX3_ways_69 : decode cX3_ways 69 = .ok (.invokevirtual 139, 3) := by decide +kernel
theorem dX3_ways_72 : decode cX3_ways 72 = .ok (.iload_n 3, 1) := by decide +kernel
theorem dX3_ways_73 : decode cX3_ways 73 = .ok (.invokevirtual 143, 3) := by decide +kernel
theorem dX3_ways_76 : decode cX3_ways 76 = .ok (.pop, 1) := by decide +kernel
theorem dX3_ways_77 : decode cX3_ways 77 = .ok (.iinc 3 1, 3) := by decide +kernel
theorem dX3_ways_80 : decode cX3_ways 80 = .ok (.goto (-47), 3) := by decide +kernel
theorem dX3_ways_83 : decode cX3_ways 83 = .ok (.aload_n 2, 1) := by decide +kernel
theorem dX3_ways_84 : decode cX3_ways 84 = .ok (.invokevirtual 146, 3) := by decide +kernel
theorem dX3_ways_87 : decode cX3_ways 87 = .ok (.areturn, 1) := by decide +kernel
set_option maxRecDepth 20000 in
theorem ggX3_ahead_X3_all : GoodIn wsX3_ahead wsX3_all := goodIn_r _ [5, 6, 29, 30, 31, 32, 33, 34, 35, 36, 37, 38, 39] (by decide +kernel) (by decide +kernel)
set_option maxRecDepth 20000 in
theorem gX3_ahead_X3_all : GoodIn wsX3_ahead (wsV RX3 55 RX3 yX3_all wsX3_all) := goodIn_app (goodIn_of _ (by decide +kernel)) ggX3_ahead_X3_all
set_option maxRecDepth 20000 in
theorem ggX3_ahead_X3_isSide : GoodIn wsX3_ahead wsX3_isSide := goodIn_r _ [9] (by decide +kernel) (by decide +kernel)
set_option maxRecDepth 20000 in
theorem gX3_ahead_X3_isSide : GoodIn wsX3_ahead (va_wsS RX3 108 yX3_isSide wsX3_isSide) := goodIn_app (goodIn_of _ (by decide +kernel)) ggX3_ahead_X3_isSide
set_option maxRecDepth 20000 in
theorem ggX3_ahead_X3_isThrown_ : GoodIn wsX3_ahead wsX3_isThrown_ := goodIn_r _ [13, 14, 15, 16, 4, 17, 18, 29, 30, 31, 32, 33, 34, 35, 36, 37, 38, 39] (by decide +kernel) (by decide +kernel)
set_option maxRecDepth 20000 in
theorem gX3_ahead_X3_isThrown_ : GoodIn wsX3_ahead (wsV RX3 98 RX3 yX3_isThrown_ wsX3_isThrown_) := goodIn_app (goodIn_of _ (by decide +kernel)) ggX3_ahead_X3_isThrown_
set_option maxRecDepth 20000 in
theorem ggX3_ahead_X3_aheadOf : GoodIn wsX3_ahead wsX3_aheadOf := goodIn_r _ [22, 6, 23, 24, 25, 26, 4, 27, 28, 29, 30, 31, 32, 33, 34, 35, 36, 37, 38, 39] (by decide +kernel) (by decide +kernel)
set_option maxRecDepth 20000 in
theorem gX3_ahead_X3_aheadOf : GoodIn wsX3_ahead (wsV RX3 48 RX3 yX3_aheadOf wsX3_aheadOf) := goodIn_app (goodIn_of _ (by decide +kernel)) ggX3_ahead_X3_aheadOf
theorem dX3_ahead_0 : decode cX3_ahead 0 = .ok (.aload_n 0, 1) := by decide +kernel
theorem dX3_ahead_1 : decode cX3_ahead 1 = .ok (.iload_n 1, 1) := by decide +kernel
theorem dX3_ahead_2 : decode cX3_ahead 2 = .ok (.ifCond .lt 18, 3) := by decide +kernel
theorem dX3_ahead_5 : decode cX3_ahead 5 = .ok (.iload_n 1, 1) := by decide +kernel
theorem dX3_ahead_6 : decode cX3_ahead 6 = .ok (.aload_n 0, 1) := by decide +kernel
theorem dX3_ahead_7 : decode cX3_ahead 7 = .ok (.invokevirtual 55, 3) := by decide +kernel
theorem dX3_ahead_10 : decode cX3_ahead 10 = .ok (.if_icmp .gt 10, 3) := by decide +kernel
theorem dX3_ahead_13 : decode cX3_ahead 13 = .ok (.iload_n 2, 1) := by decide +kernel
theorem dX3_ahead_14 : decode cX3_ahead 14 = .ok (.invokestatic 108, 3) := by decide +kernel
theorem dX3_ahead_17 : decode cX3_ahead 17 = .ok (.ifCond .ne 7, 3) := by decide +kernel
theorem dX3_ahead_20 : decode cX3_ahead 20 = .ok (.iconst 1, 1) := by decide +kernel
theorem dX3_ahead_21 : decode cX3_ahead 21 = .ok (.goto 4, 3) := by decide +kernel
theorem dX3_ahead_24 : decode cX3_ahead 24 = .ok (.iconst 0, 1) := by decide +kernel
theorem dX3_ahead_25 : decode cX3_ahead 25 = .ok (.invokevirtual 98, 3) := by decide +kernel
theorem dX3_ahead_28 : decode cX3_ahead 28 = .ok (.ifCond .eq 7, 3) := by decide +kernel
theorem dX3_ahead_31 : decode cX3_ahead 31 = .ok (.iconst 0, 1) := by decide +kernel
theorem dX3_ahead_32 : decode cX3_ahead 32 = .ok (.goto 9, 3) := by decide +kernel
theorem dX3_ahead_35 : decode cX3_ahead 35 = .ok (.aload_n 0, 1) := by decide +kernel
theorem dX3_ahead_36 : decode cX3_ahead 36 = .ok (.iload_n 1, 1) := by decide +kernel
theorem dX3_ahead_37 : decode cX3_ahead 37 = .ok (.iload_n 2, 1) := by decide +kernel
theorem dX3_ahead_38 : decode cX3_ahead 38 = .ok (.invokevirtual 48, 3) := by decide +kernel
theorem dX3_ahead_41 : decode cX3_ahead 41 = .ok (.ireturn, 1) := by decide +kernel
set_option maxRecDepth 20000 in
theorem ggX3_coming_X3_isSide : GoodIn wsX3_coming wsX3_isSide := goodIn_r _ [4] (by decide +kernel) (by decide +kernel)
set_option maxRecDepth 20000 in
theorem gX3_coming_X3_isSide : GoodIn wsX3_coming (va_wsS RX3 108 yX3_isSide wsX3_isSide) := goodIn_app (goodIn_of _ (by decide +kernel)) ggX3_coming_X3_isSide
set_option maxRecDepth 20000 in
theorem ggX3_coming_X3_isThrown_ : GoodIn wsX3_coming wsX3_isThrown_ := goodIn_r _ [8, 9, 10, 11, 3, 12, 13, 34, 35, 36, 37, 38, 39, 40, 41, 42, 43, 44] (by decide +kernel) (by decide +kernel)
set_option maxRecDepth 20000 in
theorem gX3_coming_X3_isThrown_ : GoodIn wsX3_coming (wsV RX3 98 RX3 yX3_isThrown_ wsX3_isThrown_) := goodIn_app (goodIn_of _ (by decide +kernel)) ggX3_coming_X3_isThrown_
set_option maxRecDepth 20000 in
theorem ggX3_coming_X3_comingOf : GoodIn wsX3_coming wsX3_comingOf := goodIn_r _ [17, 18, 19, 20, 21, 3, 22, 23, 24, 25, 26, 27, 28, 29, 30, 31, 32, 33, 34, 35, 36, 37, 38, 39, 40, 41, 42, 43, 44] (by decide +kernel) (by decide +kernel)
set_option maxRecDepth 20000 in
theorem gX3_coming_X3_comingOf : GoodIn wsX3_coming (wsV RX3 59 RX3 yX3_comingOf wsX3_comingOf) := goodIn_app (goodIn_of _ (by decide +kernel)) ggX3_coming_X3_comingOf
theorem dX3_coming_0 : decode cX3_coming 0 = .ok (.aload_n 0, 1) := by decide +kernel
theorem dX3_coming_1 : decode cX3_coming 1 = .ok (.iload_n 1, 1) := by decide +kernel
theorem dX3_coming_2 : decode cX3_coming 2 = .ok (.invokestatic 108, 3) := by decide +kernel
theorem dX3_coming_5 : decode cX3_coming 5 = .ok (.ifCond .ne 7, 3) := by decide +kernel
theorem dX3_coming_8 : decode cX3_coming 8 = .ok (.iconst 1, 1) := by decide +kernel
theorem dX3_coming_9 : decode cX3_coming 9 = .ok (.goto 4, 3) := by decide +kernel
theorem dX3_coming_12 : decode cX3_coming 12 = .ok (.iconst 0, 1) := by decide +kernel
theorem dX3_coming_13 : decode cX3_coming 13 = .ok (.invokevirtual 98, 3) := by decide +kernel
theorem dX3_coming_16 : decode cX3_coming 16 = .ok (.ifCond .eq 7, 3) := by decide +kernel
theorem dX3_coming_19 : decode cX3_coming 19 = .ok (.iconst 0, 1) := by decide +kernel
theorem dX3_coming_20 : decode cX3_coming 20 = .ok (.goto 8, 3) := by decide +kernel
theorem dX3_coming_23 : decode cX3_coming 23 = .ok (.aload_n 0, 1) := by decide +kernel
theorem dX3_coming_24 : decode cX3_coming 24 = .ok (.iload_n 1, 1) := by decide +kernel
theorem dX3_coming_25 : decode cX3_coming 25 = .ok (.invokevirtual 59, 3) := by decide +kernel
theorem dX3_coming_28 : decode cX3_coming 28 = .ok (.ireturn, 1) := by decide +kernel
set_option maxRecDepth 20000 in
theorem ggX3_keeping_X3_isSide : GoodIn wsX3_keeping wsX3_isSide := goodIn_r _ [4] (by decide +kernel) (by decide +kernel)
set_option maxRecDepth 20000 in
theorem gX3_keeping_X3_isSide : GoodIn wsX3_keeping (va_wsS RX3 108 yX3_isSide wsX3_isSide) := goodIn_app (goodIn_of _ (by decide +kernel)) ggX3_keeping_X3_isSide
set_option maxRecDepth 20000 in
theorem ggX3_keeping_X3_isThrown_ : GoodIn wsX3_keeping wsX3_isThrown_ := goodIn_r _ [8, 9, 10, 11, 3, 12, 13, 42, 43, 44, 45, 46, 47, 48, 49, 50, 51, 52] (by decide +kernel) (by decide +kernel)
set_option maxRecDepth 20000 in
theorem gX3_keeping_X3_isThrown_ : GoodIn wsX3_keeping (wsV RX3 98 RX3 yX3_isThrown_ wsX3_isThrown_) := goodIn_app (goodIn_of _ (by decide +kernel)) ggX3_keeping_X3_isThrown_
set_option maxRecDepth 20000 in
theorem ggX3_keeping_X3_keepingOf : GoodIn wsX3_keeping wsX3_keepingOf := goodIn_r _ [17, 18, 19, 20, 3, 21, 22, 23, 24, 25, 26, 27, 28, 29, 30, 31, 32, 33, 34, 35, 36, 37, 38, 39, 40, 41, 42, 43, 44, 45, 46, 47, 48, 49, 50, 51, 52] (by decide +kernel) (by decide +kernel)
set_option maxRecDepth 20000 in
theorem gX3_keeping_X3_keepingOf : GoodIn wsX3_keeping (wsV RX3 68 RX3 yX3_keepingOf wsX3_keepingOf) := goodIn_app (goodIn_of _ (by decide +kernel)) ggX3_keeping_X3_keepingOf
theorem dX3_keeping_0 : decode cX3_keeping 0 = .ok (.aload_n 0, 1) := by decide +kernel
theorem dX3_keeping_1 : decode cX3_keeping 1 = .ok (.iload_n 1, 1) := by decide +kernel
theorem dX3_keeping_2 : decode cX3_keeping 2 = .ok (.invokestatic 108, 3) := by decide +kernel
theorem dX3_keeping_5 : decode cX3_keeping 5 = .ok (.ifCond .ne 7, 3) := by decide +kernel
theorem dX3_keeping_8 : decode cX3_keeping 8 = .ok (.iconst 1, 1) := by decide +kernel
theorem dX3_keeping_9 : decode cX3_keeping 9 = .ok (.goto 4, 3) := by decide +kernel
theorem dX3_keeping_12 : decode cX3_keeping 12 = .ok (.iconst 0, 1) := by decide +kernel
theorem dX3_keeping_13 : decode cX3_keeping 13 = .ok (.invokevirtual 98, 3) := by decide +kernel
theorem dX3_keeping_16 : decode cX3_keeping 16 = .ok (.ifCond .eq 7, 3) := by decide +kernel
theorem dX3_keeping_19 : decode cX3_keeping 19 = .ok (.iconst 0, 1) := by decide +kernel
theorem dX3_keeping_20 : decode cX3_keeping 20 = .ok (.goto 8, 3) := by decide +kernel
theorem dX3_keeping_23 : decode cX3_keeping 23 = .ok (.aload_n 0, 1) := by decide +kernel
theorem dX3_keeping_24 : decode cX3_keeping 24 = .ok (.iload_n 1, 1) := by decide +kernel
theorem dX3_keeping_25 : decode cX3_keeping 25 = .ok (.invokevirtual 68, 3) := by decide +kernel
theorem dX3_keeping_28 : decode cX3_keeping 28 = .ok (.ireturn, 1) := by decide +kernel
set_option maxRecDepth 20000 in
theorem ggX3_again_X3_isSide : GoodIn wsX3_again wsX3_isSide := goodIn_r _ [4] (by decide +kernel) (by decide +kernel)
set_option maxRecDepth 20000 in
theorem gX3_again_X3_isSide : GoodIn wsX3_again (va_wsS RX3 108 yX3_isSide wsX3_isSide) := goodIn_app (goodIn_of _ (by decide +kernel)) ggX3_again_X3_isSide
set_option maxRecDepth 20000 in
theorem ggX3_again_X3_isThrown_ : GoodIn wsX3_again wsX3_isThrown_ := goodIn_r _ [8, 9, 10, 11, 3, 12, 13, 42, 43, 44, 45, 46, 47, 48, 49, 50, 51, 52] (by decide +kernel) (by decide +kernel)
set_option maxRecDepth 20000 in
theorem gX3_again_X3_isThrown_ : GoodIn wsX3_again (wsV RX3 98 RX3 yX3_isThrown_ wsX3_isThrown_) := goodIn_app (goodIn_of _ (by decide +kernel)) ggX3_again_X3_isThrown_
set_option maxRecDepth 20000 in
theorem ggX3_again_X3_againOf : GoodIn wsX3_again wsX3_againOf := goodIn_r _ [17, 18, 19, 20, 3, 21, 22, 23, 24, 25, 26, 27, 28, 29, 30, 31, 32, 33, 34, 35, 36, 37, 38, 39, 40, 41, 42, 43, 44, 45, 46, 47, 48, 49, 50, 51, 52] (by decide +kernel) (by decide +kernel)
set_option maxRecDepth 20000 in
theorem gX3_again_X3_againOf : GoodIn wsX3_again (wsV RX3 71 RX3 yX3_againOf wsX3_againOf) := goodIn_app (goodIn_of _ (by decide +kernel)) ggX3_again_X3_againOf
theorem dX3_again_0 : decode cX3_again 0 = .ok (.aload_n 0, 1) := by decide +kernel
theorem dX3_again_1 : decode cX3_again 1 = .ok (.iload_n 1, 1) := by decide +kernel
theorem dX3_again_2 : decode cX3_again 2 = .ok (.invokestatic 108, 3) := by decide +kernel
theorem dX3_again_5 : decode cX3_again 5 = .ok (.ifCond .ne 7, 3) := by decide +kernel
theorem dX3_again_8 : decode cX3_again 8 = .ok (.iconst 1, 1) := by decide +kernel
theorem dX3_again_9 : decode cX3_again 9 = .ok (.goto 4, 3) := by decide +kernel
theorem dX3_again_12 : decode cX3_again 12 = .ok (.iconst 0, 1) := by decide +kernel
theorem dX3_again_13 : decode cX3_again 13 = .ok (.invokevirtual 98, 3) := by decide +kernel
theorem dX3_again_16 : decode cX3_again 16 = .ok (.ifCond .eq 7, 3) := by decide +kernel
theorem dX3_again_19 : decode cX3_again 19 = .ok (.iconst 0, 1) := by decide +kernel
theorem dX3_again_20 : decode cX3_again 20 = .ok (.goto 8, 3) := by decide +kernel
theorem dX3_again_23 : decode cX3_again 23 = .ok (.aload_n 0, 1) := by decide +kernel
theorem dX3_again_24 : decode cX3_again 24 = .ok (.iload_n 1, 1) := by decide +kernel
theorem dX3_again_25 : decode cX3_again 25 = .ok (.invokevirtual 71, 3) := by decide +kernel
theorem dX3_again_28 : decode cX3_again 28 = .ok (.ireturn, 1) := by decide +kernel
set_option maxRecDepth 20000 in
theorem ggX3_ranked_X3_isSide : GoodIn wsX3_ranked wsX3_isSide := goodIn_r _ [4] (by decide +kernel) (by decide +kernel)
set_option maxRecDepth 20000 in
theorem gX3_ranked_X3_isSide : GoodIn wsX3_ranked (va_wsS RX3 108 yX3_isSide wsX3_isSide) := goodIn_app (goodIn_of _ (by decide +kernel)) ggX3_ranked_X3_isSide
set_option maxRecDepth 20000 in
theorem ggX3_ranked_X3_isThrown_ : GoodIn wsX3_ranked wsX3_isThrown_ := goodIn_r _ [8, 9, 10, 11, 3, 12, 13, 63, 64, 65, 66, 67, 68, 69, 70, 71, 72, 73] (by decide +kernel) (by decide +kernel)
set_option maxRecDepth 20000 in
theorem gX3_ranked_X3_isThrown_ : GoodIn wsX3_ranked (wsV RX3 98 RX3 yX3_isThrown_ wsX3_isThrown_) := goodIn_app (goodIn_of _ (by decide +kernel)) ggX3_ranked_X3_isThrown_
set_option maxRecDepth 20000 in
theorem ggX3_ranked_X3_wonIn : GoodIn wsX3_ranked wsX3_wonIn := goodIn_r _ [17, 18, 19, 20, 3, 21, 22, 23, 24, 25, 26, 27, 28, 29, 30, 31, 32, 33, 34, 35, 36, 37, 38, 39, 40, 41, 42, 43, 44, 45, 46, 47, 48, 49, 50, 51, 52, 53, 54, 55, 56, 57, 58, 59, 60, 61, 62, 63, 64, 65, 66, 67, 68, 69, 70, 71, 72, 73] (by decide +kernel) (by decide +kernel)
set_option maxRecDepth 20000 in
theorem gX3_ranked_X3_wonIn : GoodIn wsX3_ranked (wsV RX3 81 RX3 yX3_wonIn wsX3_wonIn) := goodIn_app (goodIn_of _ (by decide +kernel)) ggX3_ranked_X3_wonIn
theorem dX3_ranked_0 : decode cX3_ranked 0 = .ok (.aload_n 0, 1) := by decide +kernel
theorem dX3_ranked_1 : decode cX3_ranked 1 = .ok (.iload_n 1, 1) := by decide +kernel
theorem dX3_ranked_2 : decode cX3_ranked 2 = .ok (.invokestatic 108, 3) := by decide +kernel
theorem dX3_ranked_5 : decode cX3_ranked 5 = .ok (.ifCond .ne 7, 3) := by decide +kernel
theorem dX3_ranked_8 : decode cX3_ranked 8 = .ok (.iconst 1, 1) := by decide +kernel
theorem dX3_ranked_9 : decode cX3_ranked 9 = .ok (.goto 4, 3) := by decide +kernel
theorem dX3_ranked_12 : decode cX3_ranked 12 = .ok (.iconst 0, 1) := by decide +kernel
theorem dX3_ranked_13 : decode cX3_ranked 13 = .ok (.invokevirtual 98, 3) := by decide +kernel
theorem dX3_ranked_16 : decode cX3_ranked 16 = .ok (.ifCond .eq 7, 3) := by decide +kernel
theorem dX3_ranked_19 : decode cX3_ranked 19 = .ok (.iconst 0, 1) := by decide +kernel
theorem dX3_ranked_20 : decode cX3_ranked 20 = .ok (.goto 9, 3) := by decide +kernel
theorem dX3_ranked_23 : decode cX3_ranked 23 = .ok (.aload_n 0, 1) := by decide +kernel
theorem dX3_ranked_24 : decode cX3_ranked 24 = .ok (.iconst 3, 1) := by decide +kernel
theorem dX3_ranked_25 : decode cX3_ranked 25 = .ok (.iload_n 1, 1) := by decide +kernel
theorem dX3_ranked_26 : decode cX3_ranked 26 = .ok (.invokevirtual 81, 3) := by decide +kernel
theorem dX3_ranked_29 : decode cX3_ranked 29 = .ok (.ireturn, 1) := by decide +kernel
set_option maxRecDepth 20000 in
theorem ggX3_winner_X3_isPlace : GoodIn wsX3_winner wsX3_isPlace := goodIn_r _ [5, 6, 63, 64, 65, 66, 67, 68, 69, 70, 71, 72, 73] (by decide +kernel) (by decide +kernel)
set_option maxRecDepth 20000 in
theorem gX3_winner_X3_isPlace : GoodIn wsX3_winner (wsV RX3 104 RX3 yX3_isPlace wsX3_isPlace) := goodIn_app (goodIn_of _ (by decide +kernel)) ggX3_winner_X3_isPlace
set_option maxRecDepth 20000 in
theorem ggX3_winner_X3_isThrown : GoodIn wsX3_winner wsX3_isThrown := goodIn_r _ [10, 11, 63, 64, 65, 66, 67, 68, 69, 70, 71, 72, 73] (by decide +kernel) (by decide +kernel)
set_option maxRecDepth 20000 in
theorem gX3_winner_X3_isThrown : GoodIn wsX3_winner (wsV RX3 88 RX3 yX3_isThrown wsX3_isThrown) := goodIn_app (goodIn_of _ (by decide +kernel)) ggX3_winner_X3_isThrown
set_option maxRecDepth 20000 in
theorem ggX3_winner_X3_wonIn : GoodIn wsX3_winner wsX3_wonIn := goodIn_r _ [15, 16, 17, 18, 4, 19, 20, 21, 22, 23, 24, 25, 26, 27, 28, 6, 29, 30, 31, 32, 33, 34, 35, 36, 37, 38, 39, 40, 41, 42, 43, 44, 45, 46, 47, 48, 49, 50, 51, 52, 53, 54, 55, 56, 57, 58, 59, 63, 64, 65, 66, 67, 68, 69, 70, 71, 72, 73] (by decide +kernel) (by decide +kernel)
set_option maxRecDepth 20000 in
theorem gX3_winner_X3_wonIn : GoodIn wsX3_winner (wsV RX3 81 RX3 yX3_wonIn wsX3_wonIn) := goodIn_app (goodIn_of _ (by decide +kernel)) ggX3_winner_X3_wonIn
set_option maxRecDepth 20000 in
theorem ggX3_winner_X3_isIn : GoodIn wsX3_winner wsX3_isIn := goodIn_r _ [62] (by decide +kernel) (by decide +kernel)
set_option maxRecDepth 20000 in
theorem gX3_winner_X3_isIn : GoodIn wsX3_winner (va_wsS RX3 77 yX3_isIn wsX3_isIn) := goodIn_app (goodIn_of _ (by decide +kernel)) ggX3_winner_X3_isIn
theorem dX3_winner_0 : decode cX3_winner 0 = .ok (.aload_n 0, 1) := by decide +kernel
theorem dX3_winner_1 : decode cX3_winner 1 = .ok (.aload_n 0, 1) := by decide +kernel
theorem dX3_winner_2 : decode cX3_winner 2 = .ok (.iload_n 2, 1) := by decide +kernel
theorem dX3_winner_3 : decode cX3_winner 3 = .ok (.invokevirtual 104, 3) := by decide +kernel
theorem dX3_winner_6 : decode cX3_winner 6 = .ok (.ifCond .ne 7, 3) := by decide +kernel
theorem dX3_winner_9 : decode cX3_winner 9 = .ok (.iconst 1, 1) := by decide +kernel
theorem dX3_winner_10 : decode cX3_winner 10 = .ok (.goto 4, 3) := by decide +kernel
theorem dX3_winner_13 : decode cX3_winner 13 = .ok (.iconst 0, 1) := by decide +kernel
theorem dX3_winner_14 : decode cX3_winner 14 = .ok (.iload_n 1, 1) := by decide +kernel
theorem dX3_winner_15 : decode cX3_winner 15 = .ok (.ifCond .lt 8, 3) := by decide +kernel
theorem dX3_winner_18 : decode cX3_winner 18 = .ok (.iload_n 1, 1) := by decide +kernel
theorem dX3_winner_19 : decode cX3_winner 19 = .ok (.iconst 4, 1) := by decide +kernel
theorem dX3_winner_20 : decode cX3_winner 20 = .ok (.if_icmp .le 7, 3) := by decide +kernel
theorem dX3_winner_23 : decode cX3_winner 23 = .ok (.iconst 1, 1) := by decide +kernel
theorem dX3_winner_24 : decode cX3_winner 24 = .ok (.goto 4, 3) := by decide +kernel
theorem dX3_winner_27 : decode cX3_winner 27 = .ok (.iconst 0, 1) := by decide +kernel
theorem dX3_winner_28 : decode cX3_winner 28 = .ok (.invokevirtual 88, 3) := by decide +kernel
theorem dX3_winner_31 : decode cX3_winner 31 = .ok (.ifCond .eq 5, 3) := by decide +kernel
theorem dX3_winner_34 : decode cX3_winner 34 = .ok (.iconst 0, 1) := by decide +kernel
theorem dX3_winner_35 : decode cX3_winner 35 = .ok (.ireturn, 1) := by decide +kernel
theorem dX3_winner_36 : decode cX3_winner 36 = .ok (.iload_n 1, 1) := by decide +kernel
theorem dX3_winner_37 : decode cX3_winner 37 = .ok (.iconst 4, 1) := by decide +kernel
theorem dX3_winner_38 : decode cX3_winner 38 = .ok (.if_icmp .ne 7, 3) := by decide +kernel
theorem dX3_winner_41 : decode cX3_winner 41 = .ok (.iconst 0, 1) := by decide +kernel
theorem dX3_winner_42 : decode cX3_winner 42 = .ok (.goto 6, 3) := by decide +kernel
theorem dX3_winner_45 : decode cX3_winner 45 = .ok (.iload_n 1, 1) := by decide +kernel
theorem dX3_winner_46 : decode cX3_winner 46 = .ok (.iconst 2, 1) := by decide +kernel
theorem dX3_winner_47 : decode cX3_winner 47 = .ok (.irem, 1) := by decide +kernel
theorem dX3_winner_48 : decode cX3_winner 48 = .ok (.istore_n 3, 1) := by decide +kernel
theorem dX3_winner_49 : decode cX3_winner 49 = .ok (.aload_n 0, 1) := by decide +kernel
theorem dX3_winner_50 : decode cX3_winner 50 = .ok (.iload_n 1, 1) := by decide +kernel
theorem dX3_winner_51 : decode cX3_winner 51 = .ok (.iconst 4, 1) := by decide +kernel
theorem dX3_winner_52 : decode cX3_winner 52 = .ok (.if_icmp .ne 7, 3) := by decide +kernel
theorem dX3_winner_55 : decode cX3_winner 55 = .ok (.iconst 3, 1) := by decide +kernel
theorem dX3_winner_56 : decode cX3_winner 56 = .ok (.goto 13, 3) := by decide +kernel
theorem dX3_winner_59 : decode cX3_winner 59 = .ok (.iload_n 1, 1) := by decide +kernel
theorem dX3_winner_60 : decode cX3_winner 60 = .ok (.iconst 2, 1) := by decide +kernel
theorem dX3_winner_61 : decode cX3_winner 61 = .ok (.if_icmp .ge 7, 3) := by decide +kernel
theorem dX3_winner_64 : decode cX3_winner 64 = .ok (.iconst 0, 1) := by decide +kernel
theorem dX3_winner_65 : decode cX3_winner 65 = .ok (.goto 4, 3) := by decide +kernel
theorem dX3_winner_68 : decode cX3_winner 68 = .ok (.iconst 2, 1) := by decide +kernel
theorem dX3_winner_69 : decode cX3_winner 69 = .ok (.iload_n 3, 1) := by decide +kernel
theorem dX3_winner_70 : decode cX3_winner 70 = .ok (.invokevirtual 81, 3) := by decide +kernel
theorem dX3_winner_73 : decode cX3_winner 73 = .ok (.iload_n 2, 1) := by decide +kernel
theorem dX3_winner_74 : decode cX3_winner 74 = .ok (.invokestatic 77, 3) := by decide +kernel
theorem dX3_winner_77 : decode cX3_winner 77 = .ok (.ifCond .eq 7, 3) := by decide +kernel
theorem dX3_winner_80 : decode cX3_winner 80 = .ok (.iload_n 3, 1) := by decide +kernel
theorem dX3_winner_81 : decode cX3_winner 81 = .ok (.goto 6, 3) := by decide +kernel
theorem dX3_winner_84 : decode cX3_winner 84 = .ok (.iconst 1, 1) := by decide +kernel
theorem dX3_winner_85 : decode cX3_winner 85 = .ok (.iload_n 3, 1) := by decide +kernel
theorem dX3_winner_86 : decode cX3_winner 86 = .ok (.isub, 1) := by decide +kernel
theorem dX3_winner_87 : decode cX3_winner 87 = .ok (.ireturn, 1) := by decide +kernel
set_option maxRecDepth 20000 in
theorem ggX3_rounds_X3_isPlace : GoodIn wsX3_rounds wsX3_isPlace := goodIn_r _ [5, 6, 41, 42, 43, 44, 45, 46, 47, 48, 49, 50, 51] (by decide +kernel) (by decide +kernel)
set_option maxRecDepth 20000 in
theorem gX3_rounds_X3_isPlace : GoodIn wsX3_rounds (wsV RX3 104 RX3 yX3_isPlace wsX3_isPlace) := goodIn_app (goodIn_of _ (by decide +kernel)) ggX3_rounds_X3_isPlace
set_option maxRecDepth 20000 in
theorem ggX3_rounds_X3_isSide : GoodIn wsX3_rounds wsX3_isSide := goodIn_r _ [9] (by decide +kernel) (by decide +kernel)
set_option maxRecDepth 20000 in
theorem gX3_rounds_X3_isSide : GoodIn wsX3_rounds (va_wsS RX3 108 yX3_isSide wsX3_isSide) := goodIn_app (goodIn_of _ (by decide +kernel)) ggX3_rounds_X3_isSide
set_option maxRecDepth 20000 in
theorem ggX3_rounds_X3_isThrown : GoodIn wsX3_rounds wsX3_isThrown := goodIn_r _ [13, 14, 41, 42, 43, 44, 45, 46, 47, 48, 49, 50, 51] (by decide +kernel) (by decide +kernel)
set_option maxRecDepth 20000 in
theorem gX3_rounds_X3_isThrown : GoodIn wsX3_rounds (wsV RX3 88 RX3 yX3_isThrown wsX3_isThrown) := goodIn_app (goodIn_of _ (by decide +kernel)) ggX3_rounds_X3_isThrown
set_option maxRecDepth 20000 in
theorem ggX3_rounds_X3_comingOf : GoodIn wsX3_rounds wsX3_comingOf := goodIn_r _ [18, 19, 20, 21, 22, 4, 23, 24, 25, 26, 27, 6, 28, 29, 30, 31, 32, 33, 41, 42, 43, 44, 45, 46, 47, 48, 49, 50, 51] (by decide +kernel) (by decide +kernel)
set_option maxRecDepth 20000 in
theorem gX3_rounds_X3_comingOf : GoodIn wsX3_rounds (wsV RX3 59 RX3 yX3_comingOf wsX3_comingOf) := goodIn_app (goodIn_of _ (by decide +kernel)) ggX3_rounds_X3_comingOf
set_option maxRecDepth 20000 in
theorem ggX3_rounds_X3_roundsTo : GoodIn wsX3_rounds wsX3_roundsTo := goodIn_r _ [37, 19, 6, 28, 38, 39, 4, 40, 29, 30, 31, 32, 33, 24, 25, 26, 27, 41, 42, 43, 44, 45, 46, 47, 48, 49, 50, 51] (by decide +kernel) (by decide +kernel)
set_option maxRecDepth 20000 in
theorem gX3_rounds_X3_roundsTo : GoodIn wsX3_rounds (wsV RX3 84 RX3 yX3_roundsTo wsX3_roundsTo) := goodIn_app (goodIn_of _ (by decide +kernel)) ggX3_rounds_X3_roundsTo
theorem dX3_rounds_0 : decode cX3_rounds 0 = .ok (.aload_n 0, 1) := by decide +kernel
theorem dX3_rounds_1 : decode cX3_rounds 1 = .ok (.aload_n 0, 1) := by decide +kernel
theorem dX3_rounds_2 : decode cX3_rounds 2 = .ok (.iload_n 2, 1) := by decide +kernel
theorem dX3_rounds_3 : decode cX3_rounds 3 = .ok (.invokevirtual 104, 3) := by decide +kernel
theorem dX3_rounds_6 : decode cX3_rounds 6 = .ok (.ifCond .ne 7, 3) := by decide +kernel
theorem dX3_rounds_9 : decode cX3_rounds 9 = .ok (.iconst 1, 1) := by decide +kernel
theorem dX3_rounds_10 : decode cX3_rounds 10 = .ok (.goto 4, 3) := by decide +kernel
theorem dX3_rounds_13 : decode cX3_rounds 13 = .ok (.iconst 0, 1) := by decide +kernel
theorem dX3_rounds_14 : decode cX3_rounds 14 = .ok (.iload_n 1, 1) := by decide +kernel
theorem dX3_rounds_15 : decode cX3_rounds 15 = .ok (.invokestatic 108, 3) := by decide +kernel
theorem dX3_rounds_18 : decode cX3_rounds 18 = .ok (.ifCond .ne 7, 3) := by decide +kernel
theorem dX3_rounds_21 : decode cX3_rounds 21 = .ok (.iconst 1, 1) := by decide +kernel
theorem dX3_rounds_22 : decode cX3_rounds 22 = .ok (.goto 4, 3) := by decide +kernel
theorem dX3_rounds_25 : decode cX3_rounds 25 = .ok (.iconst 0, 1) := by decide +kernel
theorem dX3_rounds_26 : decode cX3_rounds 26 = .ok (.invokevirtual 88, 3) := by decide +kernel
theorem dX3_rounds_29 : decode cX3_rounds 29 = .ok (.ifCond .eq 7, 3) := by decide +kernel
theorem dX3_rounds_32 : decode cX3_rounds 32 = .ok (.iconst 0, 1) := by decide +kernel
theorem dX3_rounds_33 : decode cX3_rounds 33 = .ok (.goto 14, 3) := by decide +kernel
theorem dX3_rounds_36 : decode cX3_rounds 36 = .ok (.aload_n 0, 1) := by decide +kernel
theorem dX3_rounds_37 : decode cX3_rounds 37 = .ok (.aload_n 0, 1) := by decide +kernel
theorem dX3_rounds_38 : decode cX3_rounds 38 = .ok (.iload_n 1, 1) := by decide +kernel
theorem dX3_rounds_39 : decode cX3_rounds 39 = .ok (.invokevirtual 59, 3) := by decide +kernel
theorem dX3_rounds_42 : decode cX3_rounds 42 = .ok (.iload_n 1, 1) := by decide +kernel
theorem dX3_rounds_43 : decode cX3_rounds 43 = .ok (.iload_n 2, 1) := by decide +kernel
theorem dX3_rounds_44 : decode cX3_rounds 44 = .ok (.invokevirtual 84, 3) := by decide +kernel
theorem dX3_rounds_47 : decode cX3_rounds 47 = .ok (.ireturn, 1) := by decide +kernel
set_option maxRecDepth 20000 in
theorem ggX3_againRounds_X3_isPlace : GoodIn wsX3_againRounds wsX3_isPlace := goodIn_r _ [5, 6, 49, 50, 51, 52, 53, 54, 55, 56, 57, 58, 59] (by decide +kernel) (by decide +kernel)
set_option maxRecDepth 20000 in
theorem gX3_againRounds_X3_isPlace : GoodIn wsX3_againRounds (wsV RX3 104 RX3 yX3_isPlace wsX3_isPlace) := goodIn_app (goodIn_of _ (by decide +kernel)) ggX3_againRounds_X3_isPlace
set_option maxRecDepth 20000 in
theorem ggX3_againRounds_X3_isSide : GoodIn wsX3_againRounds wsX3_isSide := goodIn_r _ [9] (by decide +kernel) (by decide +kernel)
set_option maxRecDepth 20000 in
theorem gX3_againRounds_X3_isSide : GoodIn wsX3_againRounds (va_wsS RX3 108 yX3_isSide wsX3_isSide) := goodIn_app (goodIn_of _ (by decide +kernel)) ggX3_againRounds_X3_isSide
set_option maxRecDepth 20000 in
theorem ggX3_againRounds_X3_isThrown : GoodIn wsX3_againRounds wsX3_isThrown := goodIn_r _ [13, 14, 49, 50, 51, 52, 53, 54, 55, 56, 57, 58, 59] (by decide +kernel) (by decide +kernel)
set_option maxRecDepth 20000 in
theorem gX3_againRounds_X3_isThrown : GoodIn wsX3_againRounds (wsV RX3 88 RX3 yX3_isThrown wsX3_isThrown) := goodIn_app (goodIn_of _ (by decide +kernel)) ggX3_againRounds_X3_isThrown
set_option maxRecDepth 20000 in
theorem ggX3_againRounds_X3_againOf : GoodIn wsX3_againRounds wsX3_againOf := goodIn_r _ [18, 19, 20, 21, 4, 22, 6, 23, 24, 25, 26, 27, 28, 29, 30, 31, 32, 33, 34, 35, 36, 37, 38, 39, 40, 41, 49, 50, 51, 52, 53, 54, 55, 56, 57, 58, 59] (by decide +kernel) (by decide +kernel)
set_option maxRecDepth 20000 in
theorem gX3_againRounds_X3_againOf : GoodIn wsX3_againRounds (wsV RX3 71 RX3 yX3_againOf wsX3_againOf) := goodIn_app (goodIn_of _ (by decide +kernel)) ggX3_againRounds_X3_againOf
set_option maxRecDepth 20000 in
theorem ggX3_againRounds_X3_roundsTo : GoodIn wsX3_againRounds wsX3_roundsTo := goodIn_r _ [45, 27, 6, 32, 46, 47, 4, 48, 33, 34, 35, 36, 37, 28, 29, 30, 31, 49, 50, 51, 52, 53, 54, 55, 56, 57, 58, 59] (by decide +kernel) (by decide +kernel)
set_option maxRecDepth 20000 in
theorem gX3_againRounds_X3_roundsTo : GoodIn wsX3_againRounds (wsV RX3 84 RX3 yX3_roundsTo wsX3_roundsTo) := goodIn_app (goodIn_of _ (by decide +kernel)) ggX3_againRounds_X3_roundsTo
theorem dX3_againRounds_0 : decode cX3_againRounds 0 = .ok (.aload_n 0, 1) := by decide +kernel
theorem dX3_againRounds_1 : decode cX3_againRounds 1 = .ok (.aload_n 0, 1) := by decide +kernel
theorem dX3_againRounds_2 : decode cX3_againRounds 2 = .ok (.iload_n 2, 1) := by decide +kernel
theorem dX3_againRounds_3 : decode cX3_againRounds 3 = .ok (.invokevirtual 104, 3) := by decide +kernel
theorem dX3_againRounds_6 : decode cX3_againRounds 6 = .ok (.ifCond .ne 7, 3) := by decide +kernel
theorem dX3_againRounds_9 : decode cX3_againRounds 9 = .ok (.iconst 1, 1) := by decide +kernel
theorem dX3_againRounds_10 : decode cX3_againRounds 10 = .ok (.goto 4, 3) := by decide +kernel
theorem dX3_againRounds_13 : decode cX3_againRounds 13 = .ok (.iconst 0, 1) := by decide +kernel
theorem dX3_againRounds_14 : decode cX3_againRounds 14 = .ok (.iload_n 1, 1) := by decide +kernel
theorem dX3_againRounds_15 : decode cX3_againRounds 15 = .ok (.invokestatic 108, 3) := by decide +kernel
theorem dX3_againRounds_18 : decode cX3_againRounds 18 = .ok (.ifCond .ne 7, 3) := by decide +kernel
theorem dX3_againRounds_21 : decode cX3_againRounds 21 = .ok (.iconst 1, 1) := by decide +kernel
theorem dX3_againRounds_22 : decode cX3_againRounds 22 = .ok (.goto 4, 3) := by decide +kernel
theorem dX3_againRounds_25 : decode cX3_againRounds 25 = .ok (.iconst 0, 1) := by decide +kernel
theorem dX3_againRounds_26 : decode cX3_againRounds 26 = .ok (.invokevirtual 88, 3) := by decide +kernel
theorem dX3_againRounds_29 : decode cX3_againRounds 29 = .ok (.ifCond .eq 7, 3) := by decide +kernel
theorem dX3_againRounds_32 : decode cX3_againRounds 32 = .ok (.iconst 0, 1) := by decide +kernel
theorem dX3_againRounds_33 : decode cX3_againRounds 33 = .ok (.goto 14, 3) := by decide +kernel
theorem dX3_againRounds_36 : decode cX3_againRounds 36 = .ok (.aload_n 0, 1) := by decide +kernel
theorem dX3_againRounds_37 : decode cX3_againRounds 37 = .ok (.aload_n 0, 1) := by decide +kernel
theorem dX3_againRounds_38 : decode cX3_againRounds 38 = .ok (.iload_n 1, 1) := by decide +kernel
theorem dX3_againRounds_39 : decode cX3_againRounds 39 = .ok (.invokevirtual 71, 3) := by decide +kernel
theorem dX3_againRounds_42 : decode cX3_againRounds 42 = .ok (.iload_n 1, 1) := by decide +kernel
theorem dX3_againRounds_43 : decode cX3_againRounds 43 = .ok (.iload_n 2, 1) := by decide +kernel
theorem dX3_againRounds_44 : decode cX3_againRounds 44 = .ok (.invokevirtual 84, 3) := by decide +kernel
theorem dX3_againRounds_47 : decode cX3_againRounds 47 = .ok (.ireturn, 1) := by decide +kernel
set_option maxRecDepth 20000 in
theorem ggX3_falls_X3_isSide : GoodIn wsX3_falls wsX3_isSide := goodIn_r _ [4] (by decide +kernel) (by decide +kernel)
set_option maxRecDepth 20000 in
theorem gX3_falls_X3_isSide : GoodIn wsX3_falls (va_wsS RX3 108 yX3_isSide wsX3_isSide) := goodIn_app (goodIn_of _ (by decide +kernel)) ggX3_falls_X3_isSide
set_option maxRecDepth 20000 in
theorem ggX3_falls_X3_isThrown_ : GoodIn wsX3_falls wsX3_isThrown_ := goodIn_r _ [8, 9, 10, 11, 3, 12, 13, 42, 43, 44, 45, 46, 47, 48, 49, 50, 51, 52] (by decide +kernel) (by decide +kernel)
set_option maxRecDepth 20000 in
theorem gX3_falls_X3_isThrown_ : GoodIn wsX3_falls (wsV RX3 98 RX3 yX3_isThrown_ wsX3_isThrown_) := goodIn_app (goodIn_of _ (by decide +kernel)) ggX3_falls_X3_isThrown_
set_option maxRecDepth 20000 in
theorem ggX3_falls_X3_fallsOf : GoodIn wsX3_falls wsX3_fallsOf := goodIn_r _ [17, 18, 19, 20, 3, 21, 22, 23, 24, 25, 26, 27, 28, 29, 30, 31, 32, 33, 34, 35, 36, 37, 38, 39, 40, 41, 42, 43, 44, 45, 46, 47, 48, 49, 50, 51, 52] (by decide +kernel) (by decide +kernel)
set_option maxRecDepth 20000 in
theorem gX3_falls_X3_fallsOf : GoodIn wsX3_falls (wsV RX3 150 RX3 yX3_fallsOf wsX3_fallsOf) := goodIn_app (goodIn_of _ (by decide +kernel)) ggX3_falls_X3_fallsOf
theorem dX3_falls_0 : decode cX3_falls 0 = .ok (.aload_n 0, 1) := by decide +kernel
theorem dX3_falls_1 : decode cX3_falls 1 = .ok (.iload_n 1, 1) := by decide +kernel
theorem dX3_falls_2 : decode cX3_falls 2 = .ok (.invokestatic 108, 3) := by decide +kernel
theorem dX3_falls_5 : decode cX3_falls 5 = .ok (.ifCond .ne 7, 3) := by decide +kernel
theorem dX3_falls_8 : decode cX3_falls 8 = .ok (.iconst 1, 1) := by decide +kernel
theorem dX3_falls_9 : decode cX3_falls 9 = .ok (.goto 4, 3) := by decide +kernel
theorem dX3_falls_12 : decode cX3_falls 12 = .ok (.iconst 0, 1) := by decide +kernel
theorem dX3_falls_13 : decode cX3_falls 13 = .ok (.invokevirtual 98, 3) := by decide +kernel
theorem dX3_falls_16 : decode cX3_falls 16 = .ok (.ifCond .eq 7, 3) := by decide +kernel
theorem dX3_falls_19 : decode cX3_falls 19 = .ok (.iconst 0, 1) := by decide +kernel
theorem dX3_falls_20 : decode cX3_falls 20 = .ok (.goto 8, 3) := by decide +kernel
theorem dX3_falls_23 : decode cX3_falls 23 = .ok (.aload_n 0, 1) := by decide +kernel
theorem dX3_falls_24 : decode cX3_falls 24 = .ok (.iload_n 1, 1) := by decide +kernel
theorem dX3_falls_25 : decode cX3_falls 25 = .ok (.invokevirtual 150, 3) := by decide +kernel
theorem dX3_falls_28 : decode cX3_falls 28 = .ok (.ireturn, 1) := by decide +kernel
set_option maxRecDepth 20000 in
theorem ggX3_choice_X3_isPlace : GoodIn wsX3_choice wsX3_isPlace := goodIn_r _ [5, 6, 74, 75, 76, 77, 78, 79, 80, 81, 82, 83, 84] (by decide +kernel) (by decide +kernel)
set_option maxRecDepth 20000 in
theorem gX3_choice_X3_isPlace : GoodIn wsX3_choice (wsV RX3 104 RX3 yX3_isPlace wsX3_isPlace) := goodIn_app (goodIn_of _ (by decide +kernel)) ggX3_choice_X3_isPlace
set_option maxRecDepth 20000 in
theorem ggX3_choice_X3_isSide : GoodIn wsX3_choice wsX3_isSide := goodIn_r _ [9] (by decide +kernel) (by decide +kernel)
set_option maxRecDepth 20000 in
theorem gX3_choice_X3_isSide : GoodIn wsX3_choice (va_wsS RX3 108 yX3_isSide wsX3_isSide) := goodIn_app (goodIn_of _ (by decide +kernel)) ggX3_choice_X3_isSide
set_option maxRecDepth 20000 in
theorem ggX3_choice_X3_isThrown : GoodIn wsX3_choice wsX3_isThrown := goodIn_r _ [13, 14, 74, 75, 76, 77, 78, 79, 80, 81, 82, 83, 84] (by decide +kernel) (by decide +kernel)
set_option maxRecDepth 20000 in
theorem gX3_choice_X3_isThrown : GoodIn wsX3_choice (wsV RX3 88 RX3 yX3_isThrown wsX3_isThrown) := goodIn_app (goodIn_of _ (by decide +kernel)) ggX3_choice_X3_isThrown
set_option maxRecDepth 20000 in
theorem ggX3_choice_X3_choiceOf : GoodIn wsX3_choice wsX3_choiceOf := goodIn_r _ [18, 19, 6, 20, 21, 22, 23, 4, 24, 25, 26, 27, 28, 29, 30, 31, 32, 33, 34, 35, 36, 37, 38, 39, 40, 41, 42, 43, 44, 45, 46, 47, 48, 49, 50, 51, 52, 53, 54, 55, 56, 57, 58, 59, 60, 61, 62, 63, 64, 65, 66, 67, 68, 69, 70, 71, 72, 73, 74, 75, 76, 77, 78, 79, 80, 81, 82, 83, 84] (by decide +kernel) (by decide +kernel)
set_option maxRecDepth 20000 in
theorem gX3_choice_X3_choiceOf : GoodIn wsX3_choice (wsV RX3 117 RX3 yX3_choiceOf wsX3_choiceOf) := goodIn_app (goodIn_of _ (by decide +kernel)) ggX3_choice_X3_choiceOf
theorem dX3_choice_0 : decode cX3_choice 0 = .ok (.aload_n 0, 1) := by decide +kernel
theorem dX3_choice_1 : decode cX3_choice 1 = .ok (.aload_n 0, 1) := by decide +kernel
theorem dX3_choice_2 : decode cX3_choice 2 = .ok (.iload_n 3, 1) := by decide +kernel
theorem dX3_choice_3 : decode cX3_choice 3 = .ok (.invokevirtual 104, 3) := by decide +kernel
theorem dX3_choice_6 : decode cX3_choice 6 = .ok (.ifCond .ne 7, 3) := by decide +kernel
theorem dX3_choice_9 : decode cX3_choice 9 = .ok (.iconst 1, 1) := by decide +kernel
theorem dX3_choice_10 : decode cX3_choice 10 = .ok (.goto 4, 3) := by decide +kernel
theorem dX3_choice_13 : decode cX3_choice 13 = .ok (.iconst 0, 1) := by decide +kernel
theorem dX3_choice_14 : decode cX3_choice 14 = .ok (.iload_n 1, 1) := by decide +kernel
theorem dX3_choice_15 : decode cX3_choice 15 = .ok (.ifCond .lt 15, 3) := by decide +kernel
theorem dX3_choice_18 : decode cX3_choice 18 = .ok (.iload_n 1, 1) := by decide +kernel
theorem dX3_choice_19 : decode cX3_choice 19 = .ok (.iconst 2, 1) := by decide +kernel
theorem dX3_choice_20 : decode cX3_choice 20 = .ok (.if_icmp .gt 10, 3) := by decide +kernel
theorem dX3_choice_23 : decode cX3_choice 23 = .ok (.iload_n 2, 1) := by decide +kernel
theorem dX3_choice_24 : decode cX3_choice 24 = .ok (.invokestatic 108, 3) := by decide +kernel
theorem dX3_choice_27 : decode cX3_choice 27 = .ok (.ifCond .ne 7, 3) := by decide +kernel
theorem dX3_choice_30 : decode cX3_choice 30 = .ok (.iconst 1, 1) := by decide +kernel
theorem dX3_choice_31 : decode cX3_choice 31 = .ok (.goto 4, 3) := by decide +kernel
theorem dX3_choice_34 : decode cX3_choice 34 = .ok (.iconst 0, 1) := by decide +kernel
theorem dX3_choice_35 : decode cX3_choice 35 = .ok (.invokevirtual 88, 3) := by decide +kernel
theorem dX3_choice_38 : decode cX3_choice 38 = .ok (.ifCond .eq 7, 3) := by decide +kernel
theorem dX3_choice_41 : decode cX3_choice 41 = .ok (.iconst 0, 1) := by decide +kernel
theorem dX3_choice_42 : decode cX3_choice 42 = .ok (.goto 10, 3) := by decide +kernel
theorem dX3_choice_45 : decode cX3_choice 45 = .ok (.aload_n 0, 1) := by decide +kernel
theorem dX3_choice_46 : decode cX3_choice 46 = .ok (.iload_n 1, 1) := by decide +kernel
theorem dX3_choice_47 : decode cX3_choice 47 = .ok (.iload_n 2, 1) := by decide +kernel
theorem dX3_choice_48 : decode cX3_choice 48 = .ok (.iload_n 3, 1) := by decide +kernel
theorem dX3_choice_49 : decode cX3_choice 49 = .ok (.invokevirtual 117, 3) := by decide +kernel
theorem dX3_choice_52 : decode cX3_choice 52 = .ok (.ireturn, 1) := by decide +kernel
set_option maxRecDepth 20000 in
theorem ggX3_isSure_X3_isSide : GoodIn wsX3_isSure wsX3_isSide := goodIn_r _ [4] (by decide +kernel) (by decide +kernel)
set_option maxRecDepth 20000 in
theorem gX3_isSure_X3_isSide : GoodIn wsX3_isSure (va_wsS RX3 108 yX3_isSide wsX3_isSide) := goodIn_app (goodIn_of _ (by decide +kernel)) ggX3_isSure_X3_isSide
set_option maxRecDepth 20000 in
theorem ggX3_isSure_X3_isThrown_ : GoodIn wsX3_isSure wsX3_isThrown_ := goodIn_r _ [8, 9, 10, 11, 3, 12, 13, 14, 15, 16, 17, 18, 19, 20, 21, 22, 23, 24] (by decide +kernel) (by decide +kernel)
set_option maxRecDepth 20000 in
theorem gX3_isSure_X3_isThrown_ : GoodIn wsX3_isSure (wsV RX3 98 RX3 yX3_isThrown_ wsX3_isThrown_) := goodIn_app (goodIn_of _ (by decide +kernel)) ggX3_isSure_X3_isThrown_
theorem dX3_isSure_0 : decode cX3_isSure 0 = .ok (.aload_n 0, 1) := by decide +kernel
theorem dX3_isSure_1 : decode cX3_isSure 1 = .ok (.iload_n 1, 1) := by decide +kernel
theorem dX3_isSure_2 : decode cX3_isSure 2 = .ok (.ifCond .lt 15, 3) := by decide +kernel
theorem dX3_isSure_5 : decode cX3_isSure 5 = .ok (.iload_n 1, 1) := by decide +kernel
theorem dX3_isSure_6 : decode cX3_isSure 6 = .ok (.iconst 2, 1) := by decide +kernel
theorem dX3_isSure_7 : decode cX3_isSure 7 = .ok (.if_icmp .gt 10, 3) := by decide +kernel
theorem dX3_isSure_10 : decode cX3_isSure 10 = .ok (.iload_n 2, 1) := by decide +kernel
theorem dX3_isSure_11 : decode cX3_isSure 11 = .ok (.invokestatic 108, 3) := by decide +kernel
theorem dX3_isSure_14 : decode cX3_isSure 14 = .ok (.ifCond .ne 7, 3) := by decide +kernel
theorem dX3_isSure_17 : decode cX3_isSure 17 = .ok (.iconst 1, 1) := by decide +kernel
theorem dX3_isSure_18 : decode cX3_isSure 18 = .ok (.goto 4, 3) := by decide +kernel
theorem dX3_isSure_21 : decode cX3_isSure 21 = .ok (.iconst 0, 1) := by decide +kernel
theorem dX3_isSure_22 : decode cX3_isSure 22 = .ok (.invokevirtual 98, 3) := by decide +kernel
theorem dX3_isSure_25 : decode cX3_isSure 25 = .ok (.ifCond .ne 7, 3) := by decide +kernel
theorem dX3_isSure_28 : decode cX3_isSure 28 = .ok (.iconst 1, 1) := by decide +kernel
theorem dX3_isSure_29 : decode cX3_isSure 29 = .ok (.goto 4, 3) := by decide +kernel
theorem dX3_isSure_32 : decode cX3_isSure 32 = .ok (.iconst 0, 1) := by decide +kernel
theorem dX3_isSure_33 : decode cX3_isSure 33 = .ok (.ireturn, 1) := by decide +kernel
set_option maxRecDepth 20000 in
theorem ggX3_play_X3_isPlace : GoodIn wsX3_play wsX3_isPlace := goodIn_r _ [9, 10, 317, 318, 319, 320, 321, 322, 323, 324, 325, 326, 327] (by decide +kernel) (by decide +kernel)
set_option maxRecDepth 20000 in
theorem gX3_play_X3_isPlace : GoodIn wsX3_play (wsV RX3 104 RX3 yX3_isPlace wsX3_isPlace) := goodIn_app (goodIn_of _ (by decide +kernel)) ggX3_play_X3_isPlace
set_option maxRecDepth 20000 in
theorem ggX3_play_X3_isSide : GoodIn wsX3_play wsX3_isSide := goodIn_r _ [13] (by decide +kernel) (by decide +kernel)
set_option maxRecDepth 20000 in
theorem gX3_play_X3_isSide : GoodIn wsX3_play (va_wsS RX3 108 yX3_isSide wsX3_isSide) := goodIn_app (goodIn_of _ (by decide +kernel)) ggX3_play_X3_isSide
set_option maxRecDepth 20000 in
theorem ggX3_play_X3_isThrown : GoodIn wsX3_play wsX3_isThrown := goodIn_r _ [17, 18, 317, 318, 319, 320, 321, 322, 323, 324, 325, 326, 327] (by decide +kernel) (by decide +kernel)
set_option maxRecDepth 20000 in
theorem gX3_play_X3_isThrown : GoodIn wsX3_play (wsV RX3 88 RX3 yX3_isThrown wsX3_isThrown) := goodIn_app (goodIn_of _ (by decide +kernel)) ggX3_play_X3_isThrown
set_option maxRecDepth 20000 in
theorem ggX3_play_J4_init_da8c8 : GoodIn wsX3_play wsJ4_init_da8c8 := goodIn_r _ [21, 22, 23, 24, 25, 26, 27, 28, 29, 30, 31, 32, 33, 34, 35, 36, 37, 38, 39, 40, 313, 314, 315, 316] (by decide +kernel) (by decide +kernel)
set_option maxRecDepth 20000 in
theorem gX3_play_J4_init_da8c8 : GoodIn wsX3_play (wsJ4_init_da8c8) := ggX3_play_J4_init_da8c8
set_option maxRecDepth 20000 in
theorem ggX3_play_J4_append_bf812 : GoodIn wsX3_play wsJ4_append_bf812 := goodIn_r _ [44, 45, 46, 47, 48, 24, 49, 50, 31, 51, 52, 53, 54, 55, 56, 57, 58, 59, 32, 60, 61, 62, 63, 64, 65, 66, 67, 68, 69, 70, 71, 72, 73, 74, 75, 76, 77, 78, 79, 80, 81, 82, 83, 84, 85, 86, 87, 30, 88, 89, 90, 91, 92, 93, 94, 95, 96, 97, 98, 99, 29, 100, 101, 102, 103, 104, 105, 106, 35, 107, 108, 109, 110, 111, 112, 113, 114, 115, 116, 117, 118, 119, 120, 121, 122, 123, 124, 125, 126, 127, 128, 129, 130, 131, 132, 133, 313, 314, 315, 316] (by decide +kernel) (by decide +kernel)
set_option maxRecDepth 20000 in
theorem gX3_play_J4_append_bf812 : GoodIn wsX3_play (wsV RX3 143 RJ4 yJ4_append_bf812 wsJ4_append_bf812) := goodIn_app (goodIn_of _ (by decide +kernel)) ggX3_play_J4_append_bf812
set_option maxRecDepth 20000 in
theorem ggX3_play_X3_sideOf : GoodIn wsX3_play wsX3_sideOf := goodIn_r _ [137, 138, 317, 318, 319, 320, 321, 322, 323, 324, 325, 326, 327] (by decide +kernel) (by decide +kernel)
set_option maxRecDepth 20000 in
theorem gX3_play_X3_sideOf : GoodIn wsX3_play (wsV RX3 45 RX3 yX3_sideOf wsX3_sideOf) := goodIn_app (goodIn_of _ (by decide +kernel)) ggX3_play_X3_sideOf
set_option maxRecDepth 20000 in
theorem ggX3_play_X3_choiceOf : GoodIn wsX3_play wsX3_choiceOf := goodIn_r _ [142, 143, 10, 4, 144, 145, 146, 8, 147, 148, 149, 150, 151, 152, 153, 154, 155, 156, 157, 158, 159, 134, 135, 136, 137, 138, 160, 161, 162, 163, 164, 165, 166, 167, 168, 169, 170, 171, 172, 173, 174, 175, 176, 177, 178, 179, 180, 181, 182, 183, 184, 185, 186, 187, 188, 189, 190, 191, 317, 318, 319, 320, 321, 322, 323, 324, 325, 326, 327] (by decide +kernel) (by decide +kernel)
set_option maxRecDepth 20000 in
theorem gX3_play_X3_choiceOf : GoodIn wsX3_play (wsV RX3 117 RX3 yX3_choiceOf wsX3_choiceOf) := goodIn_app (goodIn_of _ (by decide +kernel)) ggX3_play_X3_choiceOf
set_option maxRecDepth 20000 in
theorem ggX3_play_J6_numberOfTrailingZeros_0f7a4 : GoodIn wsX3_play wsJ6_numberOfTrailingZeros_0f7a4 := goodIn_r _ [194, 195] (by decide +kernel) (by decide +kernel)
set_option maxRecDepth 20000 in
theorem gX3_play_J6_numberOfTrailingZeros_0f7a4 : GoodIn wsX3_play (va_wsS RX3 153 yJ6_numberOfTrailingZeros_0f7a4 wsJ6_numberOfTrailingZeros_0f7a4) := goodIn_app (goodIn_of _ (by decide +kernel)) ggX3_play_J6_numberOfTrailingZeros_0f7a4
set_option maxRecDepth 20000 in
theorem ggX3_play_J4_append_15ec4 : GoodIn wsX3_play wsJ4_append_15ec4 := goodIn_r _ [199, 200, 201, 47, 202, 24, 203, 50, 204, 205, 206, 207, 208, 31, 55, 56, 57, 58, 59, 32, 60, 61, 62, 63, 64, 65, 66, 67, 68, 69, 70, 71, 72, 73, 74, 75, 76, 77, 78, 79, 80, 81, 82, 83, 84, 85, 86, 87, 30, 88, 89, 90, 91, 92, 93, 94, 95, 96, 97, 98, 99, 29, 209, 210, 35, 211, 108, 109, 110, 111, 112, 113, 114, 115, 116, 117, 118, 119, 120, 121, 122, 123, 129, 130, 131, 132, 133, 212, 213, 214, 215, 216, 217, 218, 219, 220, 221, 222, 223, 224, 225, 226, 227, 228, 229, 230, 231, 232, 233, 234, 235, 236, 237, 238, 33, 34, 36, 37, 38, 39, 40, 239, 240, 241, 242, 243, 244, 245, 246, 247, 248, 249, 250, 251, 252, 253, 254, 255, 256, 257, 258, 259, 260, 313, 314, 315, 316, 328, 329, 330, 331] (by decide +kernel) (by decide +kernel)
set_option maxRecDepth 20000 in
theorem gX3_play_J4_append_15ec4 : GoodIn wsX3_play (wsV RX3 139 RJ4 yJ4_append_15ec4 wsJ4_append_15ec4) := goodIn_app (goodIn_of _ (by decide +kernel)) ggX3_play_J4_append_15ec4
set_option maxRecDepth 20000 in
theorem ggX3_play_X3_isIn : GoodIn wsX3_play wsX3_isIn := goodIn_r _ [187] (by decide +kernel) (by decide +kernel)
set_option maxRecDepth 20000 in
theorem gX3_play_X3_isIn : GoodIn wsX3_play (va_wsS RX3 77 yX3_isIn wsX3_isIn) := goodIn_app (goodIn_of _ (by decide +kernel)) ggX3_play_X3_isIn
set_option maxRecDepth 20000 in
theorem ggX3_play_J4_toString_0e30d : GoodIn wsX3_play wsJ4_toString_0e30d := goodIn_r _ [264, 265, 266, 117, 267, 268, 269, 270, 271, 272, 273, 27, 28, 222, 216, 221, 274, 275, 276, 277, 278, 24, 279, 31, 280, 281, 282, 283, 284, 3, 285, 286, 47, 287, 288, 50, 289, 96, 97, 98, 99, 29, 32, 290, 291, 80, 292, 82, 83, 84, 85, 86, 87, 293, 294, 295, 30, 88, 89, 72, 90, 91, 92, 93, 94, 296, 297, 298, 299, 2, 300, 301, 35, 302, 303, 304, 305, 246, 247, 248, 112, 113, 114, 249, 250, 251, 119, 252, 253, 122, 254, 306, 307, 308, 108, 132, 133, 37, 38, 39, 40, 309, 310, 311, 312, 328, 329, 330, 331, 313, 314, 315, 316] (by decide +kernel) (by decide +kernel)
set_option maxRecDepth 20000 in
theorem gX3_play_J4_toString_0e30d : GoodIn wsX3_play (wsV RX3 146 RJ4 yJ4_toString_0e30d wsJ4_toString_0e30d) := goodIn_app (goodIn_of _ (by decide +kernel)) ggX3_play_J4_toString_0e30d
theorem dX3_play_0 : decode cX3_play 0 = .ok (.aload_n 0, 1) := by decide +kernel
theorem dX3_play_1 : decode cX3_play 1 = .ok (.aload_n 0, 1) := by decide +kernel
theorem dX3_play_2 : decode cX3_play 2 = .ok (.iload_n 2, 1) := by decide +kernel
theorem dX3_play_3 : decode cX3_play 3 = .ok (.invokevirtual 104, 3) := by decide +kernel
theorem dX3_play_6 : decode cX3_play 6 = .ok (.ifCond .ne 7, 3) := by decide +kernel
theorem dX3_play_9 : decode cX3_play 9 = .ok (.iconst 1, 1) := by decide +kernel
theorem dX3_play_10 : decode cX3_play 10 = .ok (.goto 4, 3) := by decide +kernel
theorem dX3_play_13 : decode cX3_play 13 = .ok (.iconst 0, 1) := by decide +kernel
theorem dX3_play_14 : decode cX3_play 14 = .ok (.iload_n 1, 1) := by decide +kernel
theorem dX3_play_15 : decode cX3_play 15 = .ok (.invokestatic 108, 3) := by decide +kernel
theorem dX3_play_18 : decode cX3_play 18 = .ok (.ifCond .ne 7, 3) := by decide +kernel
theorem dX3_play_21 : decode cX3_play 21 = .ok (.iconst 1, 1) := by decide +kernel
theorem dX3_play_22 : decode cX3_play 22 = .ok (.goto 4, 3) := by decide +kernel
theorem dX3_play_25 : decode cX3_play 25 = .ok (.iconst 0, 1) := by decide +kernel
theorem dX3_play_26 : decode cX3_play 26 = .ok (.invokevirtual 88, 3) := by decide +kernel
theorem dX3_play_29 : decode cX3_play 29 = .ok (.ifCond .eq 6, 3) := by decide +kernel
theorem dX3_play_32 : decode cX3_play 32 = .ok (.ldc 129, 2) := by decide +kernel
theorem dX3_play_34 : decode cX3_play 34 = .ok (.areturn, 1) := by decide +kernel
theorem dX3_play_35 : decode cX3_play 35 = .ok (.new 131, 3) := by decide +kernel
theorem dX3_play_38 : decode cX3_play 38 = .ok (.dup, 1) := by decide +kernel
theorem dX3_play_39 : decode cX3_play 39 = .ok (.invokespecial 133, 3) := by decide +kernel
theorem dX3_play_42 : decode cX3_play 42 = .ok (.iload_n 2, 1) := by decide +kernel
theorem dX3_play_43 : decode cX3_play 43 = .ok (.invokevirtual 143, 3) := by decide +kernel
theorem dX3_play_46 : decode cX3_play 46 = .ok (.astore_n 3, 1) := by decide +kernel
theorem dX3_play_47 : decode cX3_play 47 = .ok (.iconst 1, 1) := by decide +kernel
theorem dX3_play_48 : decode cX3_play 48 = .ok (.iload_n 2, 1) := by decide +kernel
theorem dX3_play_49 : decode cX3_play 49 = .ok (.ishl, 1) := by decide +kernel
theorem dX3_play_50 : decode cX3_play 50 = .ok (.istore 4, 2) := by decide +kernel
theorem dX3_play_52 : decode cX3_play 52 = .ok (.iload_n 2, 1) := by decide +kernel
theorem dX3_play_53 : decode cX3_play 53 = .ok (.istore 5, 2) := by decide +kernel
theorem dX3_play_55 : decode cX3_play 55 = .ok (.aload_n 0, 1) := by decide +kernel
theorem dX3_play_56 : decode cX3_play 56 = .ok (.getfield 30, 3) := by decide +kernel
theorem dX3_play_59 : decode cX3_play 59 = .ok (.iload 5, 2) := by decide +kernel
theorem dX3_play_61 : decode cX3_play 61 = .ok (.iaload, 1) := by decide +kernel
theorem dX3_play_62 : decode cX3_play 62 = .ok (.ifCond .eq 91, 3) := by decide +kernel
theorem dX3_play_65 : decode cX3_play 65 = .ok (.aload_n 0, 1) := by decide +kernel
theorem dX3_play_66 : decode cX3_play 66 = .ok (.aload_n 0, 1) := by decide +kernel
theorem dX3_play_67 : decode cX3_play 67 = .ok (.iload 5, 2) := by decide +kernel
theorem dX3_play_69 : decode cX3_play 69 = .ok (.invokevirtual 45, 3) := by decide +kernel
theorem dX3_play_72 : decode cX3_play 72 = .ok (.iload_n 1, 1) := by decide +kernel
theorem dX3_play_73 : decode cX3_play 73 = .ok (.if_icmp .ne 7, 3) := by decide +kernel
theorem dX3_play_76 : decode cX3_play 76 = .ok (.iconst 0, 1) := by decide +kernel
theorem dX3_play_77 : decode cX3_play 77 = .ok (.goto 4, 3) := by decide +kernel
theorem dX3_play_80 : decode cX3_play 80 = .ok (.iconst 1, 1) := by decide +kernel
theorem dX3_play_81 : decode cX3_play 81 = .ok (.aload_n 0, 1) := by decide +kernel
theorem dX3_play_82 : decode cX3_play 82 = .ok (.iload 5, 2) := by decide +kernel
theorem dX3_play_84 : decode cX3_play 84 = .ok (.invokevirtual 45, 3) := by decide +kernel
theorem dX3_play_87 : decode cX3_play 87 = .ok (.iload 5, 2) := by decide +kernel
theorem dX3_play_89 : decode cX3_play 89 = .ok (.invokevirtual 117, 3) := by decide +kernel
theorem dX3_play_92 : decode cX3_play 92 = .ok (.istore 6, 2) := by decide +kernel
theorem dX3_play_94 : decode cX3_play 94 = .ok (.iload 6, 2) := by decide +kernel
theorem dX3_play_96 : decode cX3_play 96 = .ok (.ifCond .ge 16, 3) := by decide +kernel
theorem dX3_play_99 : decode cX3_play 99 = .ok (.aload_n 0, 1) := by decide +kernel
theorem dX3_play_100 : decode cX3_play 100 = .ok (.getfield 30, 3) := by decide +kernel
theorem dX3_play_103 : decode cX3_play 103 = .ok (.iload 5, 2) := by decide +kernel
theorem dX3_play_105 : decode cX3_play 105 = .ok (.iaload, 1) := by decide +kernel
theorem dX3_play_106 : decode cX3_play 106 = .ok (.invokestatic 153, 3) := by decide +kernel
theorem dX3_play_109 : decode cX3_play 109 = .ok (.goto 5, 3) := by decide +kernel
theorem dX3_play_112 : decode cX3_play 112 = .ok (.iload 6, 2) := by decide +kernel
theorem dX3_play_114 : decode cX3_play 114 = .ok (.istore 5, 2) := by decide +kernel
theorem dX3_play_116 : decode cX3_play 116 = .ok (.aload_n 3, 1) := by decide +kernel
theorem dX3_play_117 : decode cX3_play 117 = .ok (.ldc 156, 2) := by decide +kernel
theorem dX3_play_119 : decode cX3_play 119 = .ok (.invokevirtual 139, 3) := by decide +kernel
theorem dX3_play_122 : decode cX3_play 122 = .ok (.iload 5, 2) := by decide +kernel
theorem dX3_play_124 : decode cX3_play 124 = .ok (.invokevirtual 143, 3) := by decide +kernel
theorem dX3_play_127 : decode cX3_play 127 = .ok (.pop, 1) := by decide +kernel
theorem dX3_play_128 : decode cX3_play 128 = .ok (.iload 4, 2) := by decide +kernel
theorem dX3_play_130 : decode cX3_play 130 = .ok (.iload 5, 2) := by decide +kernel
theorem dX3_play_132 : decode cX3_play 132 = .ok (.invokestatic 77, 3) := by decide +kernel
theorem dX3_play_135 : decode cX3_play 135 = .ok (.ifCond .eq 6, 3) := by decide +kernel
theorem dX3_play_138 : decode cX3_play 138 = .ok (.goto 15, 3) := by decide +kernel
theorem dX3_play_141 : decode cX3_play 141 = .ok (.iload 4, 2) := by decide +kernel
theorem dX3_play_143 : decode cX3_play 143 = .ok (.iconst 1, 1) := by decide +kernel
theorem dX3_play_144 : decode cX3_play 144 = .ok (.iload 5, 2) := by decide +kernel
theorem dX3_play_146 : decode cX3_play 146 = .ok (.ishl, 1) := by decide +kernel
theorem dX3_play_147 : decode cX3_play 147 = .ok (.ior, 1) := by decide +kernel
theorem dX3_play_148 : decode cX3_play 148 = .ok (.istore 4, 2) := by decide +kernel
theorem dX3_play_150 : decode cX3_play 150 = .ok (.goto (-95), 3) := by decide +kernel
theorem dX3_play_153 : decode cX3_play 153 = .ok (.aload_n 3, 1) := by decide +kernel
theorem dX3_play_154 : decode cX3_play 154 = .ok (.invokevirtual 146, 3) := by decide +kernel
theorem dX3_play_157 : decode cX3_play 157 = .ok (.areturn, 1) := by decide +kernel
set_option maxRecDepth 20000 in
theorem ggX3_choices_X3_isSide : GoodIn wsX3_choices wsX3_isSide := goodIn_r _ [4] (by decide +kernel) (by decide +kernel)
set_option maxRecDepth 20000 in
theorem gX3_choices_X3_isSide : GoodIn wsX3_choices (va_wsS RX3 108 yX3_isSide wsX3_isSide) := goodIn_app (goodIn_of _ (by decide +kernel)) ggX3_choices_X3_isSide
set_option maxRecDepth 20000 in
theorem ggX3_choices_X3_isThrown_ : GoodIn wsX3_choices wsX3_isThrown_ := goodIn_r _ [8, 9, 10, 11, 3, 12, 13, 32, 33, 34, 35, 36, 37, 38, 39, 40, 41, 42] (by decide +kernel) (by decide +kernel)
set_option maxRecDepth 20000 in
theorem gX3_choices_X3_isThrown_ : GoodIn wsX3_choices (wsV RX3 98 RX3 yX3_isThrown_ wsX3_isThrown_) := goodIn_app (goodIn_of _ (by decide +kernel)) ggX3_choices_X3_isThrown_
set_option maxRecDepth 20000 in
theorem ggX3_choices_X3_choicesOf : GoodIn wsX3_choices wsX3_choicesOf := goodIn_r _ [17, 18, 19, 20, 21, 22, 3, 23, 24, 25, 26, 27, 28, 29, 30, 31, 32, 33, 34, 35, 36, 37, 38, 39, 40, 41, 42] (by decide +kernel) (by decide +kernel)
set_option maxRecDepth 20000 in
theorem gX3_choices_X3_choicesOf : GoodIn wsX3_choices (wsV RX3 158 RX3 yX3_choicesOf wsX3_choicesOf) := goodIn_app (goodIn_of _ (by decide +kernel)) ggX3_choices_X3_choicesOf
theorem dX3_choices_0 : decode cX3_choices 0 = .ok (.aload_n 0, 1) := by decide +kernel
theorem dX3_choices_1 : decode cX3_choices 1 = .ok (.iload_n 1, 1) := by decide +kernel
theorem dX3_choices_2 : decode cX3_choices 2 = .ok (.invokestatic 108, 3) := by decide +kernel
theorem dX3_choices_5 : decode cX3_choices 5 = .ok (.ifCond .ne 7, 3) := by decide +kernel
theorem dX3_choices_8 : decode cX3_choices 8 = .ok (.iconst 1, 1) := by decide +kernel
theorem dX3_choices_9 : decode cX3_choices 9 = .ok (.goto 4, 3) := by decide +kernel
theorem dX3_choices_12 : decode cX3_choices 12 = .ok (.iconst 0, 1) := by decide +kernel
theorem dX3_choices_13 : decode cX3_choices 13 = .ok (.invokevirtual 98, 3) := by decide +kernel
theorem dX3_choices_16 : decode cX3_choices 16 = .ok (.ifCond .eq 7, 3) := by decide +kernel
theorem dX3_choices_19 : decode cX3_choices 19 = .ok (.iconst 0, 1) := by decide +kernel
theorem dX3_choices_20 : decode cX3_choices 20 = .ok (.goto 8, 3) := by decide +kernel
theorem dX3_choices_23 : decode cX3_choices 23 = .ok (.aload_n 0, 1) := by decide +kernel
theorem dX3_choices_24 : decode cX3_choices 24 = .ok (.iload_n 1, 1) := by decide +kernel
theorem dX3_choices_25 : decode cX3_choices 25 = .ok (.invokevirtual 158, 3) := by decide +kernel
theorem dX3_choices_28 : decode cX3_choices 28 = .ok (.ireturn, 1) := by decide +kernel
set_option maxRecDepth 20000 in
theorem ggX3_tried_X3_isSide : GoodIn wsX3_tried wsX3_isSide := goodIn_r _ [4] (by decide +kernel) (by decide +kernel)
set_option maxRecDepth 20000 in
theorem gX3_tried_X3_isSide : GoodIn wsX3_tried (va_wsS RX3 108 yX3_isSide wsX3_isSide) := goodIn_app (goodIn_of _ (by decide +kernel)) ggX3_tried_X3_isSide
set_option maxRecDepth 20000 in
theorem ggX3_tried_X3_isThrown_ : GoodIn wsX3_tried wsX3_isThrown_ := goodIn_r _ [8, 9, 10, 11, 3, 12, 13, 74, 75, 76, 77, 78, 79, 80, 81, 82, 83, 84] (by decide +kernel) (by decide +kernel)
set_option maxRecDepth 20000 in
theorem gX3_tried_X3_isThrown_ : GoodIn wsX3_tried (wsV RX3 98 RX3 yX3_isThrown_ wsX3_isThrown_) := goodIn_app (goodIn_of _ (by decide +kernel)) ggX3_tried_X3_isThrown_
set_option maxRecDepth 20000 in
theorem ggX3_tried_X3_choicesOf : GoodIn wsX3_tried wsX3_choicesOf := goodIn_r _ [17, 18, 19, 20, 21, 22, 3, 23, 24, 25, 26, 27, 28, 29, 30, 31, 74, 75, 76, 77, 78, 79, 80, 81, 82, 83, 84] (by decide +kernel) (by decide +kernel)
set_option maxRecDepth 20000 in
theorem gX3_tried_X3_choicesOf : GoodIn wsX3_tried (wsV RX3 158 RX3 yX3_choicesOf wsX3_choicesOf) := goodIn_app (goodIn_of _ (by decide +kernel)) ggX3_tried_X3_choicesOf
set_option maxRecDepth 20000 in
theorem ggX3_tried_X3_wonIn : GoodIn wsX3_tried wsX3_wonIn := goodIn_r _ [35, 36, 37, 38, 3, 39, 40, 41, 42, 43, 44, 45, 46, 47, 48, 18, 19, 20, 21, 22, 23, 24, 49, 50, 51, 52, 53, 54, 55, 56, 57, 58, 59, 60, 61, 62, 63, 64, 65, 66, 67, 68, 69, 70, 71, 72, 73, 74, 75, 76, 77, 78, 79, 80, 81, 82, 83, 84] (by decide +kernel) (by decide +kernel)
set_option maxRecDepth 20000 in
theorem gX3_tried_X3_wonIn : GoodIn wsX3_tried (wsV RX3 81 RX3 yX3_wonIn wsX3_wonIn) := goodIn_app (goodIn_of _ (by decide +kernel)) ggX3_tried_X3_wonIn
theorem dX3_tried_0 : decode cX3_tried 0 = .ok (.aload_n 0, 1) := by decide +kernel
theorem dX3_tried_1 : decode cX3_tried 1 = .ok (.iload_n 1, 1) := by decide +kernel
theorem dX3_tried_2 : decode cX3_tried 2 = .ok (.ifCond .lt 15, 3) := by decide +kernel
theorem dX3_tried_5 : decode cX3_tried 5 = .ok (.iload_n 1, 1) := by decide +kernel
theorem dX3_tried_6 : decode cX3_tried 6 = .ok (.iconst 3, 1) := by decide +kernel
theorem dX3_tried_7 : decode cX3_tried 7 = .ok (.if_icmp .gt 10, 3) := by decide +kernel
theorem dX3_tried_10 : decode cX3_tried 10 = .ok (.iload_n 2, 1) := by decide +kernel
theorem dX3_tried_11 : decode cX3_tried 11 = .ok (.invokestatic 108, 3) := by decide +kernel
theorem dX3_tried_14 : decode cX3_tried 14 = .ok (.ifCond .ne 7, 3) := by decide +kernel
theorem dX3_tried_17 : decode cX3_tried 17 = .ok (.iconst 1, 1) := by decide +kernel
theorem dX3_tried_18 : decode cX3_tried 18 = .ok (.goto 4, 3) := by decide +kernel
theorem dX3_tried_21 : decode cX3_tried 21 = .ok (.iconst 0, 1) := by decide +kernel
theorem dX3_tried_22 : decode cX3_tried 22 = .ok (.invokevirtual 98, 3) := by decide +kernel
theorem dX3_tried_25 : decode cX3_tried 25 = .ok (.ifCond .eq 5, 3) := by decide +kernel
theorem dX3_tried_28 : decode cX3_tried 28 = .ok (.iconst 0, 1) := by decide +kernel
theorem dX3_tried_29 : decode cX3_tried 29 = .ok (.ireturn, 1) := by decide +kernel
theorem dX3_tried_30 : decode cX3_tried 30 = .ok (.aload_n 0, 1) := by decide +kernel
theorem dX3_tried_31 : decode cX3_tried 31 = .ok (.iload_n 2, 1) := by decide +kernel
theorem dX3_tried_32 : decode cX3_tried 32 = .ok (.invokevirtual 158, 3) := by decide +kernel
theorem dX3_tried_35 : decode cX3_tried 35 = .ok (.bipush 64, 2) := by decide +kernel
theorem dX3_tried_37 : decode cX3_tried 37 = .ok (.if_icmp .le 8, 3) := by decide +kernel
theorem dX3_tried_40 : decode cX3_tried 40 = .ok (.bipush (-9), 2) := by decide +kernel
theorem dX3_tried_42 : decode cX3_tried 42 = .ok (.goto 9, 3) := by decide +kernel
theorem dX3_tried_45 : decode cX3_tried 45 = .ok (.aload_n 0, 1) := by decide +kernel
theorem dX3_tried_46 : decode cX3_tried 46 = .ok (.iload_n 1, 1) := by decide +kernel
theorem dX3_tried_47 : decode cX3_tried 47 = .ok (.iload_n 2, 1) := by decide +kernel
theorem dX3_tried_48 : decode cX3_tried 48 = .ok (.invokevirtual 81, 3) := by decide +kernel
theorem dX3_tried_51 : decode cX3_tried 51 = .ok (.ireturn, 1) := by decide +kernel
set_option maxRecDepth 20000 in
theorem ggX3_withGoal_X3_isPlace : GoodIn wsX3_withGoal wsX3_isPlace := goodIn_r _ [6, 7, 63, 64, 65, 66, 67, 68, 69, 70, 71, 72, 73] (by decide +kernel) (by decide +kernel)
set_option maxRecDepth 20000 in
theorem gX3_withGoal_X3_isPlace : GoodIn wsX3_withGoal (wsV RX3 104 RX3 yX3_isPlace wsX3_isPlace) := goodIn_app (goodIn_of _ (by decide +kernel)) ggX3_withGoal_X3_isPlace
set_option maxRecDepth 20000 in
theorem ggX3_withGoal_X3_isSide : GoodIn wsX3_withGoal wsX3_isSide := goodIn_r _ [10] (by decide +kernel) (by decide +kernel)
set_option maxRecDepth 20000 in
theorem gX3_withGoal_X3_isSide : GoodIn wsX3_withGoal (va_wsS RX3 108 yX3_isSide wsX3_isSide) := goodIn_app (goodIn_of _ (by decide +kernel)) ggX3_withGoal_X3_isSide
set_option maxRecDepth 20000 in
theorem ggX3_withGoal_X3_isThrown : GoodIn wsX3_withGoal wsX3_isThrown := goodIn_r _ [14, 15, 63, 64, 65, 66, 67, 68, 69, 70, 71, 72, 73] (by decide +kernel) (by decide +kernel)
set_option maxRecDepth 20000 in
theorem gX3_withGoal_X3_isThrown : GoodIn wsX3_withGoal (wsV RX3 88 RX3 yX3_isThrown wsX3_isThrown) := goodIn_app (goodIn_of _ (by decide +kernel)) ggX3_withGoal_X3_isThrown
set_option maxRecDepth 20000 in
theorem ggX3_withGoal_X3_wonIn : GoodIn wsX3_withGoal wsX3_wonIn := goodIn_r _ [19, 20, 21, 22, 5, 23, 1, 24, 25, 26, 27, 28, 29, 30, 31, 7, 32, 33, 34, 35, 36, 37, 38, 39, 40, 41, 42, 43, 44, 45, 46, 47, 48, 49, 50, 51, 52, 53, 54, 55, 56, 57, 58, 59, 60, 61, 62, 63, 64, 65, 66, 67, 68, 69, 70, 71, 72, 73] (by decide +kernel) (by decide +kernel)
set_option maxRecDepth 20000 in
theorem gX3_withGoal_X3_wonIn : GoodIn wsX3_withGoal (wsV RX3 81 RX3 yX3_wonIn wsX3_wonIn) := goodIn_app (goodIn_of _ (by decide +kernel)) ggX3_withGoal_X3_wonIn
theorem dX3_withGoal_0 : decode cX3_withGoal 0 = .ok (.aload_n 0, 1) := by decide +kernel
theorem dX3_withGoal_1 : decode cX3_withGoal 1 = .ok (.aload_n 0, 1) := by decide +kernel
theorem dX3_withGoal_2 : decode cX3_withGoal 2 = .ok (.iload_n 3, 1) := by decide +kernel
theorem dX3_withGoal_3 : decode cX3_withGoal 3 = .ok (.invokevirtual 104, 3) := by decide +kernel
theorem dX3_withGoal_6 : decode cX3_withGoal 6 = .ok (.ifCond .ne 7, 3) := by decide +kernel
theorem dX3_withGoal_9 : decode cX3_withGoal 9 = .ok (.iconst 1, 1) := by decide +kernel
theorem dX3_withGoal_10 : decode cX3_withGoal 10 = .ok (.goto 4, 3) := by decide +kernel
theorem dX3_withGoal_13 : decode cX3_withGoal 13 = .ok (.iconst 0, 1) := by decide +kernel
theorem dX3_withGoal_14 : decode cX3_withGoal 14 = .ok (.iload_n 1, 1) := by decide +kernel
theorem dX3_withGoal_15 : decode cX3_withGoal 15 = .ok (.ifCond .lt 15, 3) := by decide +kernel
theorem dX3_withGoal_18 : decode cX3_withGoal 18 = .ok (.iload_n 1, 1) := by decide +kernel
theorem dX3_withGoal_19 : decode cX3_withGoal 19 = .ok (.iconst 1, 1) := by decide +kernel
theorem dX3_withGoal_20 : decode cX3_withGoal 20 = .ok (.if_icmp .gt 10, 3) := by decide +kernel
theorem dX3_withGoal_23 : decode cX3_withGoal 23 = .ok (.iload_n 2, 1) := by decide +kernel
theorem dX3_withGoal_24 : decode cX3_withGoal 24 = .ok (.invokestatic 108, 3) := by decide +kernel
theorem dX3_withGoal_27 : decode cX3_withGoal 27 = .ok (.ifCond .ne 7, 3) := by decide +kernel
theorem dX3_withGoal_30 : decode cX3_withGoal 30 = .ok (.iconst 1, 1) := by decide +kernel
theorem dX3_withGoal_31 : decode cX3_withGoal 31 = .ok (.goto 4, 3) := by decide +kernel
theorem dX3_withGoal_34 : decode cX3_withGoal 34 = .ok (.iconst 0, 1) := by decide +kernel
theorem dX3_withGoal_35 : decode cX3_withGoal 35 = .ok (.invokevirtual 88, 3) := by decide +kernel
theorem dX3_withGoal_38 : decode cX3_withGoal 38 = .ok (.ifCond .eq 5, 3) := by decide +kernel
theorem dX3_withGoal_41 : decode cX3_withGoal 41 = .ok (.iconst 0, 1) := by decide +kernel
theorem dX3_withGoal_42 : decode cX3_withGoal 42 = .ok (.ireturn, 1) := by decide +kernel
theorem dX3_withGoal_43 : decode cX3_withGoal 43 = .ok (.aload_n 0, 1) := by decide +kernel
theorem dX3_withGoal_44 : decode cX3_withGoal 44 = .ok (.getfield 23, 3) := by decide +kernel
theorem dX3_withGoal_47 : decode cX3_withGoal 47 = .ok (.istore 4, 2) := by decide +kernel
theorem dX3_withGoal_49 : decode cX3_withGoal 49 = .ok (.aload_n 0, 1) := by decide +kernel
theorem dX3_withGoal_50 : decode cX3_withGoal 50 = .ok (.dup, 1) := by decide +kernel
theorem dX3_withGoal_51 : decode cX3_withGoal 51 = .ok (.getfield 23, 3) := by decide +kernel
theorem dX3_withGoal_54 : decode cX3_withGoal 54 = .ok (.iconst 1, 1) := by decide +kernel
theorem dX3_withGoal_55 : decode cX3_withGoal 55 = .ok (.iload_n 3, 1) := by decide +kernel
theorem dX3_withGoal_56 : decode cX3_withGoal 56 = .ok (.ishl, 1) := by decide +kernel
theorem dX3_withGoal_57 : decode cX3_withGoal 57 = .ok (.ior, 1) := by decide +kernel
theorem dX3_withGoal_58 : decode cX3_withGoal 58 = .ok (.putfield 23, 3) := by decide +kernel
theorem dX3_withGoal_61 : decode cX3_withGoal 61 = .ok (.aload_n 0, 1) := by decide +kernel
theorem dX3_withGoal_62 : decode cX3_withGoal 62 = .ok (.iconst 2, 1) := by decide +kernel
theorem dX3_withGoal_63 : decode cX3_withGoal 63 = .ok (.iload_n 1, 1) := by decide +kernel
theorem dX3_withGoal_64 : decode cX3_withGoal 64 = .ok (.imul, 1) := by decide +kernel
theorem dX3_withGoal_65 : decode cX3_withGoal 65 = .ok (.iload_n 2, 1) := by decide +kernel
theorem dX3_withGoal_66 : decode cX3_withGoal 66 = .ok (.invokevirtual 81, 3) := by decide +kernel
theorem dX3_withGoal_69 : decode cX3_withGoal 69 = .ok (.istore 5, 2) := by decide +kernel
theorem dX3_withGoal_71 : decode cX3_withGoal 71 = .ok (.aload_n 0, 1) := by decide +kernel
theorem dX3_withGoal_72 : decode cX3_withGoal 72 = .ok (.iload 4, 2) := by decide +kernel
theorem dX3_withGoal_74 : decode cX3_withGoal 74 = .ok (.putfield 23, 3) := by decide +kernel
theorem dX3_withGoal_77 : decode cX3_withGoal 77 = .ok (.iload 5, 2) := by decide +kernel
theorem dX3_withGoal_79 : decode cX3_withGoal 79 = .ok (.ireturn, 1) := by decide +kernel
set_option maxRecDepth 20000 in
theorem ggX3_withWay_X3_isPlace : GoodIn wsX3_withWay wsX3_isPlace := goodIn_r _ [6, 7, 63, 64, 65, 66, 67, 68, 69, 70, 71, 72, 73] (by decide +kernel) (by decide +kernel)
set_option maxRecDepth 20000 in
theorem gX3_withWay_X3_isPlace : GoodIn wsX3_withWay (wsV RX3 104 RX3 yX3_isPlace wsX3_isPlace) := goodIn_app (goodIn_of _ (by decide +kernel)) ggX3_withWay_X3_isPlace
set_option maxRecDepth 20000 in
theorem ggX3_withWay_X3_isSide : GoodIn wsX3_withWay wsX3_isSide := goodIn_r _ [10] (by decide +kernel) (by decide +kernel)
set_option maxRecDepth 20000 in
theorem gX3_withWay_X3_isSide : GoodIn wsX3_withWay (va_wsS RX3 108 yX3_isSide wsX3_isSide) := goodIn_app (goodIn_of _ (by decide +kernel)) ggX3_withWay_X3_isSide
set_option maxRecDepth 20000 in
theorem ggX3_withWay_X3_isThrown : GoodIn wsX3_withWay wsX3_isThrown := goodIn_r _ [14, 15, 63, 64, 65, 66, 67, 68, 69, 70, 71, 72, 73] (by decide +kernel) (by decide +kernel)
set_option maxRecDepth 20000 in
theorem gX3_withWay_X3_isThrown : GoodIn wsX3_withWay (wsV RX3 88 RX3 yX3_isThrown wsX3_isThrown) := goodIn_app (goodIn_of _ (by decide +kernel)) ggX3_withWay_X3_isThrown
set_option maxRecDepth 20000 in
theorem ggX3_withWay_X3_wonIn : GoodIn wsX3_withWay wsX3_wonIn := goodIn_r _ [19, 20, 21, 22, 5, 23, 24, 25, 26, 27, 28, 29, 30, 31, 32, 7, 1, 33, 34, 35, 36, 37, 38, 39, 40, 41, 42, 43, 44, 45, 46, 47, 48, 49, 50, 51, 52, 53, 54, 55, 56, 57, 58, 59, 60, 61, 62, 63, 64, 65, 66, 67, 68, 69, 70, 71, 72, 73] (by decide +kernel) (by decide +kernel)
set_option maxRecDepth 20000 in
theorem gX3_withWay_X3_wonIn : GoodIn wsX3_withWay (wsV RX3 81 RX3 yX3_wonIn wsX3_wonIn) := goodIn_app (goodIn_of _ (by decide +kernel)) ggX3_withWay_X3_wonIn
theorem dX3_withWay_0 : decode cX3_withWay 0 = .ok (.aload_n 0, 1) := by decide +kernel
theorem dX3_withWay_1 : decode cX3_withWay 1 = .ok (.aload_n 0, 1) := by decide +kernel
theorem dX3_withWay_2 : decode cX3_withWay 2 = .ok (.iload_n 3, 1) := by decide +kernel
theorem dX3_withWay_3 : decode cX3_withWay 3 = .ok (.invokevirtual 104, 3) := by decide +kernel
theorem dX3_withWay_6 : decode cX3_withWay 6 = .ok (.ifCond .eq 12, 3) := by decide +kernel
theorem dX3_withWay_9 : decode cX3_withWay 9 = .ok (.aload_n 0, 1) := by decide +kernel
theorem dX3_withWay_10 : decode cX3_withWay 10 = .ok (.iload 4, 2) := by decide +kernel
theorem dX3_withWay_12 : decode cX3_withWay 12 = .ok (.invokevirtual 104, 3) := by decide +kernel
theorem dX3_withWay_15 : decode cX3_withWay 15 = .ok (.ifCond .ne 7, 3) := by decide +kernel
theorem dX3_withWay_18 : decode cX3_withWay 18 = .ok (.iconst 1, 1) := by decide +kernel
theorem dX3_withWay_19 : decode cX3_withWay 19 = .ok (.goto 4, 3) := by decide +kernel
theorem dX3_withWay_22 : decode cX3_withWay 22 = .ok (.iconst 0, 1) := by decide +kernel
theorem dX3_withWay_23 : decode cX3_withWay 23 = .ok (.iload_n 1, 1) := by decide +kernel
theorem dX3_withWay_24 : decode cX3_withWay 24 = .ok (.ifCond .lt 15, 3) := by decide +kernel
theorem dX3_withWay_27 : decode cX3_withWay 27 = .ok (.iload_n 1, 1) := by decide +kernel
theorem dX3_withWay_28 : decode cX3_withWay 28 = .ok (.iconst 3, 1) := by decide +kernel
theorem dX3_withWay_29 : decode cX3_withWay 29 = .ok (.if_icmp .gt 10, 3) := by decide +kernel
theorem dX3_withWay_32 : decode cX3_withWay 32 = .ok (.iload_n 2, 1) := by decide +kernel
theorem dX3_withWay_33 : decode cX3_withWay 33 = .ok (.invokestatic 108, 3) := by decide +kernel
theorem dX3_withWay_36 : decode cX3_withWay 36 = .ok (.ifCond .ne 7, 3) := by decide +kernel
theorem dX3_withWay_39 : decode cX3_withWay 39 = .ok (.iconst 1, 1) := by decide +kernel
theorem dX3_withWay_40 : decode cX3_withWay 40 = .ok (.goto 4, 3) := by decide +kernel
theorem dX3_withWay_43 : decode cX3_withWay 43 = .ok (.iconst 0, 1) := by decide +kernel
theorem dX3_withWay_44 : decode cX3_withWay 44 = .ok (.invokevirtual 88, 3) := by decide +kernel
theorem dX3_withWay_47 : decode cX3_withWay 47 = .ok (.ifCond .eq 5, 3) := by decide +kernel
theorem dX3_withWay_50 : decode cX3_withWay 50 = .ok (.iconst 0, 1) := by decide +kernel
theorem dX3_withWay_51 : decode cX3_withWay 51 = .ok (.ireturn, 1) := by decide +kernel
theorem dX3_withWay_52 : decode cX3_withWay 52 = .ok (.aload_n 0, 1) := by decide +kernel
theorem dX3_withWay_53 : decode cX3_withWay 53 = .ok (.getfield 30, 3) := by decide +kernel
theorem dX3_withWay_56 : decode cX3_withWay 56 = .ok (.iload_n 3, 1) := by decide +kernel
theorem dX3_withWay_57 : decode cX3_withWay 57 = .ok (.iaload, 1) := by decide +kernel
theorem dX3_withWay_58 : decode cX3_withWay 58 = .ok (.istore 5, 2) := by decide +kernel
theorem dX3_withWay_60 : decode cX3_withWay 60 = .ok (.aload_n 0, 1) := by decide +kernel
theorem dX3_withWay_61 : decode cX3_withWay 61 = .ok (.getfield 30, 3) := by decide +kernel
theorem dX3_withWay_64 : decode cX3_withWay 64 = .ok (.iload_n 3, 1) := by decide +kernel
theorem dX3_withWay_65 : decode cX3_withWay 65 = .ok (.dup2, 1) := by decide +kernel
theorem dX3_withWay_66 : decode cX3_withWay 66 = .ok (.iaload, 1) := by decide +kernel
theorem dX3_withWay_67 : decode cX3_withWay 67 = .ok (.iconst 1, 1) := by decide +kernel
theorem dX3_withWay_68 : decode cX3_withWay 68 = .ok (.iload 4, 2) := by decide +kernel
theorem dX3_withWay_70 : decode cX3_withWay 70 = .ok (.ishl, 1) := by decide +kernel
theorem dX3_withWay_71 : decode cX3_withWay 71 = .ok (.ior, 1) := by decide +kernel
theorem dX3_withWay_72 : decode cX3_withWay 72 = .ok (.iastore, 1) := by decide +kernel
theorem dX3_withWay_73 : decode cX3_withWay 73 = .ok (.aload_n 0, 1) := by decide +kernel
theorem dX3_withWay_74 : decode cX3_withWay 74 = .ok (.iload_n 1, 1) := by decide +kernel
theorem dX3_withWay_75 : decode cX3_withWay 75 = .ok (.iload_n 2, 1) := by decide +kernel
theorem dX3_withWay_76 : decode cX3_withWay 76 = .ok (.invokevirtual 81, 3) := by decide +kernel
theorem dX3_withWay_79 : decode cX3_withWay 79 = .ok (.istore 6, 2) := by decide +kernel
theorem dX3_withWay_81 : decode cX3_withWay 81 = .ok (.aload_n 0, 1) := by decide +kernel
theorem dX3_withWay_82 : decode cX3_withWay 82 = .ok (.getfield 30, 3) := by decide +kernel
theorem dX3_withWay_85 : decode cX3_withWay 85 = .ok (.iload_n 3, 1) := by decide +kernel
theorem dX3_withWay_86 : decode cX3_withWay 86 = .ok (.iload 5, 2) := by decide +kernel
theorem dX3_withWay_88 : decode cX3_withWay 88 = .ok (.iastore, 1) := by decide +kernel
theorem dX3_withWay_89 : decode cX3_withWay 89 = .ok (.iload 6, 2) := by decide +kernel
theorem dX3_withWay_91 : decode cX3_withWay 91 = .ok (.ireturn, 1) := by decide +kernel
set_option maxRecDepth 20000 in
theorem ggX3_house_X3_isThrown_ : GoodIn wsX3_house wsX3_isThrown_ := goodIn_r _ [8, 9, 10, 11, 7, 12, 13, 14, 15, 16, 17, 18, 19, 20, 21, 22, 23, 24] (by decide +kernel) (by decide +kernel)
set_option maxRecDepth 20000 in
theorem gX3_house_X3_isThrown_ : GoodIn wsX3_house (wsV RX3 98 RX3 yX3_isThrown_ wsX3_isThrown_) := goodIn_app (goodIn_of _ (by decide +kernel)) ggX3_house_X3_isThrown_
theorem dX3_house_0 : decode cX3_house 0 = .ok (.aload_n 0, 1) := by decide +kernel
theorem dX3_house_1 : decode cX3_house 1 = .ok (.iload_n 1, 1) := by decide +kernel
theorem dX3_house_2 : decode cX3_house 2 = .ok (.ifCond .lt 8, 3) := by decide +kernel
theorem dX3_house_5 : decode cX3_house 5 = .ok (.iload_n 1, 1) := by decide +kernel
theorem dX3_house_6 : decode cX3_house 6 = .ok (.iconst 2, 1) := by decide +kernel
theorem dX3_house_7 : decode cX3_house 7 = .ok (.if_icmp .le 7, 3) := by decide +kernel
theorem dX3_house_10 : decode cX3_house 10 = .ok (.iconst 1, 1) := by decide +kernel
theorem dX3_house_11 : decode cX3_house 11 = .ok (.goto 4, 3) := by decide +kernel
theorem dX3_house_14 : decode cX3_house 14 = .ok (.iconst 0, 1) := by decide +kernel
theorem dX3_house_15 : decode cX3_house 15 = .ok (.invokevirtual 98, 3) := by decide +kernel
theorem dX3_house_18 : decode cX3_house 18 = .ok (.ifCond .eq 7, 3) := by decide +kernel
theorem dX3_house_21 : decode cX3_house 21 = .ok (.iconst 0, 1) := by decide +kernel
theorem dX3_house_22 : decode cX3_house 22 = .ok (.goto 30, 3) := by decide +kernel
theorem dX3_house_25 : decode cX3_house 25 = .ok (.iload_n 1, 1) := by decide +kernel
theorem dX3_house_26 : decode cX3_house 26 = .ok (.ifCond .ne 10, 3) := by decide +kernel
theorem dX3_house_29 : decode cX3_house 29 = .ok (.aload_n 0, 1) := by decide +kernel
theorem dX3_house_30 : decode cX3_house 30 = .ok (.getfield 92, 3) := by decide +kernel
theorem dX3_house_33 : decode cX3_house 33 = .ok (.goto 19, 3) := by decide +kernel
theorem dX3_house_36 : decode cX3_house 36 = .ok (.iload_n 1, 1) := by decide +kernel
theorem dX3_house_37 : decode cX3_house 37 = .ok (.iconst 1, 1) := by decide +kernel
theorem dX3_house_38 : decode cX3_house 38 = .ok (.if_icmp .ne 10, 3) := by decide +kernel
theorem dX3_house_41 : decode cX3_house 41 = .ok (.aload_n 0, 1) := by decide +kernel
theorem dX3_house_42 : decode cX3_house 42 = .ok (.getfield 95, 3) := by decide +kernel
theorem dX3_house_45 : decode cX3_house 45 = .ok (.goto 7, 3) := by decide +kernel
theorem dX3_house_48 : decode cX3_house 48 = .ok (.aload_n 0, 1) := by decide +kernel
theorem dX3_house_49 : decode cX3_house 49 = .ok (.getfield 161, 3) := by decide +kernel
theorem dX3_house_52 : decode cX3_house 52 = .ok (.ireturn, 1) := by decide +kernel
theorem dX3_knock_0 : decode cX3_knock 0 = .ok (.aload_n 0, 1) := by decide +kernel
theorem dX3_knock_1 : decode cX3_knock 1 = .ok (.iconst 0, 1) := by decide +kernel
theorem dX3_knock_2 : decode cX3_knock 2 = .ok (.putfield 13, 3) := by decide +kernel
theorem dX3_knock_5 : decode cX3_knock 5 = .ok (.aload_n 0, 1) := by decide +kernel
