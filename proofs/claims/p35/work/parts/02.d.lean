theorem dX1_play_44 : decode cX1_play 44 = .ok (.invokestatic 69, 3) := by decide +kernel
theorem dX1_play_47 : decode cX1_play 47 = .ok (.ifCond .ne 54, 3) := by decide +kernel
theorem dX1_play_50 : decode cX1_play 50 = .ok (.aload_n 0, 1) := by decide +kernel
theorem dX1_play_51 : decode cX1_play 51 = .ok (.getfield 10, 3) := by decide +kernel
theorem dX1_play_54 : decode cX1_play 54 = .ok (.iload 5, 2) := by decide +kernel
theorem dX1_play_56 : decode cX1_play 56 = .ok (.invokevirtual 66, 3) := by decide +kernel
theorem dX1_play_59 : decode cX1_play 59 = .ok (.ifCond .ne 6, 3) := by decide +kernel
theorem dX1_play_62 : decode cX1_play 62 = .ok (.goto 39, 3) := by decide +kernel
theorem dX1_play_65 : decode cX1_play 65 = .ok (.iload 4, 2) := by decide +kernel
theorem dX1_play_67 : decode cX1_play 67 = .ok (.iconst 1, 1) := by decide +kernel
theorem dX1_play_68 : decode cX1_play 68 = .ok (.iload 5, 2) := by decide +kernel
theorem dX1_play_70 : decode cX1_play 70 = .ok (.ishl, 1) := by decide +kernel
theorem dX1_play_71 : decode cX1_play 71 = .ok (.ior, 1) := by decide +kernel
theorem dX1_play_72 : decode cX1_play 72 = .ok (.istore 4, 2) := by decide +kernel
theorem dX1_play_74 : decode cX1_play 74 = .ok (.aload_n 0, 1) := by decide +kernel
theorem dX1_play_75 : decode cX1_play 75 = .ok (.iload_n 1, 1) := by decide +kernel
theorem dX1_play_76 : decode cX1_play 76 = .ok (.iload 5, 2) := by decide +kernel
theorem dX1_play_78 : decode cX1_play 78 = .ok (.invokevirtual 153, 3) := by decide +kernel
theorem dX1_play_81 : decode cX1_play 81 = .ok (.istore 5, 2) := by decide +kernel
theorem dX1_play_83 : decode cX1_play 83 = .ok (.aload_n 3, 1) := by decide +kernel
theorem dX1_play_84 : decode cX1_play 84 = .ok (.bipush 45, 2) := by decide +kernel
theorem dX1_play_86 : decode cX1_play 86 = .ok (.invokevirtual 126, 3) := by decide +kernel
theorem dX1_play_89 : decode cX1_play 89 = .ok (.iload 5, 2) := by decide +kernel
theorem dX1_play_91 : decode cX1_play 91 = .ok (.invokevirtual 130, 3) := by decide +kernel
theorem dX1_play_94 : decode cX1_play 94 = .ok (.pop, 1) := by decide +kernel
theorem dX1_play_95 : decode cX1_play 95 = .ok (.iinc 6 1, 3) := by decide +kernel
theorem dX1_play_98 : decode cX1_play 98 = .ok (.goto (-65), 3) := by decide +kernel
theorem dX1_play_101 : decode cX1_play 101 = .ok (.aload_n 3, 1) := by decide +kernel
theorem dX1_play_102 : decode cX1_play 102 = .ok (.invokevirtual 133, 3) := by decide +kernel
theorem dX1_play_105 : decode cX1_play 105 = .ok (.areturn, 1) := by decide +kernel
set_option maxRecDepth 20000 in
theorem ggX1_choices_X1_checkSide : GoodIn wsX1_choices wsX1_checkSide := goodIn_ca (goodIn_r _ [5, 6, 7, 4, 8, 9, 10] (by decide +kernel) (by decide +kernel)) (goodIn_sub (fun _ h => List.mem_cons_of_mem _ (List.mem_append_right _ h)) (by decide +kernel))
set_option maxRecDepth 20000 in
theorem gX1_choices_X1_checkSide : GoodIn wsX1_choices (va_wsS RX1 43 yX1_checkSide wsX1_checkSide) := goodIn_app (goodIn_of _ (by decide +kernel)) ggX1_choices_X1_checkSide
set_option maxRecDepth 20000 in
theorem ggX1_choices_X0_countChoices : GoodIn wsX1_choices wsX0_countChoices := goodIn_r _ [15, 16, 17, 18, 19, 14, 20, 21, 22, 23, 24, 25, 26, 27, 28, 29, 30, 31, 32, 33, 41, 42, 43, 44, 45, 46] (by decide +kernel) (by decide +kernel)
set_option maxRecDepth 20000 in
theorem gX1_choices_X0_countChoices : GoodIn wsX1_choices (wsV RX1 156 RX0 yX0_countChoices wsX0_countChoices) := goodIn_app (goodIn_of _ (by decide +kernel)) ggX1_choices_X0_countChoices
theorem dX1_choices_0 : decode cX1_choices 0 = .ok (.iload_n 1, 1) := by decide +kernel
theorem dX1_choices_1 : decode cX1_choices 1 = .ok (.invokestatic 43, 3) := by decide +kernel
theorem dX1_choices_4 : decode cX1_choices 4 = .ok (.aload_n 0, 1) := by decide +kernel
theorem dX1_choices_5 : decode cX1_choices 5 = .ok (.getfield 10, 3) := by decide +kernel
theorem dX1_choices_8 : decode cX1_choices 8 = .ok (.iload_n 1, 1) := by decide +kernel
theorem dX1_choices_9 : decode cX1_choices 9 = .ok (.invokevirtual 156, 3) := by decide +kernel
theorem dX1_choices_12 : decode cX1_choices 12 = .ok (.ireturn, 1) := by decide +kernel
set_option maxRecDepth 20000 in
theorem ggX1_tried_X1_checkBetween : GoodIn wsX1_tried wsX1_checkBetween := goodIn_ca (goodIn_r _ [6, 7, 8] (by decide +kernel) (by decide +kernel)) (goodIn_sub (fun _ h => List.mem_cons_of_mem _ (List.mem_append_right _ h)) (by decide +kernel))
set_option maxRecDepth 20000 in
theorem gX1_tried_X1_checkBetween : GoodIn wsX1_tried (va_wsS RX1 19 yX1_checkBetween wsX1_checkBetween) := goodIn_app (goodIn_of _ (by decide +kernel)) ggX1_tried_X1_checkBetween
set_option maxRecDepth 20000 in
theorem ggX1_tried_X1_checkSide : GoodIn wsX1_tried wsX1_checkSide := goodIn_ca (goodIn_r _ [11, 3, 4, 5, 6, 7, 8] (by decide +kernel) (by decide +kernel)) (goodIn_sub (fun _ h => List.mem_cons_of_mem _ (List.mem_append_right _ h)) (by decide +kernel))
set_option maxRecDepth 20000 in
theorem gX1_tried_X1_checkSide : GoodIn wsX1_tried (va_wsS RX1 43 yX1_checkSide wsX1_checkSide) := goodIn_app (goodIn_of _ (by decide +kernel)) ggX1_tried_X1_checkSide
set_option maxRecDepth 20000 in
theorem ggX1_tried_X0_countChoices : GoodIn wsX1_tried wsX0_countChoices := goodIn_r _ [16, 17, 18, 19, 20, 15, 21, 22, 23, 24, 25, 26, 27, 28, 29, 30, 31, 32, 33, 34, 94, 95, 96, 97, 98, 99] (by decide +kernel) (by decide +kernel)
set_option maxRecDepth 20000 in
theorem gX1_tried_X0_countChoices : GoodIn wsX1_tried (wsV RX1 156 RX0 yX0_countChoices wsX0_countChoices) := goodIn_app (goodIn_of _ (by decide +kernel)) ggX1_tried_X0_countChoices
set_option maxRecDepth 20000 in
theorem ggX1_tried_X1_layChoices : GoodIn wsX1_tried wsX1_layChoices := goodIn_r _ [38, 2, 1, 39, 40, 41, 15, 42, 17, 34, 43, 44, 45, 22, 18, 19, 20, 21, 46, 47, 24, 25, 26, 27, 28, 29, 48, 31, 32, 33, 49, 50, 5, 51, 52, 53, 54, 55, 56, 57, 58, 87, 88, 89, 90, 91, 92, 93, 94, 95, 96, 97, 98, 99] (by decide +kernel) (by decide +kernel)
set_option maxRecDepth 20000 in
theorem gX1_tried_X1_layChoices : GoodIn wsX1_tried (wsV RX1 159 RX1 yX1_layChoices wsX1_layChoices) := goodIn_app (goodIn_of _ (by decide +kernel)) ggX1_tried_X1_layChoices
set_option maxRecDepth 20000 in
theorem ggX1_tried_X0_won : GoodIn wsX1_tried wsX0_won := goodIn_r _ [62, 43, 63, 64, 65, 15, 66, 67, 68, 69, 70, 17, 22, 34, 71, 72, 73, 74, 75, 76, 77, 78, 79, 80, 81, 82, 44, 45, 83, 84, 85, 86, 94, 95, 96, 97, 98, 99] (by decide +kernel) (by decide +kernel)
set_option maxRecDepth 20000 in
theorem gX1_tried_X0_won : GoodIn wsX1_tried (wsV RX1 141 RX0 yX0_won wsX0_won) := goodIn_app (goodIn_of _ (by decide +kernel)) ggX1_tried_X0_won
theorem dX1_tried_0 : decode cX1_tried 0 = .ok (.iload_n 1, 1) := by decide +kernel
theorem dX1_tried_1 : decode cX1_tried 1 = .ok (.iconst 0, 1) := by decide +kernel
theorem dX1_tried_2 : decode cX1_tried 2 = .ok (.iconst 3, 1) := by decide +kernel
theorem dX1_tried_3 : decode cX1_tried 3 = .ok (.invokestatic 19, 3) := by decide +kernel
theorem dX1_tried_6 : decode cX1_tried 6 = .ok (.iload_n 2, 1) := by decide +kernel
theorem dX1_tried_7 : decode cX1_tried 7 = .ok (.invokestatic 43, 3) := by decide +kernel
theorem dX1_tried_10 : decode cX1_tried 10 = .ok (.aload_n 0, 1) := by decide +kernel
theorem dX1_tried_11 : decode cX1_tried 11 = .ok (.getfield 10, 3) := by decide +kernel
theorem dX1_tried_14 : decode cX1_tried 14 = .ok (.iload_n 2, 1) := by decide +kernel
theorem dX1_tried_15 : decode cX1_tried 15 = .ok (.invokevirtual 156, 3) := by decide +kernel
theorem dX1_tried_18 : decode cX1_tried 18 = .ok (.istore_n 3, 1) := by decide +kernel
theorem dX1_tried_19 : decode cX1_tried 19 = .ok (.iload_n 3, 1) := by decide +kernel
theorem dX1_tried_20 : decode cX1_tried 20 = .ok (.bipush 64, 2) := by decide +kernel
theorem dX1_tried_22 : decode cX1_tried 22 = .ok (.if_icmp .le 6, 3) := by decide +kernel
theorem dX1_tried_25 : decode cX1_tried 25 = .ok (.bipush (-9), 2) := by decide +kernel
theorem dX1_tried_27 : decode cX1_tried 27 = .ok (.ireturn, 1) := by decide +kernel
theorem dX1_tried_28 : decode cX1_tried 28 = .ok (.iconst 0, 1) := by decide +kernel
theorem dX1_tried_29 : decode cX1_tried 29 = .ok (.istore 4, 2) := by decide +kernel
theorem dX1_tried_31 : decode cX1_tried 31 = .ok (.iconst 0, 1) := by decide +kernel
theorem dX1_tried_32 : decode cX1_tried 32 = .ok (.istore 5, 2) := by decide +kernel
theorem dX1_tried_34 : decode cX1_tried 34 = .ok (.iload 5, 2) := by decide +kernel
theorem dX1_tried_36 : decode cX1_tried 36 = .ok (.iload_n 3, 1) := by decide +kernel
theorem dX1_tried_37 : decode cX1_tried 37 = .ok (.if_icmp .ge 30, 3) := by decide +kernel
theorem dX1_tried_40 : decode cX1_tried 40 = .ok (.aload_n 0, 1) := by decide +kernel
theorem dX1_tried_41 : decode cX1_tried 41 = .ok (.iload_n 2, 1) := by decide +kernel
theorem dX1_tried_42 : decode cX1_tried 42 = .ok (.iload 5, 2) := by decide +kernel
theorem dX1_tried_44 : decode cX1_tried 44 = .ok (.invokevirtual 159, 3) := by decide +kernel
theorem dX1_tried_47 : decode cX1_tried 47 = .ok (.iload 4, 2) := by decide +kernel
theorem dX1_tried_49 : decode cX1_tried 49 = .ok (.aload_n 0, 1) := by decide +kernel
theorem dX1_tried_50 : decode cX1_tried 50 = .ok (.getfield 16, 3) := by decide +kernel
theorem dX1_tried_53 : decode cX1_tried 53 = .ok (.iload_n 1, 1) := by decide +kernel
theorem dX1_tried_54 : decode cX1_tried 54 = .ok (.iload_n 2, 1) := by decide +kernel
theorem dX1_tried_55 : decode cX1_tried 55 = .ok (.invokevirtual 141, 3) := by decide +kernel
theorem dX1_tried_58 : decode cX1_tried 58 = .ok (.ior, 1) := by decide +kernel
theorem dX1_tried_59 : decode cX1_tried 59 = .ok (.istore 4, 2) := by decide +kernel
theorem dX1_tried_61 : decode cX1_tried 61 = .ok (.iinc 5 1, 3) := by decide +kernel
theorem dX1_tried_64 : decode cX1_tried 64 = .ok (.goto (-30), 3) := by decide +kernel
theorem dX1_tried_67 : decode cX1_tried 67 = .ok (.iload 4, 2) := by decide +kernel
theorem dX1_tried_69 : decode cX1_tried 69 = .ok (.ireturn, 1) := by decide +kernel
set_option maxRecDepth 20000 in
theorem ggX1_withGoal_X1_checkPlace : GoodIn wsX1_withGoal wsX1_checkPlace := goodIn_ca (goodIn_r _ [7, 8, 9, 2, 61, 62, 63, 64, 65, 66, 67, 68, 69, 70, 71, 72, 73] (by decide +kernel) (by decide +kernel)) (goodIn_sub (fun _ h => List.mem_cons_of_mem _ (List.mem_append_left _ (List.mem_append_right _ h))) (by decide +kernel))
set_option maxRecDepth 20000 in
theorem gX1_withGoal_X1_checkPlace : GoodIn wsX1_withGoal (wsV RX1 40 RX1 yX1_checkPlace wsX1_checkPlace) := goodIn_app (goodIn_of _ (by decide +kernel)) ggX1_withGoal_X1_checkPlace
set_option maxRecDepth 20000 in
theorem ggX1_withGoal_X1_checkBetween : GoodIn wsX1_withGoal wsX1_checkBetween := goodIn_ca (goodIn_r _ [12, 13, 14] (by decide +kernel) (by decide +kernel)) (goodIn_sub (fun _ h => List.mem_cons_of_mem _ (List.mem_append_right _ h)) (by decide +kernel))
set_option maxRecDepth 20000 in
theorem gX1_withGoal_X1_checkBetween : GoodIn wsX1_withGoal (va_wsS RX1 19 yX1_checkBetween wsX1_checkBetween) := goodIn_app (goodIn_of _ (by decide +kernel)) ggX1_withGoal_X1_checkBetween
set_option maxRecDepth 20000 in
theorem ggX1_withGoal_X1_checkSide : GoodIn wsX1_withGoal wsX1_checkSide := goodIn_ca (goodIn_r _ [17, 10, 11, 6, 12, 13, 14] (by decide +kernel) (by decide +kernel)) (goodIn_sub (fun _ h => List.mem_cons_of_mem _ (List.mem_append_right _ h)) (by decide +kernel))
set_option maxRecDepth 20000 in
theorem gX1_withGoal_X1_checkSide : GoodIn wsX1_withGoal (va_wsS RX1 43 yX1_checkSide wsX1_checkSide) := goodIn_app (goodIn_of _ (by decide +kernel)) ggX1_withGoal_X1_checkSide
set_option maxRecDepth 20000 in
theorem ggX1_withGoal_X0_copyFrom : GoodIn wsX1_withGoal wsX0_copyFrom := goodIn_r _ [22, 23, 24, 25, 26, 27, 28, 29, 30, 31, 21, 32, 68, 69, 70, 71, 72, 73] (by decide +kernel) (by decide +kernel)
set_option maxRecDepth 20000 in
theorem gX1_withGoal_X0_copyFrom : GoodIn wsX1_withGoal (wsV RX1 86 RX0 yX0_copyFrom wsX0_copyFrom) := goodIn_app (goodIn_of _ (by decide +kernel)) ggX1_withGoal_X0_copyFrom
set_option maxRecDepth 20000 in
theorem ggX1_withGoal_X0_won : GoodIn wsX1_withGoal wsX0_won := goodIn_r _ [36, 25, 37, 38, 39, 21, 40, 41, 42, 43, 44, 23, 28, 24, 45, 46, 47, 48, 49, 50, 51, 52, 53, 54, 55, 56, 26, 27, 57, 58, 59, 60, 68, 69, 70, 71, 72, 73] (by decide +kernel) (by decide +kernel)
set_option maxRecDepth 20000 in
theorem gX1_withGoal_X0_won : GoodIn wsX1_withGoal (wsV RX1 141 RX0 yX0_won wsX0_won) := goodIn_app (goodIn_of _ (by decide +kernel)) ggX1_withGoal_X0_won
theorem dX1_withGoal_0 : decode cX1_withGoal 0 = .ok (.aload_n 0, 1) := by decide +kernel
theorem dX1_withGoal_1 : decode cX1_withGoal 1 = .ok (.iload_n 3, 1) := by decide +kernel
theorem dX1_withGoal_2 : decode cX1_withGoal 2 = .ok (.invokevirtual 40, 3) := by decide +kernel
theorem dX1_withGoal_5 : decode cX1_withGoal 5 = .ok (.iload_n 1, 1) := by decide +kernel
theorem dX1_withGoal_6 : decode cX1_withGoal 6 = .ok (.iconst 0, 1) := by decide +kernel
theorem dX1_withGoal_7 : decode cX1_withGoal 7 = .ok (.iconst 1, 1) := by decide +kernel
theorem dX1_withGoal_8 : decode cX1_withGoal 8 = .ok (.invokestatic 19, 3) := by decide +kernel
theorem dX1_withGoal_11 : decode cX1_withGoal 11 = .ok (.iload_n 2, 1) := by decide +kernel
theorem dX1_withGoal_12 : decode cX1_withGoal 12 = .ok (.invokestatic 43, 3) := by decide +kernel
theorem dX1_withGoal_15 : decode cX1_withGoal 15 = .ok (.aload_n 0, 1) := by decide +kernel
theorem dX1_withGoal_16 : decode cX1_withGoal 16 = .ok (.getfield 16, 3) := by decide +kernel
theorem dX1_withGoal_19 : decode cX1_withGoal 19 = .ok (.aload_n 0, 1) := by decide +kernel
theorem dX1_withGoal_20 : decode cX1_withGoal 20 = .ok (.getfield 10, 3) := by decide +kernel
theorem dX1_withGoal_23 : decode cX1_withGoal 23 = .ok (.invokevirtual 86, 3) := by decide +kernel
theorem dX1_withGoal_26 : decode cX1_withGoal 26 = .ok (.aload_n 0, 1) := by decide +kernel
theorem dX1_withGoal_27 : decode cX1_withGoal 27 = .ok (.getfield 16, 3) := by decide +kernel
theorem dX1_withGoal_30 : decode cX1_withGoal 30 = .ok (.dup, 1) := by decide +kernel
theorem dX1_withGoal_31 : decode cX1_withGoal 31 = .ok (.getfield 63, 3) := by decide +kernel
theorem dX1_withGoal_34 : decode cX1_withGoal 34 = .ok (.iconst 1, 1) := by decide +kernel
theorem dX1_withGoal_35 : decode cX1_withGoal 35 = .ok (.iload_n 3, 1) := by decide +kernel
theorem dX1_withGoal_36 : decode cX1_withGoal 36 = .ok (.ishl, 1) := by decide +kernel
theorem dX1_withGoal_37 : decode cX1_withGoal 37 = .ok (.ior, 1) := by decide +kernel
theorem dX1_withGoal_38 : decode cX1_withGoal 38 = .ok (.putfield 63, 3) := by decide +kernel
theorem dX1_withGoal_41 : decode cX1_withGoal 41 = .ok (.aload_n 0, 1) := by decide +kernel
theorem dX1_withGoal_42 : decode cX1_withGoal 42 = .ok (.getfield 16, 3) := by decide +kernel
theorem dX1_withGoal_45 : decode cX1_withGoal 45 = .ok (.iload_n 1, 1) := by decide +kernel
theorem dX1_withGoal_46 : decode cX1_withGoal 46 = .ok (.ifCond .ne 7, 3) := by decide +kernel
theorem dX1_withGoal_49 : decode cX1_withGoal 49 = .ok (.iconst 0, 1) := by decide +kernel
theorem dX1_withGoal_50 : decode cX1_withGoal 50 = .ok (.goto 4, 3) := by decide +kernel
theorem dX1_withGoal_53 : decode cX1_withGoal 53 = .ok (.iconst 2, 1) := by decide +kernel
theorem dX1_withGoal_54 : decode cX1_withGoal 54 = .ok (.iload_n 2, 1) := by decide +kernel
theorem dX1_withGoal_55 : decode cX1_withGoal 55 = .ok (.invokevirtual 141, 3) := by decide +kernel
theorem dX1_withGoal_58 : decode cX1_withGoal 58 = .ok (.ireturn, 1) := by decide +kernel
set_option maxRecDepth 20000 in
theorem ggX1_withWay_X1_checkPlace : GoodIn wsX1_withWay wsX1_checkPlace := goodIn_ca (goodIn_r _ [7, 8, 9, 2, 69, 70, 71, 72, 73, 74, 75, 76, 77, 78, 79, 80, 81] (by decide +kernel) (by decide +kernel)) (goodIn_sub (fun _ h => List.mem_cons_of_mem _ (List.mem_append_left _ (List.mem_append_right _ h))) (by decide +kernel))
set_option maxRecDepth 20000 in
theorem gX1_withWay_X1_checkPlace : GoodIn wsX1_withWay (wsV RX1 40 RX1 yX1_checkPlace wsX1_checkPlace) := goodIn_app (goodIn_of _ (by decide +kernel)) ggX1_withWay_X1_checkPlace
set_option maxRecDepth 20000 in
theorem ggX1_withWay_X1_checkBetween : GoodIn wsX1_withWay wsX1_checkBetween := goodIn_ca (goodIn_r _ [12, 13, 14] (by decide +kernel) (by decide +kernel)) (goodIn_sub (fun _ h => List.mem_cons_of_mem _ (List.mem_append_right _ h)) (by decide +kernel))
set_option maxRecDepth 20000 in
theorem gX1_withWay_X1_checkBetween : GoodIn wsX1_withWay (va_wsS RX1 19 yX1_checkBetween wsX1_checkBetween) := goodIn_app (goodIn_of _ (by decide +kernel)) ggX1_withWay_X1_checkBetween
set_option maxRecDepth 20000 in
theorem ggX1_withWay_X1_checkSide : GoodIn wsX1_withWay wsX1_checkSide := goodIn_ca (goodIn_r _ [17, 10, 11, 6, 12, 13, 14] (by decide +kernel) (by decide +kernel)) (goodIn_sub (fun _ h => List.mem_cons_of_mem _ (List.mem_append_right _ h)) (by decide +kernel))
set_option maxRecDepth 20000 in
theorem gX1_withWay_X1_checkSide : GoodIn wsX1_withWay (va_wsS RX1 43 yX1_checkSide wsX1_checkSide) := goodIn_app (goodIn_of _ (by decide +kernel)) ggX1_withWay_X1_checkSide
set_option maxRecDepth 20000 in
theorem ggX1_withWay_X0_copyFrom : GoodIn wsX1_withWay wsX0_copyFrom := goodIn_r _ [22, 23, 24, 25, 26, 27, 28, 29, 30, 31, 21, 32, 76, 77, 78, 79, 80, 81] (by decide +kernel) (by decide +kernel)
set_option maxRecDepth 20000 in
theorem gX1_withWay_X0_copyFrom : GoodIn wsX1_withWay (wsV RX1 86 RX0 yX0_copyFrom wsX0_copyFrom) := goodIn_app (goodIn_of _ (by decide +kernel)) ggX1_withWay_X0_copyFrom
set_option maxRecDepth 20000 in
theorem ggX1_withWay_X0_putWay : GoodIn wsX1_withWay wsX0_putWay := goodIn_r _ [36, 29, 30, 31, 21, 32, 28, 37, 38, 39, 40, 76, 77, 78, 79, 80, 81] (by decide +kernel) (by decide +kernel)
set_option maxRecDepth 20000 in
theorem gX1_withWay_X0_putWay : GoodIn wsX1_withWay (wsV RX1 80 RX0 yX0_putWay wsX0_putWay) := goodIn_app (goodIn_of _ (by decide +kernel)) ggX1_withWay_X0_putWay
set_option maxRecDepth 20000 in
theorem ggX1_withWay_X0_won : GoodIn wsX1_withWay wsX0_won := goodIn_r _ [44, 25, 45, 46, 47, 21, 48, 49, 50, 51, 52, 23, 28, 24, 53, 54, 55, 56, 57, 58, 59, 60, 61, 62, 63, 64, 26, 27, 65, 66, 67, 68, 76, 77, 78, 79, 80, 81] (by decide +kernel) (by decide +kernel)
set_option maxRecDepth 20000 in
theorem gX1_withWay_X0_won : GoodIn wsX1_withWay (wsV RX1 141 RX0 yX0_won wsX0_won) := goodIn_app (goodIn_of _ (by decide +kernel)) ggX1_withWay_X0_won
theorem dX1_withWay_0 : decode cX1_withWay 0 = .ok (.aload_n 0, 1) := by decide +kernel
theorem dX1_withWay_1 : decode cX1_withWay 1 = .ok (.iload_n 3, 1) := by decide +kernel
theorem dX1_withWay_2 : decode cX1_withWay 2 = .ok (.invokevirtual 40, 3) := by decide +kernel
theorem dX1_withWay_5 : decode cX1_withWay 5 = .ok (.aload_n 0, 1) := by decide +kernel
theorem dX1_withWay_6 : decode cX1_withWay 6 = .ok (.iload 4, 2) := by decide +kernel
theorem dX1_withWay_8 : decode cX1_withWay 8 = .ok (.invokevirtual 40, 3) := by decide +kernel
theorem dX1_withWay_11 : decode cX1_withWay 11 = .ok (.iload_n 1, 1) := by decide +kernel
theorem dX1_withWay_12 : decode cX1_withWay 12 = .ok (.iconst 0, 1) := by decide +kernel
theorem dX1_withWay_13 : decode cX1_withWay 13 = .ok (.iconst 3, 1) := by decide +kernel
theorem dX1_withWay_14 : decode cX1_withWay 14 = .ok (.invokestatic 19, 3) := by decide +kernel
theorem dX1_withWay_17 : decode cX1_withWay 17 = .ok (.iload_n 2, 1) := by decide +kernel
theorem dX1_withWay_18 : decode cX1_withWay 18 = .ok (.invokestatic 43, 3) := by decide +kernel
theorem dX1_withWay_21 : decode cX1_withWay 21 = .ok (.aload_n 0, 1) := by decide +kernel
theorem dX1_withWay_22 : decode cX1_withWay 22 = .ok (.getfield 16, 3) := by decide +kernel
theorem dX1_withWay_25 : decode cX1_withWay 25 = .ok (.aload_n 0, 1) := by decide +kernel
theorem dX1_withWay_26 : decode cX1_withWay 26 = .ok (.getfield 10, 3) := by decide +kernel
theorem dX1_withWay_29 : decode cX1_withWay 29 = .ok (.invokevirtual 86, 3) := by decide +kernel
theorem dX1_withWay_32 : decode cX1_withWay 32 = .ok (.aload_n 0, 1) := by decide +kernel
theorem dX1_withWay_33 : decode cX1_withWay 33 = .ok (.getfield 16, 3) := by decide +kernel
theorem dX1_withWay_36 : decode cX1_withWay 36 = .ok (.iload_n 3, 1) := by decide +kernel
theorem dX1_withWay_37 : decode cX1_withWay 37 = .ok (.iload 4, 2) := by decide +kernel
theorem dX1_withWay_39 : decode cX1_withWay 39 = .ok (.invokevirtual 80, 3) := by decide +kernel
theorem dX1_withWay_42 : decode cX1_withWay 42 = .ok (.aload_n 0, 1) := by decide +kernel
theorem dX1_withWay_43 : decode cX1_withWay 43 = .ok (.getfield 16, 3) := by decide +kernel
theorem dX1_withWay_46 : decode cX1_withWay 46 = .ok (.iload_n 1, 1) := by decide +kernel
theorem dX1_withWay_47 : decode cX1_withWay 47 = .ok (.iload_n 2, 1) := by decide +kernel
theorem dX1_withWay_48 : decode cX1_withWay 48 = .ok (.invokevirtual 141, 3) := by decide +kernel
theorem dX1_withWay_51 : decode cX1_withWay 51 = .ok (.ireturn, 1) := by decide +kernel
set_option maxRecDepth 20000 in
theorem ggX1_house_X1_checkBetween : GoodIn wsX1_house wsX1_checkBetween := goodIn_ca (goodIn_r _ [7, 8, 9] (by decide +kernel) (by decide +kernel)) (goodIn_sub (fun _ h => List.mem_cons_of_mem _ (List.mem_append_right _ h)) (by decide +kernel))
set_option maxRecDepth 20000 in
theorem gX1_house_X1_checkBetween : GoodIn wsX1_house (va_wsS RX1 19 yX1_checkBetween wsX1_checkBetween) := goodIn_app (goodIn_of _ (by decide +kernel)) ggX1_house_X1_checkBetween
theorem dX1_house_0 : decode cX1_house 0 = .ok (.iload_n 1, 1) := by decide +kernel
theorem dX1_house_1 : decode cX1_house 1 = .ok (.iconst 0, 1) := by decide +kernel
theorem dX1_house_2 : decode cX1_house 2 = .ok (.iconst 2, 1) := by decide +kernel
theorem dX1_house_3 : decode cX1_house 3 = .ok (.invokestatic 19, 3) := by decide +kernel
theorem dX1_house_6 : decode cX1_house 6 = .ok (.iload_n 1, 1) := by decide +kernel
theorem dX1_house_7 : decode cX1_house 7 = .ok (.lookupswitch 35 #[(0, 25), (1, 30)], 25) := by decide +kernel
theorem dX1_house_32 : decode cX1_house 32 = .ok (.aload_n 0, 1) := by decide +kernel
theorem dX1_house_33 : decode cX1_house 33 = .ok (.getfield 37, 3) := by decide +kernel
theorem dX1_house_36 : decode cX1_house 36 = .ok (.ireturn, 1) := by decide +kernel
theorem dX1_house_37 : decode cX1_house 37 = .ok (.aload_n 0, 1) := by decide +kernel
theorem dX1_house_38 : decode cX1_house 38 = .ok (.getfield 162, 3) := by decide +kernel
theorem dX1_house_41 : decode cX1_house 41 = .ok (.ireturn, 1) := by decide +kernel
theorem dX1_house_42 : decode cX1_house 42 = .ok (.aload_n 0, 1) := by decide +kernel
theorem dX1_house_43 : decode cX1_house 43 = .ok (.getfield 165, 3) := by decide +kernel
theorem dX1_house_46 : decode cX1_house 46 = .ok (.ireturn, 1) := by decide +kernel
theorem dX1_knock_0 : decode cX1_knock 0 = .ok (.aload_n 0, 1) := by decide +kernel
theorem dX1_knock_1 : decode cX1_knock 1 = .ok (.dup, 1) := by decide +kernel
theorem dX1_knock_2 : decode cX1_knock 2 = .ok (.getfield 165, 3) := by decide +kernel
theorem dX1_knock_5 : decode cX1_knock 5 = .ok (.iconst 1, 1) := by decide +kernel
theorem dX1_knock_6 : decode cX1_knock 6 = .ok (.iadd, 1) := by decide +kernel
theorem dX1_knock_7 : decode cX1_knock 7 = .ok (.putfield 165, 3) := by decide +kernel
theorem dX1_knock_10 : decode cX1_knock 10 = .ok (.aload_n 0, 1) := by decide +kernel
theorem dX1_knock_11 : decode cX1_knock 11 = .ok (.getfield 165, 3) := by decide +kernel
theorem dX1_knock_14 : decode cX1_knock 14 = .ok (.ireturn, 1) := by decide +kernel
set_option maxRecDepth 20000 in
theorem ggX1_isSound_X1_isComingSound : GoodIn wsX1_isSound wsX1_isComingSound := goodIn_r _ [5, 6, 7, 8, 9, 10, 11, 12, 13, 14, 15, 16, 17, 18, 19, 20, 21, 22, 23, 24, 25, 26, 27, 28, 29, 30, 31, 32, 33, 34, 35, 36, 37, 38, 39, 40, 41, 42, 43, 94, 95, 96, 97, 98, 99, 100, 101, 102, 103, 104, 105, 106] (by decide +kernel) (by decide +kernel)
set_option maxRecDepth 20000 in
theorem gX1_isSound_X1_isComingSound : GoodIn wsX1_isSound (wsV RX1 168 RX1 yX1_isComingSound wsX1_isComingSound) := goodIn_app (goodIn_of _ (by decide +kernel)) ggX1_isSound_X1_isComingSound
set_option maxRecDepth 20000 in
theorem ggX1_isSound_X1_isAgainSound : GoodIn wsX1_isSound wsX1_isAgainSound := goodIn_r _ [47, 6, 7, 8, 9, 10, 11, 12, 13, 14, 15, 16, 17, 18, 19, 20, 21, 22, 23, 24, 25, 26, 27, 28, 29, 30, 31, 32, 33, 34, 35, 36, 37, 38, 39, 40, 41, 43, 94, 95, 96, 97, 98, 99, 100, 101, 102, 103, 104, 105, 106] (by decide +kernel) (by decide +kernel)
set_option maxRecDepth 20000 in
theorem gX1_isSound_X1_isAgainSound : GoodIn wsX1_isSound (wsV RX1 172 RX1 yX1_isAgainSound wsX1_isAgainSound) := goodIn_app (goodIn_of _ (by decide +kernel)) ggX1_isSound_X1_isAgainSound
set_option maxRecDepth 20000 in
theorem ggX1_isSound_X1_holdsByChoices : GoodIn wsX1_isSound wsX1_holdsByChoices := goodIn_r _ [51, 52, 6, 53, 54, 55, 10, 56, 21, 23, 12, 36, 37, 22, 57, 58, 59, 60, 7, 8, 9, 11, 13, 14, 15, 16, 17, 18, 19, 20, 24, 25, 26, 27, 28, 29, 30, 31, 32, 33, 34, 35, 38, 39, 40, 41, 61, 62, 63, 64, 65, 66, 67, 68, 69, 4, 70, 71, 72, 73, 74, 75, 76, 77, 78, 79, 80, 81, 82, 83, 84, 94, 95, 96, 97, 98, 99, 100, 101, 102, 103, 104, 105, 106] (by decide +kernel) (by decide +kernel)
set_option maxRecDepth 20000 in
theorem gX1_isSound_X1_holdsByChoices : GoodIn wsX1_isSound (wsV RX1 150 RX1 yX1_holdsByChoices wsX1_holdsByChoices) := goodIn_app (goodIn_of _ (by decide +kernel)) ggX1_isSound_X1_holdsByChoices
set_option maxRecDepth 20000 in
theorem ggX1_isSound_X1_isRankedSound : GoodIn wsX1_isSound wsX1_isRankedSound := goodIn_r _ [88, 6, 7, 8, 9, 10, 11, 12, 13, 14, 15, 16, 17, 18, 19, 20, 21, 22, 23, 24, 25, 26, 27, 28, 29, 30, 31, 32, 33, 34, 35, 36, 37, 38, 39, 40, 41, 42, 89, 90, 91, 92, 93, 58, 59, 60, 76, 69, 4, 70, 94, 95, 96, 97, 98, 99, 100, 101, 102, 103, 104, 105, 106] (by decide +kernel) (by decide +kernel)
set_option maxRecDepth 20000 in
theorem gX1_isSound_X1_isRankedSound : GoodIn wsX1_isSound (wsV RX1 175 RX1 yX1_isRankedSound wsX1_isRankedSound) := goodIn_app (goodIn_of _ (by decide +kernel)) ggX1_isSound_X1_isRankedSound
theorem dX1_isSound_0 : decode cX1_isSound 0 = .ok (.iconst 0, 1) := by decide +kernel
theorem dX1_isSound_1 : decode cX1_isSound 1 = .ok (.istore_n 1, 1) := by decide +kernel
theorem dX1_isSound_2 : decode cX1_isSound 2 = .ok (.iload_n 1, 1) := by decide +kernel
theorem dX1_isSound_3 : decode cX1_isSound 3 = .ok (.iconst 1, 1) := by decide +kernel
theorem dX1_isSound_4 : decode cX1_isSound 4 = .ok (.if_icmp .gt 51, 3) := by decide +kernel
theorem dX1_isSound_7 : decode cX1_isSound 7 = .ok (.aload_n 0, 1) := by decide +kernel
theorem dX1_isSound_8 : decode cX1_isSound 8 = .ok (.iload_n 1, 1) := by decide +kernel
theorem dX1_isSound_9 : decode cX1_isSound 9 = .ok (.invokevirtual 168, 3) := by decide +kernel
theorem dX1_isSound_12 : decode cX1_isSound 12 = .ok (.ifCond .eq 11, 3) := by decide +kernel
theorem dX1_isSound_15 : decode cX1_isSound 15 = .ok (.aload_n 0, 1) := by decide +kernel
theorem dX1_isSound_16 : decode cX1_isSound 16 = .ok (.iload_n 1, 1) := by decide +kernel
theorem dX1_isSound_17 : decode cX1_isSound 17 = .ok (.invokevirtual 172, 3) := by decide +kernel
theorem dX1_isSound_20 : decode cX1_isSound 20 = .ok (.ifCond .ne 5, 3) := by decide +kernel
theorem dX1_isSound_23 : decode cX1_isSound 23 = .ok (.iconst 0, 1) := by decide +kernel
theorem dX1_isSound_24 : decode cX1_isSound 24 = .ok (.ireturn, 1) := by decide +kernel
theorem dX1_isSound_25 : decode cX1_isSound 25 = .ok (.iconst 0, 1) := by decide +kernel
theorem dX1_isSound_26 : decode cX1_isSound 26 = .ok (.istore_n 2, 1) := by decide +kernel
theorem dX1_isSound_27 : decode cX1_isSound 27 = .ok (.iload_n 2, 1) := by decide +kernel
theorem dX1_isSound_28 : decode cX1_isSound 28 = .ok (.iconst 2, 1) := by decide +kernel
theorem dX1_isSound_29 : decode cX1_isSound 29 = .ok (.if_icmp .gt 20, 3) := by decide +kernel
theorem dX1_isSound_32 : decode cX1_isSound 32 = .ok (.aload_n 0, 1) := by decide +kernel
theorem dX1_isSound_33 : decode cX1_isSound 33 = .ok (.iload_n 2, 1) := by decide +kernel
theorem dX1_isSound_34 : decode cX1_isSound 34 = .ok (.iload_n 1, 1) := by decide +kernel
theorem dX1_isSound_35 : decode cX1_isSound 35 = .ok (.invokevirtual 150, 3) := by decide +kernel
theorem dX1_isSound_38 : decode cX1_isSound 38 = .ok (.ifCond .ne 5, 3) := by decide +kernel
theorem dX1_isSound_41 : decode cX1_isSound 41 = .ok (.iconst 0, 1) := by decide +kernel
theorem dX1_isSound_42 : decode cX1_isSound 42 = .ok (.ireturn, 1) := by decide +kernel
theorem dX1_isSound_43 : decode cX1_isSound 43 = .ok (.iinc 2 1, 3) := by decide +kernel
theorem dX1_isSound_46 : decode cX1_isSound 46 = .ok (.goto (-19), 3) := by decide +kernel
theorem dX1_isSound_49 : decode cX1_isSound 49 = .ok (.iinc 1 1, 3) := by decide +kernel
theorem dX1_isSound_52 : decode cX1_isSound 52 = .ok (.goto (-50), 3) := by decide +kernel
theorem dX1_isSound_55 : decode cX1_isSound 55 = .ok (.aload_n 0, 1) := by decide +kernel
theorem dX1_isSound_56 : decode cX1_isSound 56 = .ok (.invokevirtual 175, 3) := by decide +kernel
theorem dX1_isSound_59 : decode cX1_isSound 59 = .ok (.ireturn, 1) := by decide +kernel
set_option maxRecDepth 20000 in
theorem ggX1_digest_X1_told : GoodIn wsX1_digest wsX1_told := goodIn_ca (goodIn_r _ [8, 3, 9, 10, 11, 12, 7, 13, 14, 15, 16, 17, 18, 19, 20, 21, 22, 23, 24, 25, 26, 27, 28, 29, 30, 31, 32, 33, 34, 35, 36, 37, 38, 39, 40, 41, 42, 43, 44, 45, 46, 197, 198, 199, 200, 201, 202, 203, 204, 205, 206, 207, 208, 209] (by decide +kernel) (by decide +kernel)) (goodIn_sub (fun _ h => List.mem_cons_of_mem _ (List.mem_append_left _ (List.mem_append_right _ h))) (by decide +kernel))
set_option maxRecDepth 20000 in
theorem gX1_digest_X1_told : GoodIn wsX1_digest (wsV RX1 183 RX1 yX1_told wsX1_told) := goodIn_app (goodIn_of _ (by decide +kernel)) ggX1_digest_X1_told
set_option maxRecDepth 20000 in
theorem ggX1_digest_X1_ofPlace : GoodIn wsX1_digest wsX1_ofPlace := goodIn_ca (goodIn_ca (goodIn_r _ [50, 3, 51, 52, 53, 7, 54, 55, 56, 11, 12, 13, 14, 15, 57, 58, 59, 19, 60, 38, 61, 62, 63, 64, 65, 66, 67, 68, 69, 70, 23, 24, 25, 26, 71, 72, 73, 74, 21, 22, 197, 198, 199, 200, 201, 202, 203, 204, 205, 206, 207, 208, 209] (by decide +kernel) (by decide +kernel)) (goodIn_sub (fun _ h => List.mem_cons_of_mem _ (List.mem_append_right _ h)) (by decide +kernel))) (goodIn_sub (fun _ h => List.mem_cons_of_mem _ (List.mem_append_left _ (List.mem_append_right _ h))) (by decide +kernel))
set_option maxRecDepth 20000 in
theorem gX1_digest_X1_ofPlace : GoodIn wsX1_digest (wsV RX1 186 RX1 yX1_ofPlace wsX1_ofPlace) := goodIn_app (goodIn_of _ (by decide +kernel)) ggX1_digest_X1_ofPlace
set_option maxRecDepth 20000 in
theorem ggX1_digest_X1_rounds : GoodIn wsX1_digest wsX1_rounds := goodIn_ca (goodIn_ca (goodIn_r _ [78, 3, 51, 52, 53, 7, 54, 55, 56, 79, 80, 81, 11, 12, 13, 14, 15, 82, 83, 84, 19, 85, 86, 87, 88, 89, 21, 26, 38, 67, 68, 197, 198, 199, 200, 201, 202, 203, 204, 205, 206, 207, 208, 209] (by decide +kernel) (by decide +kernel)) (goodIn_sub (fun _ h => List.mem_cons_of_mem _ (List.mem_append_right _ h)) (by decide +kernel))) (goodIn_sub (fun _ h => List.mem_cons_of_mem _ (List.mem_append_left _ (List.mem_append_right _ h))) (by decide +kernel))
set_option maxRecDepth 20000 in
theorem gX1_digest_X1_rounds : GoodIn wsX1_digest (wsV RX1 189 RX1 yX1_rounds wsX1_rounds) := goodIn_app (goodIn_of _ (by decide +kernel)) ggX1_digest_X1_rounds
set_option maxRecDepth 20000 in
theorem ggX1_digest_X1_againRounds : GoodIn wsX1_digest wsX1_againRounds := goodIn_ca (goodIn_ca (goodIn_r _ [93, 3, 51, 52, 53, 7, 54, 55, 56, 79, 80, 81, 11, 12, 13, 14, 15, 94, 95, 96, 19, 97, 98, 99, 100, 101, 102, 86, 87, 88, 89, 21, 26, 38, 39, 40, 41, 42, 103, 104, 105, 106, 107, 108, 109, 110, 65, 66, 111, 112, 113, 114, 82, 83, 84, 85, 67, 68, 197, 198, 199, 200, 201, 202, 203, 204, 205, 206, 207, 208, 209] (by decide +kernel) (by decide +kernel)) (goodIn_sub (fun _ h => List.mem_cons_of_mem _ (List.mem_append_right _ h)) (by decide +kernel))) (goodIn_sub (fun _ h => List.mem_cons_of_mem _ (List.mem_append_left _ (List.mem_append_right _ h))) (by decide +kernel))
set_option maxRecDepth 20000 in
theorem gX1_digest_X1_againRounds : GoodIn wsX1_digest (wsV RX1 192 RX1 yX1_againRounds wsX1_againRounds) := goodIn_app (goodIn_of _ (by decide +kernel)) ggX1_digest_X1_againRounds
set_option maxRecDepth 20000 in
theorem ggX1_digest_X1_coming : GoodIn wsX1_digest wsX1_coming := goodIn_ca (goodIn_r _ [118, 3, 79, 80, 7, 81, 11, 12, 13, 14, 15, 94, 95, 96, 19, 97, 98, 99, 100, 101, 102, 86, 87, 88, 89, 21, 26, 38, 39, 40, 41, 42, 103, 104, 105, 106, 107, 108, 109, 110, 65, 66, 111, 112, 113, 114, 197, 198, 199, 200, 201, 202, 203, 204, 205, 206, 207, 208, 209] (by decide +kernel) (by decide +kernel)) (goodIn_sub (fun _ h => List.mem_cons_of_mem _ (List.mem_append_left _ (List.mem_append_right _ h))) (by decide +kernel))
set_option maxRecDepth 20000 in
theorem gX1_digest_X1_coming : GoodIn wsX1_digest (wsV RX1 195 RX1 yX1_coming wsX1_coming) := goodIn_app (goodIn_of _ (by decide +kernel)) ggX1_digest_X1_coming
set_option maxRecDepth 20000 in
theorem ggX1_digest_X1_keeping : GoodIn wsX1_digest wsX1_keeping := goodIn_ca (goodIn_r _ [122, 3, 79, 80, 7, 81, 11, 12, 13, 14, 15, 94, 95, 96, 19, 97, 98, 99, 100, 101, 102, 86, 87, 88, 89, 21, 26, 38, 39, 40, 41, 42, 103, 104, 105, 106, 107, 108, 109, 110, 65, 66, 111, 112, 113, 114, 197, 198, 199, 200, 201, 202, 203, 204, 205, 206, 207, 208, 209] (by decide +kernel) (by decide +kernel)) (goodIn_sub (fun _ h => List.mem_cons_of_mem _ (List.mem_append_left _ (List.mem_append_right _ h))) (by decide +kernel))
set_option maxRecDepth 20000 in
theorem gX1_digest_X1_keeping : GoodIn wsX1_digest (wsV RX1 198 RX1 yX1_keeping wsX1_keeping) := goodIn_app (goodIn_of _ (by decide +kernel)) ggX1_digest_X1_keeping
set_option maxRecDepth 20000 in
theorem ggX1_digest_X1_again : GoodIn wsX1_digest wsX1_again := goodIn_ca (goodIn_r _ [126, 3, 79, 80, 7, 81, 11, 12, 13, 14, 15, 94, 95, 96, 19, 97, 98, 99, 100, 101, 102, 86, 87, 88, 89, 21, 26, 38, 39, 40, 41, 42, 103, 104, 105, 106, 107, 108, 109, 110, 65, 66, 111, 112, 113, 114, 197, 198, 199, 200, 201, 202, 203, 204, 205, 206, 207, 208, 209] (by decide +kernel) (by decide +kernel)) (goodIn_sub (fun _ h => List.mem_cons_of_mem _ (List.mem_append_left _ (List.mem_append_right _ h))) (by decide +kernel))
set_option maxRecDepth 20000 in
theorem gX1_digest_X1_again : GoodIn wsX1_digest (wsV RX1 201 RX1 yX1_again wsX1_again) := goodIn_app (goodIn_of _ (by decide +kernel)) ggX1_digest_X1_again
set_option maxRecDepth 20000 in
theorem ggX1_digest_X1_ranked : GoodIn wsX1_digest wsX1_ranked := goodIn_ca (goodIn_r _ [130, 3, 79, 80, 7, 81, 11, 12, 13, 14, 15, 94, 95, 96, 19, 97, 98, 99, 100, 101, 102, 86, 87, 88, 89, 21, 26, 38, 39, 40, 41, 42, 103, 104, 105, 106, 107, 108, 109, 110, 65, 66, 111, 112, 113, 114, 197, 198, 199, 200, 201, 202, 203, 204, 205, 206, 207, 208, 209] (by decide +kernel) (by decide +kernel)) (goodIn_sub (fun _ h => List.mem_cons_of_mem _ (List.mem_append_left _ (List.mem_append_right _ h))) (by decide +kernel))
set_option maxRecDepth 20000 in
theorem gX1_digest_X1_ranked : GoodIn wsX1_digest (wsV RX1 204 RX1 yX1_ranked wsX1_ranked) := goodIn_app (goodIn_of _ (by decide +kernel)) ggX1_digest_X1_ranked
set_option maxRecDepth 20000 in
theorem ggX1_digest_X1_falls : GoodIn wsX1_digest wsX1_falls := goodIn_ca (goodIn_r _ [134, 3, 79, 80, 7, 81, 11, 12, 13, 14, 15, 135, 40, 41, 19, 42, 21, 136, 87, 88, 89, 26, 38, 137, 100, 101, 102, 86, 197, 198, 199, 200, 201, 202, 203, 204, 205, 206, 207, 208, 209] (by decide +kernel) (by decide +kernel)) (goodIn_sub (fun _ h => List.mem_cons_of_mem _ (List.mem_append_left _ (List.mem_append_right _ h))) (by decide +kernel))
set_option maxRecDepth 20000 in
theorem gX1_digest_X1_falls : GoodIn wsX1_digest (wsV RX1 207 RX1 yX1_falls wsX1_falls) := goodIn_app (goodIn_of _ (by decide +kernel)) ggX1_digest_X1_falls
set_option maxRecDepth 20000 in
theorem ggX1_digest_X1_choices : GoodIn wsX1_digest wsX1_choices := goodIn_ca (goodIn_r _ [141, 3, 79, 80, 7, 81, 11, 12, 13, 14, 15, 142, 143, 144, 19, 145, 21, 22, 23, 24, 25, 26, 27, 28, 29, 30, 31, 32, 33, 146, 58, 59, 60, 38, 197, 198, 199, 200, 201, 202, 203, 204, 205, 206, 207, 208, 209] (by decide +kernel) (by decide +kernel)) (goodIn_sub (fun _ h => List.mem_cons_of_mem _ (List.mem_append_left _ (List.mem_append_right _ h))) (by decide +kernel))
set_option maxRecDepth 20000 in
theorem gX1_digest_X1_choices : GoodIn wsX1_digest (wsV RX1 210 RX1 yX1_choices wsX1_choices) := goodIn_app (goodIn_of _ (by decide +kernel)) ggX1_digest_X1_choices
set_option maxRecDepth 20000 in
theorem ggX1_digest_X1_house : GoodIn wsX1_digest wsX1_house := goodIn_ca (goodIn_r _ [150, 151, 152, 153, 11, 12, 7, 13, 14, 15, 197, 198, 199, 200, 201, 202, 203] (by decide +kernel) (by decide +kernel)) (goodIn_sub (fun _ h => List.mem_cons_of_mem _ (List.mem_append_left _ (List.mem_append_right _ h))) (by decide +kernel))
set_option maxRecDepth 20000 in
theorem gX1_digest_X1_house : GoodIn wsX1_digest (wsV RX1 213 RX1 yX1_house wsX1_house) := goodIn_app (goodIn_of _ (by decide +kernel)) ggX1_digest_X1_house
set_option maxRecDepth 20000 in
theorem ggX1_digest_X1_isSound : GoodIn wsX1_digest wsX1_isSound := goodIn_r _ [157, 158, 159, 160, 7, 161, 3, 94, 95, 96, 19, 97, 98, 99, 100, 101, 102, 86, 87, 88, 89, 21, 26, 38, 39, 40, 41, 42, 103, 104, 105, 106, 107, 108, 109, 110, 65, 66, 111, 112, 113, 114, 135, 136, 162, 163, 164, 165, 166, 167, 168, 169, 170, 171, 172, 173, 174, 22, 23, 24, 25, 175, 176, 177, 178, 179, 35, 36, 37, 67, 68, 180, 181, 182, 183, 184, 69, 185, 186, 187, 188, 189, 190, 191, 192, 193, 194, 195, 196, 57, 58, 59, 60, 70, 197, 198, 199, 200, 201, 202, 203, 204, 205, 206, 207, 208, 209] (by decide +kernel) (by decide +kernel)
set_option maxRecDepth 20000 in
theorem gX1_digest_X1_isSound : GoodIn wsX1_digest (wsV RX1 216 RX1 yX1_isSound wsX1_isSound) := goodIn_app (goodIn_of _ (by decide +kernel)) ggX1_digest_X1_isSound
theorem dX1_digest_0 : decode cX1_digest 0 = .ok (.ldc2_w 179, 3) := by decide +kernel
theorem dX1_digest_3 : decode cX1_digest 3 = .ok (.lstore_n 1, 1) := by decide +kernel
theorem dX1_digest_4 : decode cX1_digest 4 = .ok (.iconst 0, 1) := by decide +kernel
theorem dX1_digest_5 : decode cX1_digest 5 = .ok (.istore_n 3, 1) := by decide +kernel
theorem dX1_digest_6 : decode cX1_digest 6 = .ok (.iload_n 3, 1) := by decide +kernel
theorem dX1_digest_7 : decode cX1_digest 7 = .ok (.bipush 6, 2) := by decide +kernel
theorem dX1_digest_9 : decode cX1_digest 9 = .ok (.if_icmp .gt 22, 3) := by decide +kernel
theorem dX1_digest_12 : decode cX1_digest 12 = .ok (.lload_n 1, 1) := by decide +kernel
theorem dX1_digest_13 : decode cX1_digest 13 = .ok (.ldc2_w 181, 3) := by decide +kernel
theorem dX1_digest_16 : decode cX1_digest 16 = .ok (.lmul, 1) := by decide +kernel
theorem dX1_digest_17 : decode cX1_digest 17 = .ok (.aload_n 0, 1) := by decide +kernel
theorem dX1_digest_18 : decode cX1_digest 18 = .ok (.iload_n 3, 1) := by decide +kernel
theorem dX1_digest_19 : decode cX1_digest 19 = .ok (.invokevirtual 183, 3) := by decide +kernel
theorem dX1_digest_22 : decode cX1_digest 22 = .ok (.i2l, 1) := by decide +kernel
theorem dX1_digest_23 : decode cX1_digest 23 = .ok (.ladd, 1) := by decide +kernel
theorem dX1_digest_24 : decode cX1_digest 24 = .ok (.lstore_n 1, 1) := by decide +kernel
theorem dX1_digest_25 : decode cX1_digest 25 = .ok (.iinc 3 1, 3) := by decide +kernel
theorem dX1_digest_28 : decode cX1_digest 28 = .ok (.goto (-22), 3) := by decide +kernel
theorem dX1_digest_31 : decode cX1_digest 31 = .ok (.iconst 0, 1) := by decide +kernel
theorem dX1_digest_32 : decode cX1_digest 32 = .ok (.istore_n 3, 1) := by decide +kernel
theorem dX1_digest_33 : decode cX1_digest 33 = .ok (.iload_n 3, 1) := by decide +kernel
theorem dX1_digest_34 : decode cX1_digest 34 = .ok (.aload_n 0, 1) := by decide +kernel
theorem dX1_digest_35 : decode cX1_digest 35 = .ok (.getfield 10, 3) := by decide +kernel
theorem dX1_digest_38 : decode cX1_digest 38 = .ok (.getfield 23, 3) := by decide +kernel
theorem dX1_digest_41 : decode cX1_digest 41 = .ok (.if_icmp .ge 95, 3) := by decide +kernel
theorem dX1_digest_44 : decode cX1_digest 44 = .ok (.iconst 0, 1) := by decide +kernel
theorem dX1_digest_45 : decode cX1_digest 45 = .ok (.istore 4, 2) := by decide +kernel
theorem dX1_digest_47 : decode cX1_digest 47 = .ok (.iload 4, 2) := by decide +kernel
theorem dX1_digest_49 : decode cX1_digest 49 = .ok (.iconst 3, 1) := by decide +kernel
theorem dX1_digest_50 : decode cX1_digest 50 = .ok (.if_icmp .gt 24, 3) := by decide +kernel
theorem dX1_digest_53 : decode cX1_digest 53 = .ok (.lload_n 1, 1) := by decide +kernel
theorem dX1_digest_54 : decode cX1_digest 54 = .ok (.ldc2_w 181, 3) := by decide +kernel
theorem dX1_digest_57 : decode cX1_digest 57 = .ok (.lmul, 1) := by decide +kernel
theorem dX1_digest_58 : decode cX1_digest 58 = .ok (.aload_n 0, 1) := by decide +kernel
theorem dX1_digest_59 : decode cX1_digest 59 = .ok (.iload_n 3, 1) := by decide +kernel
theorem dX1_digest_60 : decode cX1_digest 60 = .ok (.iload 4, 2) := by decide +kernel
theorem dX1_digest_62 : decode cX1_digest 62 = .ok (.invokevirtual 186, 3) := by decide +kernel
theorem dX1_digest_65 : decode cX1_digest 65 = .ok (.i2l, 1) := by decide +kernel
theorem dX1_digest_66 : decode cX1_digest 66 = .ok (.ladd, 1) := by decide +kernel
theorem dX1_digest_67 : decode cX1_digest 67 = .ok (.lstore_n 1, 1) := by decide +kernel
theorem dX1_digest_68 : decode cX1_digest 68 = .ok (.iinc 4 1, 3) := by decide +kernel
theorem dX1_digest_71 : decode cX1_digest 71 = .ok (.goto (-24), 3) := by decide +kernel
theorem dX1_digest_74 : decode cX1_digest 74 = .ok (.lload_n 1, 1) := by decide +kernel
theorem dX1_digest_75 : decode cX1_digest 75 = .ok (.ldc2_w 181, 3) := by decide +kernel
theorem dX1_digest_78 : decode cX1_digest 78 = .ok (.lmul, 1) := by decide +kernel
theorem dX1_digest_79 : decode cX1_digest 79 = .ok (.aload_n 0, 1) := by decide +kernel
theorem dX1_digest_80 : decode cX1_digest 80 = .ok (.iconst 0, 1) := by decide +kernel
theorem dX1_digest_81 : decode cX1_digest 81 = .ok (.iload_n 3, 1) := by decide +kernel
theorem dX1_digest_82 : decode cX1_digest 82 = .ok (.invokevirtual 189, 3) := by decide +kernel
theorem dX1_digest_85 : decode cX1_digest 85 = .ok (.i2l, 1) := by decide +kernel
theorem dX1_digest_86 : decode cX1_digest 86 = .ok (.ladd, 1) := by decide +kernel
theorem dX1_digest_87 : decode cX1_digest 87 = .ok (.lstore_n 1, 1) := by decide +kernel
theorem dX1_digest_88 : decode cX1_digest 88 = .ok (.lload_n 1, 1) := by decide +kernel
theorem dX1_digest_89 : decode cX1_digest 89 = .ok (.ldc2_w 181, 3) := by decide +kernel
theorem dX1_digest_92 : decode cX1_digest 92 = .ok (.lmul, 1) := by decide +kernel
theorem dX1_digest_93 : decode cX1_digest 93 = .ok (.aload_n 0, 1) := by decide +kernel
theorem dX1_digest_94 : decode cX1_digest 94 = .ok (.iconst 1, 1) := by decide +kernel
theorem dX1_digest_95 : decode cX1_digest 95 = .ok (.iload_n 3, 1) := by decide +kernel
theorem dX1_digest_96 : decode cX1_digest 96 = .ok (.invokevirtual 189, 3) := by decide +kernel
theorem dX1_digest_99 : decode cX1_digest 99 = .ok (.i2l, 1) := by decide +kernel
theorem dX1_digest_100 : decode cX1_digest 100 = .ok (.ladd, 1) := by decide +kernel
theorem dX1_digest_101 : decode cX1_digest 101 = .ok (.lstore_n 1, 1) := by decide +kernel
theorem dX1_digest_102 : decode cX1_digest 102 = .ok (.lload_n 1, 1) := by decide +kernel
theorem dX1_digest_103 : decode cX1_digest 103 = .ok (.ldc2_w 181, 3) := by decide +kernel
theorem dX1_digest_106 : decode cX1_digest 106 = .ok (.lmul, 1) := by decide +kernel
theorem dX1_digest_107 : decode cX1_digest 107 = .ok (.aload_n 0, 1) := by decide +kernel
theorem dX1_digest_108 : decode cX1_digest 108 = .ok (.iconst 0, 1) := by decide +kernel
theorem dX1_digest_109 : decode cX1_digest 109 = .ok (.iload_n 3, 1) := by decide +kernel
theorem dX1_digest_110 : decode cX1_digest 110 = .ok (.invokevirtual 192, 3) := by decide +kernel
theorem dX1_digest_113 : decode cX1_digest 113 = .ok (.i2l, 1) := by decide +kernel
theorem dX1_digest_114 : decode cX1_digest 114 = .ok (.ladd, 1) := by decide +kernel
theorem dX1_digest_115 : decode cX1_digest 115 = .ok (.lstore_n 1, 1) := by decide +kernel
theorem dX1_digest_116 : decode cX1_digest 116 = .ok (.lload_n 1, 1) := by decide +kernel
theorem dX1_digest_117 : decode cX1_digest 117 = .ok (.ldc2_w 181, 3) := by decide +kernel
theorem dX1_digest_120 : decode cX1_digest 120 = .ok (.lmul, 1) := by decide +kernel
theorem dX1_digest_121 : decode cX1_digest 121 = .ok (.aload_n 0, 1) := by decide +kernel
theorem dX1_digest_122 : decode cX1_digest 122 = .ok (.iconst 1, 1) := by decide +kernel
theorem dX1_digest_123 : decode cX1_digest 123 = .ok (.iload_n 3, 1) := by decide +kernel
theorem dX1_digest_124 : decode cX1_digest 124 = .ok (.invokevirtual 192, 3) := by decide +kernel
theorem dX1_digest_127 : decode cX1_digest 127 = .ok (.i2l, 1) := by decide +kernel
theorem dX1_digest_128 : decode cX1_digest 128 = .ok (.ladd, 1) := by decide +kernel
theorem dX1_digest_129 : decode cX1_digest 129 = .ok (.lstore_n 1, 1) := by decide +kernel
theorem dX1_digest_130 : decode cX1_digest 130 = .ok (.iinc 3 1, 3) := by decide +kernel
theorem dX1_digest_133 : decode cX1_digest 133 = .ok (.goto (-100), 3) := by decide +kernel
theorem dX1_digest_136 : decode cX1_digest 136 = .ok (.iconst 0, 1) := by decide +kernel
theorem dX1_digest_137 : decode cX1_digest 137 = .ok (.istore_n 3, 1) := by decide +kernel
theorem dX1_digest_138 : decode cX1_digest 138 = .ok (.iload_n 3, 1) := by decide +kernel
theorem dX1_digest_139 : decode cX1_digest 139 = .ok (.iconst 1, 1) := by decide +kernel
theorem dX1_digest_140 : decode cX1_digest 140 = .ok (.if_icmp .gt 87, 3) := by decide +kernel
theorem dX1_digest_143 : decode cX1_digest 143 = .ok (.lload_n 1, 1) := by decide +kernel
theorem dX1_digest_144 : decode cX1_digest 144 = .ok (.ldc2_w 181, 3) := by decide +kernel
theorem dX1_digest_147 : decode cX1_digest 147 = .ok (.lmul, 1) := by decide +kernel
theorem dX1_digest_148 : decode cX1_digest 148 = .ok (.aload_n 0, 1) := by decide +kernel
theorem dX1_digest_149 : decode cX1_digest 149 = .ok (.iload_n 3, 1) := by decide +kernel
theorem dX1_digest_150 : decode cX1_digest 150 = .ok (.invokevirtual 195, 3) := by decide +kernel
theorem dX1_digest_153 : decode cX1_digest 153 = .ok (.i2l, 1) := by decide +kernel
theorem dX1_digest_154 : decode cX1_digest 154 = .ok (.ladd, 1) := by decide +kernel
theorem dX1_digest_155 : decode cX1_digest 155 = .ok (.lstore_n 1, 1) := by decide +kernel
theorem dX1_digest_156 : decode cX1_digest 156 = .ok (.lload_n 1, 1) := by decide +kernel
theorem dX1_digest_157 : decode cX1_digest 157 = .ok (.ldc2_w 181, 3) := by decide +kernel
theorem dX1_digest_160 : decode cX1_digest 160 = .ok (.lmul, 1) := by decide +kernel
theorem dX1_digest_161 : decode cX1_digest 161 = .ok (.aload_n 0, 1) := by decide +kernel
theorem dX1_digest_162 : decode cX1_digest 162 = .ok (.iload_n 3, 1) := by decide +kernel
theorem dX1_digest_163 : decode cX1_digest 163 = .ok (.invokevirtual 198, 3) := by decide +kernel
theorem dX1_digest_166 : decode cX1_digest 166 = .ok (.i2l, 1) := by decide +kernel
theorem dX1_digest_167 : decode cX1_digest 167 = .ok (.ladd, 1) := by decide +kernel
theorem dX1_digest_168 : decode cX1_digest 168 = .ok (.lstore_n 1, 1) := by decide +kernel
theorem dX1_digest_169 : decode cX1_digest 169 = .ok (.lload_n 1, 1) := by decide +kernel
theorem dX1_digest_170 : decode cX1_digest 170 = .ok (.ldc2_w 181, 3) := by decide +kernel
theorem dX1_digest_173 : decode cX1_digest 173 = .ok (.lmul, 1) := by decide +kernel
theorem dX1_digest_174 : decode cX1_digest 174 = .ok (.aload_n 0, 1) := by decide +kernel
theorem dX1_digest_175 : decode cX1_digest 175 = .ok (.iload_n 3, 1) := by decide +kernel
theorem dX1_digest_176 : decode cX1_digest 176 = .ok (.invokevirtual 201, 3) := by decide +kernel
theorem dX1_digest_179 : decode cX1_digest 179 = .ok (.i2l, 1) := by decide +kernel
theorem dX1_digest_180 : decode cX1_digest 180 = .ok (.ladd, 1) := by decide +kernel
theorem dX1_digest_181 : decode cX1_digest 181 = .ok (.lstore_n 1, 1) := by decide +kernel
theorem dX1_digest_182 : decode cX1_digest 182 = .ok (.lload_n 1, 1) := by decide +kernel
theorem dX1_digest_183 : decode cX1_digest 183 = .ok (.ldc2_w 181, 3) := by decide +kernel
theorem dX1_digest_186 : decode cX1_digest 186 = .ok (.lmul, 1) := by decide +kernel
theorem dX1_digest_187 : decode cX1_digest 187 = .ok (.aload_n 0, 1) := by decide +kernel
theorem dX1_digest_188 : decode cX1_digest 188 = .ok (.iload_n 3, 1) := by decide +kernel
theorem dX1_digest_189 : decode cX1_digest 189 = .ok (.invokevirtual 204, 3) := by decide +kernel
theorem dX1_digest_192 : decode cX1_digest 192 = .ok (.i2l, 1) := by decide +kernel
theorem dX1_digest_193 : decode cX1_digest 193 = .ok (.ladd, 1) := by decide +kernel
theorem dX1_digest_194 : decode cX1_digest 194 = .ok (.lstore_n 1, 1) := by decide +kernel
theorem dX1_digest_195 : decode cX1_digest 195 = .ok (.lload_n 1, 1) := by decide +kernel
theorem dX1_digest_196 : decode cX1_digest 196 = .ok (.ldc2_w 181, 3) := by decide +kernel
theorem dX1_digest_199 : decode cX1_digest 199 = .ok (.lmul, 1) := by decide +kernel
theorem dX1_digest_200 : decode cX1_digest 200 = .ok (.aload_n 0, 1) := by decide +kernel
theorem dX1_digest_201 : decode cX1_digest 201 = .ok (.iload_n 3, 1) := by decide +kernel
theorem dX1_digest_202 : decode cX1_digest 202 = .ok (.invokevirtual 207, 3) := by decide +kernel
theorem dX1_digest_205 : decode cX1_digest 205 = .ok (.i2l, 1) := by decide +kernel
theorem dX1_digest_206 : decode cX1_digest 206 = .ok (.ladd, 1) := by decide +kernel
theorem dX1_digest_207 : decode cX1_digest 207 = .ok (.lstore_n 1, 1) := by decide +kernel
theorem dX1_digest_208 : decode cX1_digest 208 = .ok (.lload_n 1, 1) := by decide +kernel
theorem dX1_digest_209 : decode cX1_digest 209 = .ok (.ldc2_w 181, 3) := by decide +kernel
theorem dX1_digest_212 : decode cX1_digest 212 = .ok (.lmul, 1) := by decide +kernel
theorem dX1_digest_213 : decode cX1_digest 213 = .ok (.aload_n 0, 1) := by decide +kernel
theorem dX1_digest_214 : decode cX1_digest 214 = .ok (.iload_n 3, 1) := by decide +kernel
theorem dX1_digest_215 : decode cX1_digest 215 = .ok (.invokevirtual 210, 3) := by decide +kernel
theorem dX1_digest_218 : decode cX1_digest 218 = .ok (.i2l, 1) := by decide +kernel
theorem dX1_digest_219 : decode cX1_digest 219 = .ok (.ladd, 1) := by decide +kernel
theorem dX1_digest_220 : decode cX1_digest 220 = .ok (.lstore_n 1, 1) := by decide +kernel
theorem dX1_digest_221 : decode cX1_digest 221 = .ok (.iinc 3 1, 3) := by decide +kernel
theorem dX1_digest_224 : decode cX1_digest 224 = .ok (.goto (-86), 3) := by decide +kernel
theorem dX1_digest_227 : decode cX1_digest 227 = .ok (.iconst 0, 1) := by decide +kernel
theorem dX1_digest_228 : decode cX1_digest 228 = .ok (.istore_n 3, 1) := by decide +kernel
theorem dX1_digest_229 : decode cX1_digest 229 = .ok (.iload_n 3, 1) := by decide +kernel
theorem dX1_digest_230 : decode cX1_digest 230 = .ok (.iconst 2, 1) := by decide +kernel
theorem dX1_digest_231 : decode cX1_digest 231 = .ok (.if_icmp .gt 22, 3) := by decide +kernel
theorem dX1_digest_234 : decode cX1_digest 234 = .ok (.lload_n 1, 1) := by decide +kernel
theorem dX1_digest_235 : decode cX1_digest 235 = .ok (.ldc2_w 181, 3) := by decide +kernel
theorem dX1_digest_238 : decode cX1_digest 238 = .ok (.lmul, 1) := by decide +kernel
theorem dX1_digest_239 : decode cX1_digest 239 = .ok (.aload_n 0, 1) := by decide +kernel
theorem dX1_digest_240 : decode cX1_digest 240 = .ok (.iload_n 3, 1) := by decide +kernel
theorem dX1_digest_241 : decode cX1_digest 241 = .ok (.invokevirtual 213, 3) := by decide +kernel
theorem dX1_digest_244 : decode cX1_digest 244 = .ok (.i2l, 1) := by decide +kernel
theorem dX1_digest_245 : decode cX1_digest 245 = .ok (.ladd, 1) := by decide +kernel
theorem dX1_digest_246 : decode cX1_digest 246 = .ok (.lstore_n 1, 1) := by decide +kernel
theorem dX1_digest_247 : decode cX1_digest 247 = .ok (.iinc 3 1, 3) := by decide +kernel
theorem dX1_digest_250 : decode cX1_digest 250 = .ok (.goto (-21), 3) := by decide +kernel
theorem dX1_digest_253 : decode cX1_digest 253 = .ok (.lload_n 1, 1) := by decide +kernel
theorem dX1_digest_254 : decode cX1_digest 254 = .ok (.ldc2_w 181, 3) := by decide +kernel
theorem dX1_digest_257 : decode cX1_digest 257 = .ok (.lmul, 1) := by decide +kernel
theorem dX1_digest_258 : decode cX1_digest 258 = .ok (.aload_n 0, 1) := by decide +kernel
theorem dX1_digest_259 : decode cX1_digest 259 = .ok (.invokevirtual 216, 3) := by decide +kernel
theorem dX1_digest_262 : decode cX1_digest 262 = .ok (.ifCond .eq 7, 3) := by decide +kernel
theorem dX1_digest_265 : decode cX1_digest 265 = .ok (.iconst 1, 1) := by decide +kernel
theorem dX1_digest_266 : decode cX1_digest 266 = .ok (.goto 4, 3) := by decide +kernel
theorem dX1_digest_269 : decode cX1_digest 269 = .ok (.iconst 0, 1) := by decide +kernel
theorem dX1_digest_270 : decode cX1_digest 270 = .ok (.i2l, 1) := by decide +kernel
theorem dX1_digest_271 : decode cX1_digest 271 = .ok (.ladd, 1) := by decide +kernel
theorem dX1_digest_272 : decode cX1_digest 272 = .ok (.lreturn, 1) := by decide +kernel
theorem dX1_checkPlace_0 : decode cX1_checkPlace 0 = .ok (.iload_n 1, 1) := by decide +kernel
theorem dX1_checkPlace_1 : decode cX1_checkPlace 1 = .ok (.ifCond .lt 14, 3) := by decide +kernel
theorem dX1_checkPlace_4 : decode cX1_checkPlace 4 = .ok (.iload_n 1, 1) := by decide +kernel
theorem dX1_checkPlace_5 : decode cX1_checkPlace 5 = .ok (.aload_n 0, 1) := by decide +kernel
theorem dX1_checkPlace_6 : decode cX1_checkPlace 6 = .ok (.getfield 10, 3) := by decide +kernel
theorem dX1_checkPlace_9 : decode cX1_checkPlace 9 = .ok (.getfield 23, 3) := by decide +kernel
theorem dX1_checkPlace_12 : decode cX1_checkPlace 12 = .ok (.if_icmp .lt 13, 3) := by decide +kernel
theorem dX1_checkPlace_15 : decode cX1_checkPlace 15 = .ok (.new 219, 3) := by decide +kernel
theorem dX1_checkPlace_18 : decode cX1_checkPlace 18 = .ok (.dup, 1) := by decide +kernel
theorem dX1_checkPlace_19 : decode cX1_checkPlace 19 = .ok (.ldc 221, 2) := by decide +kernel
theorem dX1_checkPlace_21 : decode cX1_checkPlace 21 = .ok (.invokespecial 223, 3) := by decide +kernel
theorem dX1_checkPlace_24 : decode cX1_checkPlace 24 = .ok (.athrow, 1) := by decide +kernel
theorem dX1_checkPlace_25 : decode cX1_checkPlace 25 = .ok (.return_, 1) := by decide +kernel
set_option maxRecDepth 20000 in
theorem ggX1_checkSet_X0_all : GoodIn wsX1_checkSet wsX0_all := goodIn_r _ [6, 7, 21, 22, 23, 24, 25, 26] (by decide +kernel) (by decide +kernel)
set_option maxRecDepth 20000 in
theorem gX1_checkSet_X0_all : GoodIn wsX1_checkSet (wsV RX1 93 RX0 yX0_all wsX0_all) := goodIn_app (goodIn_of _ (by decide +kernel)) ggX1_checkSet_X0_all
set_option maxRecDepth 20000 in
theorem ggX1_checkSet_X1_checkBetween : GoodIn wsX1_checkSet wsX1_checkBetween := goodIn_ca (goodIn_r _ [11, 12, 13] (by decide +kernel) (by decide +kernel)) (goodIn_sub (fun _ h => List.mem_cons_of_mem _ (List.mem_append_right _ h)) (by decide +kernel))
set_option maxRecDepth 20000 in
theorem gX1_checkSet_X1_checkBetween : GoodIn wsX1_checkSet (va_wsS RX1 19 yX1_checkBetween wsX1_checkBetween) := goodIn_app (goodIn_of _ (by decide +kernel)) ggX1_checkSet_X1_checkBetween
theorem dX1_checkSet_0 : decode cX1_checkSet 0 = .ok (.iload_n 1, 1) := by decide +kernel
theorem dX1_checkSet_1 : decode cX1_checkSet 1 = .ok (.iconst 0, 1) := by decide +kernel
theorem dX1_checkSet_2 : decode cX1_checkSet 2 = .ok (.aload_n 0, 1) := by decide +kernel
theorem dX1_checkSet_3 : decode cX1_checkSet 3 = .ok (.getfield 10, 3) := by decide +kernel
theorem dX1_checkSet_6 : decode cX1_checkSet 6 = .ok (.invokevirtual 93, 3) := by decide +kernel
theorem dX1_checkSet_9 : decode cX1_checkSet 9 = .ok (.invokestatic 19, 3) := by decide +kernel
theorem dX1_checkSet_12 : decode cX1_checkSet 12 = .ok (.return_, 1) := by decide +kernel
set_option maxRecDepth 20000 in
theorem ggX1_checkSide_X1_checkBetween : GoodIn wsX1_checkSide wsX1_checkBetween := goodIn_ca (goodIn_r _ [4, 5, 6] (by decide +kernel) (by decide +kernel)) (goodIn_sub (fun _ h => List.mem_cons_of_mem _ (List.mem_append_right _ h)) (by decide +kernel))
set_option maxRecDepth 20000 in
theorem gX1_checkSide_X1_checkBetween : GoodIn wsX1_checkSide (va_wsS RX1 19 yX1_checkBetween wsX1_checkBetween) := goodIn_app (goodIn_of _ (by decide +kernel)) ggX1_checkSide_X1_checkBetween
theorem dX1_checkSide_0 : decode cX1_checkSide 0 = .ok (.iload_n 0, 1) := by decide +kernel
theorem dX1_checkSide_1 : decode cX1_checkSide 1 = .ok (.iconst 0, 1) := by decide +kernel
theorem dX1_checkSide_2 : decode cX1_checkSide 2 = .ok (.iconst 1, 1) := by decide +kernel
theorem dX1_checkSide_3 : decode cX1_checkSide 3 = .ok (.invokestatic 19, 3) := by decide +kernel
theorem dX1_checkSide_6 : decode cX1_checkSide 6 = .ok (.return_, 1) := by decide +kernel
theorem dX1_checkBetween_0 : decode cX1_checkBetween 0 = .ok (.iload_n 0, 1) := by decide +kernel
theorem dX1_checkBetween_1 : decode cX1_checkBetween 1 = .ok (.iload_n 1, 1) := by decide +kernel
theorem dX1_checkBetween_2 : decode cX1_checkBetween 2 = .ok (.if_icmp .lt 8, 3) := by decide +kernel
theorem dX1_checkBetween_5 : decode cX1_checkBetween 5 = .ok (.iload_n 0, 1) := by decide +kernel
theorem dX1_checkBetween_6 : decode cX1_checkBetween 6 = .ok (.iload_n 2, 1) := by decide +kernel
theorem dX1_checkBetween_7 : decode cX1_checkBetween 7 = .ok (.if_icmp .le 13, 3) := by decide +kernel
theorem dX1_checkBetween_10 : decode cX1_checkBetween 10 = .ok (.new 226, 3) := by decide +kernel
theorem dX1_checkBetween_13 : decode cX1_checkBetween 13 = .ok (.dup, 1) := by decide +kernel
theorem dX1_checkBetween_14 : decode cX1_checkBetween 14 = .ok (.ldc 228, 2) := by decide +kernel
theorem dX1_checkBetween_16 : decode cX1_checkBetween 16 = .ok (.invokespecial 230, 3) := by decide +kernel
theorem dX1_checkBetween_19 : decode cX1_checkBetween 19 = .ok (.athrow, 1) := by decide +kernel
theorem dX1_checkBetween_20 : decode cX1_checkBetween 20 = .ok (.return_, 1) := by decide +kernel
theorem dX1_refuse_0 : decode cX1_refuse 0 = .ok (.aload_n 0, 1) := by decide +kernel
theorem dX1_refuse_1 : decode cX1_refuse 1 = .ok (.dup, 1) := by decide +kernel
theorem dX1_refuse_2 : decode cX1_refuse 2 = .ok (.getfield 162, 3) := by decide +kernel
theorem dX1_refuse_5 : decode cX1_refuse 5 = .ok (.iconst 1, 1) := by decide +kernel
theorem dX1_refuse_6 : decode cX1_refuse 6 = .ok (.iadd, 1) := by decide +kernel
theorem dX1_refuse_7 : decode cX1_refuse 7 = .ok (.putfield 162, 3) := by decide +kernel
theorem dX1_refuse_10 : decode cX1_refuse 10 = .ok (.bipush (-9), 2) := by decide +kernel
theorem dX1_refuse_12 : decode cX1_refuse 12 = .ok (.ireturn, 1) := by decide +kernel
theorem dX1_moveStone_0 : decode cX1_moveStone 0 = .ok (.aload_n 0, 1) := by decide +kernel
theorem dX1_moveStone_1 : decode cX1_moveStone 1 = .ok (.iload_n 1, 1) := by decide +kernel
theorem dX1_moveStone_2 : decode cX1_moveStone 2 = .ok (.putfield 31, 3) := by decide +kernel
theorem dX1_moveStone_5 : decode cX1_moveStone 5 = .ok (.aload_n 0, 1) := by decide +kernel
theorem dX1_moveStone_6 : decode cX1_moveStone 6 = .ok (.dup, 1) := by decide +kernel
theorem dX1_moveStone_7 : decode cX1_moveStone 7 = .ok (.getfield 34, 3) := by decide +kernel
theorem dX1_moveStone_10 : decode cX1_moveStone 10 = .ok (.iconst 1, 1) := by decide +kernel
theorem dX1_moveStone_11 : decode cX1_moveStone 11 = .ok (.iadd, 1) := by decide +kernel
theorem dX1_moveStone_12 : decode cX1_moveStone 12 = .ok (.putfield 34, 3) := by decide +kernel
theorem dX1_moveStone_15 : decode cX1_moveStone 15 = .ok (.aload_n 0, 1) := by decide +kernel
theorem dX1_moveStone_16 : decode cX1_moveStone 16 = .ok (.dup, 1) := by decide +kernel
theorem dX1_moveStone_17 : decode cX1_moveStone 17 = .ok (.getfield 37, 3) := by decide +kernel
theorem dX1_moveStone_20 : decode cX1_moveStone 20 = .ok (.iconst 1, 1) := by decide +kernel
theorem dX1_moveStone_21 : decode cX1_moveStone 21 = .ok (.iadd, 1) := by decide +kernel
theorem dX1_moveStone_22 : decode cX1_moveStone 22 = .ok (.putfield 37, 3) := by decide +kernel
theorem dX1_moveStone_25 : decode cX1_moveStone 25 = .ok (.return_, 1) := by decide +kernel
set_option maxRecDepth 20000 in
theorem ggX1_playedFrom_X0_sideOf : GoodIn wsX1_playedFrom wsX0_sideOf := goodIn_r _ [6, 7, 79, 80, 81, 82, 83, 84] (by decide +kernel) (by decide +kernel)
set_option maxRecDepth 20000 in
theorem gX1_playedFrom_X0_sideOf : GoodIn wsX1_playedFrom (wsV RX1 46 RX0 yX0_sideOf wsX0_sideOf) := goodIn_app (goodIn_of _ (by decide +kernel)) ggX1_playedFrom_X0_sideOf
set_option maxRecDepth 20000 in
theorem ggX1_playedFrom_X0_pick : GoodIn wsX1_playedFrom wsX0_pick := goodIn_r _ [11, 12, 13, 14, 5, 15, 16, 17, 18, 19, 20, 21, 22, 23, 24, 25, 26, 7, 27, 28, 29, 30, 31, 32, 33, 34, 35, 36, 37, 38, 39, 40, 41, 42, 43, 44, 45, 46, 47, 48, 49, 50, 51, 52, 53, 54, 55, 56, 57, 58, 59, 60, 61, 62, 63, 64, 65, 66, 67, 68, 69, 79, 80, 81, 82, 83, 84] (by decide +kernel) (by decide +kernel)
set_option maxRecDepth 20000 in
theorem gX1_playedFrom_X0_pick : GoodIn wsX1_playedFrom (wsV RX1 110 RX0 yX0_pick wsX0_pick) := goodIn_app (goodIn_of _ (by decide +kernel)) ggX1_playedFrom_X0_pick
set_option maxRecDepth 20000 in
theorem ggX1_playedFrom_X0_waysFrom : GoodIn wsX1_playedFrom wsX0_waysFrom := goodIn_r _ [59, 26, 79, 80, 81, 82, 83, 84] (by decide +kernel) (by decide +kernel)
set_option maxRecDepth 20000 in
theorem gX1_playedFrom_X0_waysFrom : GoodIn wsX1_playedFrom (wsV RX1 66 RX0 yX0_waysFrom wsX0_waysFrom) := goodIn_app (goodIn_of _ (by decide +kernel)) ggX1_playedFrom_X0_waysFrom
set_option maxRecDepth 20000 in
theorem ggX1_playedFrom_X1_least : GoodIn wsX1_playedFrom wsX1_least := goodIn_r _ [61, 62, 63, 54, 64, 65, 53, 55] (by decide +kernel) (by decide +kernel)
set_option maxRecDepth 20000 in
theorem gX1_playedFrom_X1_least : GoodIn wsX1_playedFrom (va_wsS RX1 231 yX1_least wsX1_least) := goodIn_app (goodIn_of _ (by decide +kernel)) ggX1_playedFrom_X1_least
theorem dX1_playedFrom_0 : decode cX1_playedFrom 0 = .ok (.aload_n 0, 1) := by decide +kernel
theorem dX1_playedFrom_1 : decode cX1_playedFrom 1 = .ok (.getfield 10, 3) := by decide +kernel
theorem dX1_playedFrom_4 : decode cX1_playedFrom 4 = .ok (.iload_n 2, 1) := by decide +kernel
theorem dX1_playedFrom_5 : decode cX1_playedFrom 5 = .ok (.invokevirtual 46, 3) := by decide +kernel
theorem dX1_playedFrom_8 : decode cX1_playedFrom 8 = .ok (.istore_n 3, 1) := by decide +kernel
theorem dX1_playedFrom_9 : decode cX1_playedFrom 9 = .ok (.aload_n 0, 1) := by decide +kernel
theorem dX1_playedFrom_10 : decode cX1_playedFrom 10 = .ok (.getfield 10, 3) := by decide +kernel
theorem dX1_playedFrom_13 : decode cX1_playedFrom 13 = .ok (.iload_n 3, 1) := by decide +kernel
theorem dX1_playedFrom_14 : decode cX1_playedFrom 14 = .ok (.iload_n 1, 1) := by decide +kernel
theorem dX1_playedFrom_15 : decode cX1_playedFrom 15 = .ok (.if_icmp .ne 7, 3) := by decide +kernel
theorem dX1_playedFrom_18 : decode cX1_playedFrom 18 = .ok (.iconst 0, 1) := by decide +kernel
theorem dX1_playedFrom_19 : decode cX1_playedFrom 19 = .ok (.goto 4, 3) := by decide +kernel
theorem dX1_playedFrom_22 : decode cX1_playedFrom 22 = .ok (.iconst 1, 1) := by decide +kernel
theorem dX1_playedFrom_23 : decode cX1_playedFrom 23 = .ok (.iload_n 3, 1) := by decide +kernel
theorem dX1_playedFrom_24 : decode cX1_playedFrom 24 = .ok (.iload_n 2, 1) := by decide +kernel
theorem dX1_playedFrom_25 : decode cX1_playedFrom 25 = .ok (.invokevirtual 110, 3) := by decide +kernel
theorem dX1_playedFrom_28 : decode cX1_playedFrom 28 = .ok (.istore 4, 2) := by decide +kernel
theorem dX1_playedFrom_30 : decode cX1_playedFrom 30 = .ok (.iload 4, 2) := by decide +kernel
theorem dX1_playedFrom_32 : decode cX1_playedFrom 32 = .ok (.iconst (-1), 1) := by decide +kernel
theorem dX1_playedFrom_33 : decode cX1_playedFrom 33 = .ok (.if_icmp .ne 17, 3) := by decide +kernel
theorem dX1_playedFrom_36 : decode cX1_playedFrom 36 = .ok (.aload_n 0, 1) := by decide +kernel
theorem dX1_playedFrom_37 : decode cX1_playedFrom 37 = .ok (.getfield 10, 3) := by decide +kernel
theorem dX1_playedFrom_40 : decode cX1_playedFrom 40 = .ok (.iload_n 2, 1) := by decide +kernel
theorem dX1_playedFrom_41 : decode cX1_playedFrom 41 = .ok (.invokevirtual 66, 3) := by decide +kernel
theorem dX1_playedFrom_44 : decode cX1_playedFrom 44 = .ok (.invokestatic 231, 3) := by decide +kernel
theorem dX1_playedFrom_47 : decode cX1_playedFrom 47 = .ok (.goto 5, 3) := by decide +kernel
theorem dX1_playedFrom_50 : decode cX1_playedFrom 50 = .ok (.iload 4, 2) := by decide +kernel
theorem dX1_playedFrom_52 : decode cX1_playedFrom 52 = .ok (.ireturn, 1) := by decide +kernel
set_option maxRecDepth 20000 in
theorem ggX1_holdsByChoices_X0_copyFrom : GoodIn wsX1_holdsByChoices wsX0_copyFrom := goodIn_r _ [7, 8, 9, 10, 11, 12, 13, 14, 15, 16, 6, 17, 78, 79, 80, 81, 82, 83] (by decide +kernel) (by decide +kernel)
set_option maxRecDepth 20000 in
theorem gX1_holdsByChoices_X0_copyFrom : GoodIn wsX1_holdsByChoices (wsV RX1 86 RX0 yX0_copyFrom wsX0_copyFrom) := goodIn_app (goodIn_of _ (by decide +kernel)) ggX1_holdsByChoices_X0_copyFrom
set_option maxRecDepth 20000 in
theorem ggX1_holdsByChoices_X0_won : GoodIn wsX1_holdsByChoices wsX0_won := goodIn_r _ [21, 10, 22, 23, 24, 6, 25, 26, 27, 28, 29, 8, 13, 9, 30, 31, 32, 33, 34, 35, 36, 37, 38, 39, 40, 41, 11, 12, 42, 43, 44, 45, 78, 79, 80, 81, 82, 83] (by decide +kernel) (by decide +kernel)
set_option maxRecDepth 20000 in
theorem gX1_holdsByChoices_X0_won : GoodIn wsX1_holdsByChoices (wsV RX1 141 RX0 yX0_won wsX0_won) := goodIn_app (goodIn_of _ (by decide +kernel)) ggX1_holdsByChoices_X0_won
set_option maxRecDepth 20000 in
theorem ggX1_holdsByChoices_X0_pickWithin : GoodIn wsX1_holdsByChoices wsX0_pickWithin := goodIn_r _ [49, 10, 50, 51, 52, 6, 53, 9, 30, 31, 32, 33, 8, 54, 55, 56, 14, 15, 16, 17, 13, 57, 58, 59, 60, 61, 62, 63, 64, 65, 66, 26, 27, 28, 29, 78, 79, 80, 81, 82, 83] (by decide +kernel) (by decide +kernel)
set_option maxRecDepth 20000 in
theorem gX1_holdsByChoices_X0_pickWithin : GoodIn wsX1_holdsByChoices (wsV RX1 234 RX0 yX0_pickWithin wsX0_pickWithin) := goodIn_app (goodIn_of _ (by decide +kernel)) ggX1_holdsByChoices_X0_pickWithin
set_option maxRecDepth 20000 in
theorem ggX1_holdsByChoices_X0_setWays : GoodIn wsX1_holdsByChoices wsX0_setWays := goodIn_r _ [70, 13, 78, 79, 80, 81, 82, 83] (by decide +kernel) (by decide +kernel)
set_option maxRecDepth 20000 in
theorem gX1_holdsByChoices_X0_setWays : GoodIn wsX1_holdsByChoices (wsV RX1 238 RX0 yX0_setWays wsX0_setWays) := goodIn_app (goodIn_of _ (by decide +kernel)) ggX1_holdsByChoices_X0_setWays
theorem dX1_holdsByChoices_0 : decode cX1_holdsByChoices 0 = .ok (.aload_n 0, 1) := by decide +kernel
theorem dX1_holdsByChoices_1 : decode cX1_holdsByChoices 1 = .ok (.getfield 16, 3) := by decide +kernel
theorem dX1_holdsByChoices_4 : decode cX1_holdsByChoices 4 = .ok (.aload_n 0, 1) := by decide +kernel
theorem dX1_holdsByChoices_5 : decode cX1_holdsByChoices 5 = .ok (.getfield 10, 3) := by decide +kernel
theorem dX1_holdsByChoices_8 : decode cX1_holdsByChoices 8 = .ok (.invokevirtual 86, 3) := by decide +kernel
theorem dX1_holdsByChoices_11 : decode cX1_holdsByChoices 11 = .ok (.aload_n 0, 1) := by decide +kernel
theorem dX1_holdsByChoices_12 : decode cX1_holdsByChoices 12 = .ok (.getfield 10, 3) := by decide +kernel
theorem dX1_holdsByChoices_15 : decode cX1_holdsByChoices 15 = .ok (.iload_n 1, 1) := by decide +kernel
theorem dX1_holdsByChoices_16 : decode cX1_holdsByChoices 16 = .ok (.iload_n 2, 1) := by decide +kernel
theorem dX1_holdsByChoices_17 : decode cX1_holdsByChoices 17 = .ok (.invokevirtual 141, 3) := by decide +kernel
theorem dX1_holdsByChoices_20 : decode cX1_holdsByChoices 20 = .ok (.istore_n 3, 1) := by decide +kernel
theorem dX1_holdsByChoices_21 : decode cX1_holdsByChoices 21 = .ok (.iconst 0, 1) := by decide +kernel
theorem dX1_holdsByChoices_22 : decode cX1_holdsByChoices 22 = .ok (.istore 4, 2) := by decide +kernel
theorem dX1_holdsByChoices_24 : decode cX1_holdsByChoices 24 = .ok (.iload 4, 2) := by decide +kernel
theorem dX1_holdsByChoices_26 : decode cX1_holdsByChoices 26 = .ok (.aload_n 0, 1) := by decide +kernel
theorem dX1_holdsByChoices_27 : decode cX1_holdsByChoices 27 = .ok (.getfield 10, 3) := by decide +kernel
theorem dX1_holdsByChoices_30 : decode cX1_holdsByChoices 30 = .ok (.getfield 23, 3) := by decide +kernel
theorem dX1_holdsByChoices_33 : decode cX1_holdsByChoices 33 = .ok (.if_icmp .ge 42, 3) := by decide +kernel
theorem dX1_holdsByChoices_36 : decode cX1_holdsByChoices 36 = .ok (.aload_n 0, 1) := by decide +kernel
theorem dX1_holdsByChoices_37 : decode cX1_holdsByChoices 37 = .ok (.getfield 10, 3) := by decide +kernel
theorem dX1_holdsByChoices_40 : decode cX1_holdsByChoices 40 = .ok (.iload_n 1, 1) := by decide +kernel
theorem dX1_holdsByChoices_41 : decode cX1_holdsByChoices 41 = .ok (.iload_n 2, 1) := by decide +kernel
theorem dX1_holdsByChoices_42 : decode cX1_holdsByChoices 42 = .ok (.iload 4, 2) := by decide +kernel
theorem dX1_holdsByChoices_44 : decode cX1_holdsByChoices 44 = .ok (.iload_n 3, 1) := by decide +kernel
theorem dX1_holdsByChoices_45 : decode cX1_holdsByChoices 45 = .ok (.invokevirtual 234, 3) := by decide +kernel
theorem dX1_holdsByChoices_48 : decode cX1_holdsByChoices 48 = .ok (.istore 5, 2) := by decide +kernel
theorem dX1_holdsByChoices_50 : decode cX1_holdsByChoices 50 = .ok (.iload 5, 2) := by decide +kernel
theorem dX1_holdsByChoices_52 : decode cX1_holdsByChoices 52 = .ok (.iconst (-1), 1) := by decide +kernel
theorem dX1_holdsByChoices_53 : decode cX1_holdsByChoices 53 = .ok (.if_icmp .eq 16, 3) := by decide +kernel
theorem dX1_holdsByChoices_56 : decode cX1_holdsByChoices 56 = .ok (.aload_n 0, 1) := by decide +kernel
theorem dX1_holdsByChoices_57 : decode cX1_holdsByChoices 57 = .ok (.getfield 16, 3) := by decide +kernel
theorem dX1_holdsByChoices_60 : decode cX1_holdsByChoices 60 = .ok (.iload 4, 2) := by decide +kernel
theorem dX1_holdsByChoices_62 : decode cX1_holdsByChoices 62 = .ok (.iconst 1, 1) := by decide +kernel
theorem dX1_holdsByChoices_63 : decode cX1_holdsByChoices 63 = .ok (.iload 5, 2) := by decide +kernel
theorem dX1_holdsByChoices_65 : decode cX1_holdsByChoices 65 = .ok (.ishl, 1) := by decide +kernel
theorem dX1_holdsByChoices_66 : decode cX1_holdsByChoices 66 = .ok (.invokevirtual 238, 3) := by decide +kernel
theorem dX1_holdsByChoices_69 : decode cX1_holdsByChoices 69 = .ok (.iinc 4 1, 3) := by decide +kernel
theorem dX1_holdsByChoices_72 : decode cX1_holdsByChoices 72 = .ok (.goto (-48), 3) := by decide +kernel
theorem dX1_holdsByChoices_75 : decode cX1_holdsByChoices 75 = .ok (.iload_n 3, 1) := by decide +kernel
theorem dX1_holdsByChoices_76 : decode cX1_holdsByChoices 76 = .ok (.aload_n 0, 1) := by decide +kernel
theorem dX1_holdsByChoices_77 : decode cX1_holdsByChoices 77 = .ok (.getfield 16, 3) := by decide +kernel
theorem dX1_holdsByChoices_80 : decode cX1_holdsByChoices 80 = .ok (.iload_n 1, 1) := by decide +kernel
theorem dX1_holdsByChoices_81 : decode cX1_holdsByChoices 81 = .ok (.iload_n 2, 1) := by decide +kernel
theorem dX1_holdsByChoices_82 : decode cX1_holdsByChoices 82 = .ok (.invokevirtual 141, 3) := by decide +kernel
theorem dX1_holdsByChoices_85 : decode cX1_holdsByChoices 85 = .ok (.iconst (-1), 1) := by decide +kernel
theorem dX1_holdsByChoices_86 : decode cX1_holdsByChoices 86 = .ok (.ixor, 1) := by decide +kernel
theorem dX1_holdsByChoices_87 : decode cX1_holdsByChoices 87 = .ok (.iand, 1) := by decide +kernel
theorem dX1_holdsByChoices_88 : decode cX1_holdsByChoices 88 = .ok (.ifCond .ne 7, 3) := by decide +kernel
theorem dX1_holdsByChoices_91 : decode cX1_holdsByChoices 91 = .ok (.iconst 1, 1) := by decide +kernel
theorem dX1_holdsByChoices_92 : decode cX1_holdsByChoices 92 = .ok (.goto 4, 3) := by decide +kernel
theorem dX1_holdsByChoices_95 : decode cX1_holdsByChoices 95 = .ok (.iconst 0, 1) := by decide +kernel
theorem dX1_holdsByChoices_96 : decode cX1_holdsByChoices 96 = .ok (.ireturn, 1) := by decide +kernel
set_option maxRecDepth 20000 in
theorem ggX1_layChoices_X0_copyFrom : GoodIn wsX1_layChoices wsX0_copyFrom := goodIn_r _ [7, 8, 9, 10, 11, 12, 13, 14, 15, 16, 6, 17, 48, 49, 50, 51, 52, 53] (by decide +kernel) (by decide +kernel)
set_option maxRecDepth 20000 in
theorem gX1_layChoices_X0_copyFrom : GoodIn wsX1_layChoices (wsV RX1 86 RX0 yX0_copyFrom wsX0_copyFrom) := goodIn_app (goodIn_of _ (by decide +kernel)) ggX1_layChoices_X0_copyFrom
set_option maxRecDepth 20000 in
theorem ggX1_layChoices_X0_waysFrom : GoodIn wsX1_layChoices wsX0_waysFrom := goodIn_r _ [17, 13, 48, 49, 50, 51, 52, 53] (by decide +kernel) (by decide +kernel)
set_option maxRecDepth 20000 in
theorem gX1_layChoices_X0_waysFrom : GoodIn wsX1_layChoices (wsV RX1 66 RX0 yX0_waysFrom wsX0_waysFrom) := goodIn_app (goodIn_of _ (by decide +kernel)) ggX1_layChoices_X0_waysFrom
set_option maxRecDepth 20000 in
theorem ggX1_layChoices_J6_bitCount_0f7a4 : GoodIn wsX1_layChoices wsJ6_bitCount_0f7a4 := goodIn_r _ [22, 23, 24, 25] (by decide +kernel) (by decide +kernel)
set_option maxRecDepth 20000 in
theorem gX1_layChoices_J6_bitCount_0f7a4 : GoodIn wsX1_layChoices (va_wsS RX1 102 yJ6_bitCount_0f7a4 wsJ6_bitCount_0f7a4) := goodIn_app (goodIn_of _ (by decide +kernel)) ggX1_layChoices_J6_bitCount_0f7a4
set_option maxRecDepth 20000 in
theorem ggX1_layChoices_X0_sideOf : GoodIn wsX1_layChoices wsX0_sideOf := goodIn_r _ [29, 9, 48, 49, 50, 51, 52, 53] (by decide +kernel) (by decide +kernel)
set_option maxRecDepth 20000 in
theorem gX1_layChoices_X0_sideOf : GoodIn wsX1_layChoices (wsV RX1 46 RX0 yX0_sideOf wsX0_sideOf) := goodIn_app (goodIn_of _ (by decide +kernel)) ggX1_layChoices_X0_sideOf
set_option maxRecDepth 20000 in
theorem ggX1_layChoices_X1_member : GoodIn wsX1_layChoices wsX1_member := goodIn_r _ [33, 34, 35, 32, 36] (by decide +kernel) (by decide +kernel)
set_option maxRecDepth 20000 in
theorem gX1_layChoices_X1_member : GoodIn wsX1_layChoices (va_wsS RX1 241 yX1_member wsX1_member) := goodIn_app (goodIn_of _ (by decide +kernel)) ggX1_layChoices_X1_member
set_option maxRecDepth 20000 in
theorem ggX1_layChoices_X0_setWays : GoodIn wsX1_layChoices wsX0_setWays := goodIn_r _ [40, 13, 48, 49, 50, 51, 52, 53] (by decide +kernel) (by decide +kernel)
set_option maxRecDepth 20000 in
theorem gX1_layChoices_X0_setWays : GoodIn wsX1_layChoices (wsV RX1 238 RX0 yX0_setWays wsX0_setWays) := goodIn_app (goodIn_of _ (by decide +kernel)) ggX1_layChoices_X0_setWays
theorem dX1_layChoices_0 : decode cX1_layChoices 0 = .ok (.aload_n 0, 1) := by decide +kernel
theorem dX1_layChoices_1 : decode cX1_layChoices 1 = .ok (.getfield 16, 3) := by decide +kernel
theorem dX1_layChoices_4 : decode cX1_layChoices 4 = .ok (.aload_n 0, 1) := by decide +kernel
theorem dX1_layChoices_5 : decode cX1_layChoices 5 = .ok (.getfield 10, 3) := by decide +kernel
theorem dX1_layChoices_8 : decode cX1_layChoices 8 = .ok (.invokevirtual 86, 3) := by decide +kernel
theorem dX1_layChoices_11 : decode cX1_layChoices 11 = .ok (.iload_n 2, 1) := by decide +kernel
theorem dX1_layChoices_12 : decode cX1_layChoices 12 = .ok (.istore_n 3, 1) := by decide +kernel
theorem dX1_layChoices_13 : decode cX1_layChoices 13 = .ok (.iconst 0, 1) := by decide +kernel
theorem dX1_layChoices_14 : decode cX1_layChoices 14 = .ok (.istore 4, 2) := by decide +kernel
theorem dX1_layChoices_16 : decode cX1_layChoices 16 = .ok (.iload 4, 2) := by decide +kernel
theorem dX1_layChoices_18 : decode cX1_layChoices 18 = .ok (.aload_n 0, 1) := by decide +kernel
theorem dX1_layChoices_19 : decode cX1_layChoices 19 = .ok (.getfield 10, 3) := by decide +kernel
theorem dX1_layChoices_22 : decode cX1_layChoices 22 = .ok (.getfield 23, 3) := by decide +kernel
theorem dX1_layChoices_25 : decode cX1_layChoices 25 = .ok (.if_icmp .ge 70, 3) := by decide +kernel
theorem dX1_layChoices_28 : decode cX1_layChoices 28 = .ok (.aload_n 0, 1) := by decide +kernel
theorem dX1_layChoices_29 : decode cX1_layChoices 29 = .ok (.getfield 10, 3) := by decide +kernel
theorem dX1_layChoices_32 : decode cX1_layChoices 32 = .ok (.iload 4, 2) := by decide +kernel
theorem dX1_layChoices_34 : decode cX1_layChoices 34 = .ok (.invokevirtual 66, 3) := by decide +kernel
theorem dX1_layChoices_37 : decode cX1_layChoices 37 = .ok (.istore 5, 2) := by decide +kernel
theorem dX1_layChoices_39 : decode cX1_layChoices 39 = .ok (.iload 5, 2) := by decide +kernel
theorem dX1_layChoices_41 : decode cX1_layChoices 41 = .ok (.invokestatic 102, 3) := by decide +kernel
theorem dX1_layChoices_44 : decode cX1_layChoices 44 = .ok (.istore 6, 2) := by decide +kernel
theorem dX1_layChoices_46 : decode cX1_layChoices 46 = .ok (.iload 6, 2) := by decide +kernel
theorem dX1_layChoices_48 : decode cX1_layChoices 48 = .ok (.ifCond .le 41, 3) := by decide +kernel
theorem dX1_layChoices_51 : decode cX1_layChoices 51 = .ok (.aload_n 0, 1) := by decide +kernel
theorem dX1_layChoices_52 : decode cX1_layChoices 52 = .ok (.getfield 10, 3) := by decide +kernel
theorem dX1_layChoices_55 : decode cX1_layChoices 55 = .ok (.iload 4, 2) := by decide +kernel
theorem dX1_layChoices_57 : decode cX1_layChoices 57 = .ok (.invokevirtual 46, 3) := by decide +kernel
theorem dX1_layChoices_60 : decode cX1_layChoices 60 = .ok (.iload_n 1, 1) := by decide +kernel
theorem dX1_layChoices_61 : decode cX1_layChoices 61 = .ok (.if_icmp .ne 28, 3) := by decide +kernel
theorem dX1_layChoices_64 : decode cX1_layChoices 64 = .ok (.aload_n 0, 1) := by decide +kernel
theorem dX1_layChoices_65 : decode cX1_layChoices 65 = .ok (.getfield 16, 3) := by decide +kernel
theorem dX1_layChoices_68 : decode cX1_layChoices 68 = .ok (.iload 4, 2) := by decide +kernel
theorem dX1_layChoices_70 : decode cX1_layChoices 70 = .ok (.iconst 1, 1) := by decide +kernel
theorem dX1_layChoices_71 : decode cX1_layChoices 71 = .ok (.iload 5, 2) := by decide +kernel
theorem dX1_layChoices_73 : decode cX1_layChoices 73 = .ok (.iload_n 3, 1) := by decide +kernel
theorem dX1_layChoices_74 : decode cX1_layChoices 74 = .ok (.iload 6, 2) := by decide +kernel
theorem dX1_layChoices_76 : decode cX1_layChoices 76 = .ok (.irem, 1) := by decide +kernel
theorem dX1_layChoices_77 : decode cX1_layChoices 77 = .ok (.invokestatic 241, 3) := by decide +kernel
theorem dX1_layChoices_80 : decode cX1_layChoices 80 = .ok (.ishl, 1) := by decide +kernel
theorem dX1_layChoices_81 : decode cX1_layChoices 81 = .ok (.invokevirtual 238, 3) := by decide +kernel
theorem dX1_layChoices_84 : decode cX1_layChoices 84 = .ok (.iload_n 3, 1) := by decide +kernel
theorem dX1_layChoices_85 : decode cX1_layChoices 85 = .ok (.iload 6, 2) := by decide +kernel
theorem dX1_layChoices_87 : decode cX1_layChoices 87 = .ok (.idiv, 1) := by decide +kernel
theorem dX1_layChoices_88 : decode cX1_layChoices 88 = .ok (.istore_n 3, 1) := by decide +kernel
theorem dX1_layChoices_89 : decode cX1_layChoices 89 = .ok (.iinc 4 1, 3) := by decide +kernel
theorem dX1_layChoices_92 : decode cX1_layChoices 92 = .ok (.goto (-76), 3) := by decide +kernel
theorem dX1_layChoices_95 : decode cX1_layChoices 95 = .ok (.return_, 1) := by decide +kernel
set_option maxRecDepth 20000 in
theorem ggX1_isComingSound_X0_won : GoodIn wsX1_isComingSound wsX0_won := goodIn_r _ [6, 7, 8, 9, 10, 5, 11, 12, 13, 14, 15, 16, 17, 18, 19, 20, 21, 22, 23, 24, 25, 26, 27, 28, 29, 30, 31, 32, 33, 34, 35, 36, 46, 47, 48, 49, 50, 51] (by decide +kernel) (by decide +kernel)
set_option maxRecDepth 20000 in
theorem gX1_isComingSound_X0_won : GoodIn wsX1_isComingSound (wsV RX1 141 RX0 yX0_won wsX0_won) := goodIn_app (goodIn_of _ (by decide +kernel)) ggX1_isComingSound_X0_won
set_option maxRecDepth 20000 in
theorem ggX1_isComingSound_X0_all : GoodIn wsX1_isComingSound wsX0_all := goodIn_r _ [22, 16, 46, 47, 48, 49, 50, 51] (by decide +kernel) (by decide +kernel)
set_option maxRecDepth 20000 in
theorem gX1_isComingSound_X0_all : GoodIn wsX1_isComingSound (wsV RX1 93 RX0 yX0_all wsX0_all) := goodIn_app (goodIn_of _ (by decide +kernel)) ggX1_isComingSound_X0_all
set_option maxRecDepth 20000 in
theorem ggX1_isComingSound_X0_seenBefore : GoodIn wsX1_isComingSound wsX0_seenBefore := goodIn_r _ [15, 16, 17, 18, 46, 47, 48, 49, 50, 51] (by decide +kernel) (by decide +kernel)
set_option maxRecDepth 20000 in
theorem gX1_isComingSound_X0_seenBefore : GoodIn wsX1_isComingSound (wsV RX1 137 RX0 yX0_seenBefore wsX0_seenBefore) := goodIn_app (goodIn_of _ (by decide +kernel)) ggX1_isComingSound_X0_seenBefore
theorem dX1_isComingSound_0 : decode cX1_isComingSound 0 = .ok (.aload_n 0, 1) := by decide +kernel
theorem dX1_isComingSound_1 : decode cX1_isComingSound 1 = .ok (.getfield 10, 3) := by decide +kernel
theorem dX1_isComingSound_4 : decode cX1_isComingSound 4 = .ok (.iconst 0, 1) := by decide +kernel
theorem dX1_isComingSound_5 : decode cX1_isComingSound 5 = .ok (.iload_n 1, 1) := by decide +kernel
theorem dX1_isComingSound_6 : decode cX1_isComingSound 6 = .ok (.invokevirtual 141, 3) := by decide +kernel
theorem dX1_isComingSound_9 : decode cX1_isComingSound 9 = .ok (.istore_n 2, 1) := by decide +kernel
theorem dX1_isComingSound_10 : decode cX1_isComingSound 10 = .ok (.aload_n 0, 1) := by decide +kernel
theorem dX1_isComingSound_11 : decode cX1_isComingSound 11 = .ok (.getfield 10, 3) := by decide +kernel
theorem dX1_isComingSound_14 : decode cX1_isComingSound 14 = .ok (.iconst 1, 1) := by decide +kernel
theorem dX1_isComingSound_15 : decode cX1_isComingSound 15 = .ok (.iconst 1, 1) := by decide +kernel
theorem dX1_isComingSound_16 : decode cX1_isComingSound 16 = .ok (.iload_n 1, 1) := by decide +kernel
theorem dX1_isComingSound_17 : decode cX1_isComingSound 17 = .ok (.isub, 1) := by decide +kernel
theorem dX1_isComingSound_18 : decode cX1_isComingSound 18 = .ok (.invokevirtual 141, 3) := by decide +kernel
theorem dX1_isComingSound_21 : decode cX1_isComingSound 21 = .ok (.istore_n 3, 1) := by decide +kernel
theorem dX1_isComingSound_22 : decode cX1_isComingSound 22 = .ok (.iload_n 2, 1) := by decide +kernel
theorem dX1_isComingSound_23 : decode cX1_isComingSound 23 = .ok (.iload_n 3, 1) := by decide +kernel
theorem dX1_isComingSound_24 : decode cX1_isComingSound 24 = .ok (.iand, 1) := by decide +kernel
theorem dX1_isComingSound_25 : decode cX1_isComingSound 25 = .ok (.ifCond .ne 16, 3) := by decide +kernel
theorem dX1_isComingSound_28 : decode cX1_isComingSound 28 = .ok (.iload_n 2, 1) := by decide +kernel
theorem dX1_isComingSound_29 : decode cX1_isComingSound 29 = .ok (.iload_n 3, 1) := by decide +kernel
theorem dX1_isComingSound_30 : decode cX1_isComingSound 30 = .ok (.ior, 1) := by decide +kernel
theorem dX1_isComingSound_31 : decode cX1_isComingSound 31 = .ok (.aload_n 0, 1) := by decide +kernel
theorem dX1_isComingSound_32 : decode cX1_isComingSound 32 = .ok (.getfield 10, 3) := by decide +kernel
theorem dX1_isComingSound_35 : decode cX1_isComingSound 35 = .ok (.invokevirtual 93, 3) := by decide +kernel
theorem dX1_isComingSound_38 : decode cX1_isComingSound 38 = .ok (.if_icmp .eq 5, 3) := by decide +kernel
theorem dX1_isComingSound_41 : decode cX1_isComingSound 41 = .ok (.iconst 0, 1) := by decide +kernel
theorem dX1_isComingSound_42 : decode cX1_isComingSound 42 = .ok (.ireturn, 1) := by decide +kernel
theorem dX1_isComingSound_43 : decode cX1_isComingSound 43 = .ok (.aload_n 0, 1) := by decide +kernel
theorem dX1_isComingSound_44 : decode cX1_isComingSound 44 = .ok (.getfield 10, 3) := by decide +kernel
theorem dX1_isComingSound_47 : decode cX1_isComingSound 47 = .ok (.iload_n 2, 1) := by decide +kernel
theorem dX1_isComingSound_48 : decode cX1_isComingSound 48 = .ok (.iload_n 1, 1) := by decide +kernel
theorem dX1_isComingSound_49 : decode cX1_isComingSound 49 = .ok (.invokevirtual 137, 3) := by decide +kernel
theorem dX1_isComingSound_52 : decode cX1_isComingSound 52 = .ok (.aload_n 0, 1) := by decide +kernel
theorem dX1_isComingSound_53 : decode cX1_isComingSound 53 = .ok (.getfield 10, 3) := by decide +kernel
theorem dX1_isComingSound_56 : decode cX1_isComingSound 56 = .ok (.getfield 63, 3) := by decide +kernel
theorem dX1_isComingSound_59 : decode cX1_isComingSound 59 = .ok (.ior, 1) := by decide +kernel
theorem dX1_isComingSound_60 : decode cX1_isComingSound 60 = .ok (.istore 4, 2) := by decide +kernel
theorem dX1_isComingSound_62 : decode cX1_isComingSound 62 = .ok (.iload 4, 2) := by decide +kernel
theorem dX1_isComingSound_64 : decode cX1_isComingSound 64 = .ok (.iload_n 2, 1) := by decide +kernel
theorem dX1_isComingSound_65 : decode cX1_isComingSound 65 = .ok (.iconst (-1), 1) := by decide +kernel
theorem dX1_isComingSound_66 : decode cX1_isComingSound 66 = .ok (.ixor, 1) := by decide +kernel
theorem dX1_isComingSound_67 : decode cX1_isComingSound 67 = .ok (.iand, 1) := by decide +kernel
theorem dX1_isComingSound_68 : decode cX1_isComingSound 68 = .ok (.ifCond .ne 7, 3) := by decide +kernel
theorem dX1_isComingSound_71 : decode cX1_isComingSound 71 = .ok (.iconst 1, 1) := by decide +kernel
theorem dX1_isComingSound_72 : decode cX1_isComingSound 72 = .ok (.goto 4, 3) := by decide +kernel
theorem dX1_isComingSound_75 : decode cX1_isComingSound 75 = .ok (.iconst 0, 1) := by decide +kernel
theorem dX1_isComingSound_76 : decode cX1_isComingSound 76 = .ok (.ireturn, 1) := by decide +kernel
set_option maxRecDepth 20000 in
theorem ggX1_isAgainSound_X0_won : GoodIn wsX1_isAgainSound wsX0_won := goodIn_r _ [6, 7, 8, 9, 10, 5, 11, 12, 13, 14, 15, 16, 17, 18, 19, 20, 21, 22, 23, 24, 25, 26, 27, 28, 29, 30, 31, 32, 33, 34, 35, 36, 45, 46, 47, 48, 49, 50] (by decide +kernel) (by decide +kernel)
set_option maxRecDepth 20000 in
theorem gX1_isAgainSound_X0_won : GoodIn wsX1_isAgainSound (wsV RX1 141 RX0 yX0_won wsX0_won) := goodIn_app (goodIn_of _ (by decide +kernel)) ggX1_isAgainSound_X0_won
set_option maxRecDepth 20000 in
theorem ggX1_isAgainSound_X0_seenBefore : GoodIn wsX1_isAgainSound wsX0_seenBefore := goodIn_r _ [15, 16, 17, 18, 45, 46, 47, 48, 49, 50] (by decide +kernel) (by decide +kernel)
set_option maxRecDepth 20000 in
theorem gX1_isAgainSound_X0_seenBefore : GoodIn wsX1_isAgainSound (wsV RX1 137 RX0 yX0_seenBefore wsX0_seenBefore) := goodIn_app (goodIn_of _ (by decide +kernel)) ggX1_isAgainSound_X0_seenBefore
theorem dX1_isAgainSound_0 : decode cX1_isAgainSound 0 = .ok (.aload_n 0, 1) := by decide +kernel
theorem dX1_isAgainSound_1 : decode cX1_isAgainSound 1 = .ok (.getfield 10, 3) := by decide +kernel
theorem dX1_isAgainSound_4 : decode cX1_isAgainSound 4 = .ok (.iconst 2, 1) := by decide +kernel
theorem dX1_isAgainSound_5 : decode cX1_isAgainSound 5 = .ok (.iload_n 1, 1) := by decide +kernel
theorem dX1_isAgainSound_6 : decode cX1_isAgainSound 6 = .ok (.invokevirtual 141, 3) := by decide +kernel
theorem dX1_isAgainSound_9 : decode cX1_isAgainSound 9 = .ok (.istore_n 2, 1) := by decide +kernel
theorem dX1_isAgainSound_10 : decode cX1_isAgainSound 10 = .ok (.iload_n 2, 1) := by decide +kernel
theorem dX1_isAgainSound_11 : decode cX1_isAgainSound 11 = .ok (.aload_n 0, 1) := by decide +kernel
theorem dX1_isAgainSound_12 : decode cX1_isAgainSound 12 = .ok (.getfield 10, 3) := by decide +kernel
theorem dX1_isAgainSound_15 : decode cX1_isAgainSound 15 = .ok (.iconst 0, 1) := by decide +kernel
theorem dX1_isAgainSound_16 : decode cX1_isAgainSound 16 = .ok (.iload_n 1, 1) := by decide +kernel
theorem dX1_isAgainSound_17 : decode cX1_isAgainSound 17 = .ok (.invokevirtual 141, 3) := by decide +kernel
theorem dX1_isAgainSound_20 : decode cX1_isAgainSound 20 = .ok (.iconst (-1), 1) := by decide +kernel
theorem dX1_isAgainSound_21 : decode cX1_isAgainSound 21 = .ok (.ixor, 1) := by decide +kernel
theorem dX1_isAgainSound_22 : decode cX1_isAgainSound 22 = .ok (.iand, 1) := by decide +kernel
theorem dX1_isAgainSound_23 : decode cX1_isAgainSound 23 = .ok (.ifCond .eq 5, 3) := by decide +kernel
theorem dX1_isAgainSound_26 : decode cX1_isAgainSound 26 = .ok (.iconst 0, 1) := by decide +kernel
theorem dX1_isAgainSound_27 : decode cX1_isAgainSound 27 = .ok (.ireturn, 1) := by decide +kernel
theorem dX1_isAgainSound_28 : decode cX1_isAgainSound 28 = .ok (.aload_n 0, 1) := by decide +kernel
theorem dX1_isAgainSound_29 : decode cX1_isAgainSound 29 = .ok (.getfield 10, 3) := by decide +kernel
theorem dX1_isAgainSound_32 : decode cX1_isAgainSound 32 = .ok (.iload_n 2, 1) := by decide +kernel
theorem dX1_isAgainSound_33 : decode cX1_isAgainSound 33 = .ok (.iload_n 1, 1) := by decide +kernel
theorem dX1_isAgainSound_34 : decode cX1_isAgainSound 34 = .ok (.invokevirtual 137, 3) := by decide +kernel
theorem dX1_isAgainSound_37 : decode cX1_isAgainSound 37 = .ok (.iload_n 2, 1) := by decide +kernel
theorem dX1_isAgainSound_38 : decode cX1_isAgainSound 38 = .ok (.iconst (-1), 1) := by decide +kernel
theorem dX1_isAgainSound_39 : decode cX1_isAgainSound 39 = .ok (.ixor, 1) := by decide +kernel
theorem dX1_isAgainSound_40 : decode cX1_isAgainSound 40 = .ok (.iand, 1) := by decide +kernel
theorem dX1_isAgainSound_41 : decode cX1_isAgainSound 41 = .ok (.ifCond .ne 7, 3) := by decide +kernel
theorem dX1_isAgainSound_44 : decode cX1_isAgainSound 44 = .ok (.iconst 1, 1) := by decide +kernel
theorem dX1_isAgainSound_45 : decode cX1_isAgainSound 45 = .ok (.goto 4, 3) := by decide +kernel
theorem dX1_isAgainSound_48 : decode cX1_isAgainSound 48 = .ok (.iconst 0, 1) := by decide +kernel
theorem dX1_isAgainSound_49 : decode cX1_isAgainSound 49 = .ok (.ireturn, 1) := by decide +kernel
set_option maxRecDepth 20000 in
theorem ggX1_isRankedSound_X0_won : GoodIn wsX1_isRankedSound wsX0_won := goodIn_r _ [6, 7, 8, 9, 10, 5, 11, 12, 13, 14, 15, 16, 17, 18, 19, 20, 21, 22, 23, 24, 25, 26, 27, 28, 29, 30, 31, 32, 33, 34, 35, 36, 57, 58, 59, 60, 61, 62] (by decide +kernel) (by decide +kernel)
set_option maxRecDepth 20000 in
theorem gX1_isRankedSound_X0_won : GoodIn wsX1_isRankedSound (wsV RX1 141 RX0 yX0_won wsX0_won) := goodIn_app (goodIn_of _ (by decide +kernel)) ggX1_isRankedSound_X0_won
set_option maxRecDepth 20000 in
theorem ggX1_isRankedSound_X0_all : GoodIn wsX1_isRankedSound wsX0_all := goodIn_r _ [22, 16, 57, 58, 59, 60, 61, 62] (by decide +kernel) (by decide +kernel)
set_option maxRecDepth 20000 in
theorem gX1_isRankedSound_X0_all : GoodIn wsX1_isRankedSound (wsV RX1 93 RX0 yX0_all wsX0_all) := goodIn_app (goodIn_of _ (by decide +kernel)) ggX1_isRankedSound_X0_all
set_option maxRecDepth 20000 in
theorem ggX1_isRankedSound_X0_sideOf : GoodIn wsX1_isRankedSound wsX0_sideOf := goodIn_r _ [41, 18, 57, 58, 59, 60, 61, 62] (by decide +kernel) (by decide +kernel)
set_option maxRecDepth 20000 in
theorem gX1_isRankedSound_X0_sideOf : GoodIn wsX1_isRankedSound (wsV RX1 46 RX0 yX0_sideOf wsX0_sideOf) := goodIn_app (goodIn_of _ (by decide +kernel)) ggX1_isRankedSound_X0_sideOf
set_option maxRecDepth 20000 in
theorem ggX1_isRankedSound_X0_waysFrom : GoodIn wsX1_isRankedSound wsX0_waysFrom := goodIn_r _ [45, 17, 57, 58, 59, 60, 61, 62] (by decide +kernel) (by decide +kernel)
set_option maxRecDepth 20000 in
theorem gX1_isRankedSound_X0_waysFrom : GoodIn wsX1_isRankedSound (wsV RX1 66 RX0 yX0_waysFrom wsX0_waysFrom) := goodIn_app (goodIn_of _ (by decide +kernel)) ggX1_isRankedSound_X0_waysFrom
set_option maxRecDepth 20000 in
theorem ggX1_isRankedSound_X1_has : GoodIn wsX1_isRankedSound wsX1_has := goodIn_r _ [49] (by decide +kernel) (by decide +kernel)
set_option maxRecDepth 20000 in
theorem gX1_isRankedSound_X1_has : GoodIn wsX1_isRankedSound (va_wsS RX1 69 yX1_has wsX1_has) := goodIn_app (goodIn_of _ (by decide +kernel)) ggX1_isRankedSound_X1_has
theorem dX1_isRankedSound_0 : decode cX1_isRankedSound 0 = .ok (.aload_n 0, 1) := by decide +kernel
theorem dX1_isRankedSound_1 : decode cX1_isRankedSound 1 = .ok (.getfield 10, 3) := by decide +kernel
theorem dX1_isRankedSound_4 : decode cX1_isRankedSound 4 = .ok (.iconst 3, 1) := by decide +kernel
theorem dX1_isRankedSound_5 : decode cX1_isRankedSound 5 = .ok (.iconst 0, 1) := by decide +kernel
theorem dX1_isRankedSound_6 : decode cX1_isRankedSound 6 = .ok (.invokevirtual 141, 3) := by decide +kernel
theorem dX1_isRankedSound_9 : decode cX1_isRankedSound 9 = .ok (.istore_n 1, 1) := by decide +kernel
theorem dX1_isRankedSound_10 : decode cX1_isRankedSound 10 = .ok (.aload_n 0, 1) := by decide +kernel
theorem dX1_isRankedSound_11 : decode cX1_isRankedSound 11 = .ok (.getfield 10, 3) := by decide +kernel
theorem dX1_isRankedSound_14 : decode cX1_isRankedSound 14 = .ok (.iconst 3, 1) := by decide +kernel
theorem dX1_isRankedSound_15 : decode cX1_isRankedSound 15 = .ok (.iconst 1, 1) := by decide +kernel
theorem dX1_isRankedSound_16 : decode cX1_isRankedSound 16 = .ok (.invokevirtual 141, 3) := by decide +kernel
theorem dX1_isRankedSound_19 : decode cX1_isRankedSound 19 = .ok (.istore_n 2, 1) := by decide +kernel
theorem dX1_isRankedSound_20 : decode cX1_isRankedSound 20 = .ok (.iload_n 1, 1) := by decide +kernel
theorem dX1_isRankedSound_21 : decode cX1_isRankedSound 21 = .ok (.iload_n 2, 1) := by decide +kernel
theorem dX1_isRankedSound_22 : decode cX1_isRankedSound 22 = .ok (.iand, 1) := by decide +kernel
theorem dX1_isRankedSound_23 : decode cX1_isRankedSound 23 = .ok (.ifCond .ne 16, 3) := by decide +kernel
theorem dX1_isRankedSound_26 : decode cX1_isRankedSound 26 = .ok (.iload_n 1, 1) := by decide +kernel
theorem dX1_isRankedSound_27 : decode cX1_isRankedSound 27 = .ok (.iload_n 2, 1) := by decide +kernel
theorem dX1_isRankedSound_28 : decode cX1_isRankedSound 28 = .ok (.ior, 1) := by decide +kernel
theorem dX1_isRankedSound_29 : decode cX1_isRankedSound 29 = .ok (.aload_n 0, 1) := by decide +kernel
theorem dX1_isRankedSound_30 : decode cX1_isRankedSound 30 = .ok (.getfield 10, 3) := by decide +kernel
theorem dX1_isRankedSound_33 : decode cX1_isRankedSound 33 = .ok (.invokevirtual 93, 3) := by decide +kernel
theorem dX1_isRankedSound_36 : decode cX1_isRankedSound 36 = .ok (.if_icmp .eq 5, 3) := by decide +kernel
theorem dX1_isRankedSound_39 : decode cX1_isRankedSound 39 = .ok (.iconst 0, 1) := by decide +kernel
theorem dX1_isRankedSound_40 : decode cX1_isRankedSound 40 = .ok (.ireturn, 1) := by decide +kernel
theorem dX1_isRankedSound_41 : decode cX1_isRankedSound 41 = .ok (.iconst 0, 1) := by decide +kernel
theorem dX1_isRankedSound_42 : decode cX1_isRankedSound 42 = .ok (.istore_n 3, 1) := by decide +kernel
theorem dX1_isRankedSound_43 : decode cX1_isRankedSound 43 = .ok (.iload_n 3, 1) := by decide +kernel
theorem dX1_isRankedSound_44 : decode cX1_isRankedSound 44 = .ok (.aload_n 0, 1) := by decide +kernel
theorem dX1_isRankedSound_45 : decode cX1_isRankedSound 45 = .ok (.getfield 10, 3) := by decide +kernel
theorem dX1_isRankedSound_48 : decode cX1_isRankedSound 48 = .ok (.getfield 23, 3) := by decide +kernel
theorem dX1_isRankedSound_51 : decode cX1_isRankedSound 51 = .ok (.if_icmp .ge 49, 3) := by decide +kernel
theorem dX1_isRankedSound_54 : decode cX1_isRankedSound 54 = .ok (.aload_n 0, 1) := by decide +kernel
theorem dX1_isRankedSound_55 : decode cX1_isRankedSound 55 = .ok (.getfield 10, 3) := by decide +kernel
theorem dX1_isRankedSound_58 : decode cX1_isRankedSound 58 = .ok (.iload_n 3, 1) := by decide +kernel
theorem dX1_isRankedSound_59 : decode cX1_isRankedSound 59 = .ok (.invokevirtual 46, 3) := by decide +kernel
theorem dX1_isRankedSound_62 : decode cX1_isRankedSound 62 = .ok (.ifCond .ne 7, 3) := by decide +kernel
theorem dX1_isRankedSound_65 : decode cX1_isRankedSound 65 = .ok (.iload_n 1, 1) := by decide +kernel
theorem dX1_isRankedSound_66 : decode cX1_isRankedSound 66 = .ok (.goto 4, 3) := by decide +kernel
theorem dX1_isRankedSound_69 : decode cX1_isRankedSound 69 = .ok (.iload_n 2, 1) := by decide +kernel
theorem dX1_isRankedSound_70 : decode cX1_isRankedSound 70 = .ok (.istore 4, 2) := by decide +kernel
theorem dX1_isRankedSound_72 : decode cX1_isRankedSound 72 = .ok (.aload_n 0, 1) := by decide +kernel
theorem dX1_isRankedSound_73 : decode cX1_isRankedSound 73 = .ok (.getfield 10, 3) := by decide +kernel
theorem dX1_isRankedSound_76 : decode cX1_isRankedSound 76 = .ok (.iload_n 3, 1) := by decide +kernel
theorem dX1_isRankedSound_77 : decode cX1_isRankedSound 77 = .ok (.invokevirtual 66, 3) := by decide +kernel
theorem dX1_isRankedSound_80 : decode cX1_isRankedSound 80 = .ok (.ifCond .ne 14, 3) := by decide +kernel
theorem dX1_isRankedSound_83 : decode cX1_isRankedSound 83 = .ok (.iload 4, 2) := by decide +kernel
theorem dX1_isRankedSound_85 : decode cX1_isRankedSound 85 = .ok (.iload_n 3, 1) := by decide +kernel
theorem dX1_isRankedSound_86 : decode cX1_isRankedSound 86 = .ok (.invokestatic 69, 3) := by decide +kernel
theorem dX1_isRankedSound_89 : decode cX1_isRankedSound 89 = .ok (.ifCond .eq 5, 3) := by decide +kernel
theorem dX1_isRankedSound_92 : decode cX1_isRankedSound 92 = .ok (.iconst 0, 1) := by decide +kernel
theorem dX1_isRankedSound_93 : decode cX1_isRankedSound 93 = .ok (.ireturn, 1) := by decide +kernel
theorem dX1_isRankedSound_94 : decode cX1_isRankedSound 94 = .ok (.iinc 3 1, 3) := by decide +kernel
theorem dX1_isRankedSound_97 : decode cX1_isRankedSound 97 = .ok (.goto (-54), 3) := by decide +kernel
theorem dX1_isRankedSound_100 : decode cX1_isRankedSound 100 = .ok (.iconst 1, 1) := by decide +kernel
theorem dX1_isRankedSound_101 : decode cX1_isRankedSound 101 = .ok (.ireturn, 1) := by decide +kernel
theorem dX1_has_0 : decode cX1_has 0 = .ok (.iload_n 0, 1) := by decide +kernel
theorem dX1_has_1 : decode cX1_has 1 = .ok (.iload_n 1, 1) := by decide +kernel
theorem dX1_has_2 : decode cX1_has 2 = .ok (.ishr, 1) := by decide +kernel
theorem dX1_has_3 : decode cX1_has 3 = .ok (.iconst 1, 1) := by decide +kernel
theorem dX1_has_4 : decode cX1_has 4 = .ok (.iand, 1) := by decide +kernel
theorem dX1_has_5 : decode cX1_has 5 = .ok (.ifCond .eq 7, 3) := by decide +kernel
theorem dX1_has_8 : decode cX1_has 8 = .ok (.iconst 1, 1) := by decide +kernel
theorem dX1_has_9 : decode cX1_has 9 = .ok (.goto 4, 3) := by decide +kernel
theorem dX1_has_12 : decode cX1_has 12 = .ok (.iconst 0, 1) := by decide +kernel
theorem dX1_has_13 : decode cX1_has 13 = .ok (.ireturn, 1) := by decide +kernel
set_option maxRecDepth 20000 in
theorem ggX1_least_X1_member : GoodIn wsX1_least wsX1_member := goodIn_r _ [4, 5, 6, 3, 7] (by decide +kernel) (by decide +kernel)
set_option maxRecDepth 20000 in
theorem gX1_least_X1_member : GoodIn wsX1_least (va_wsS RX1 241 yX1_member wsX1_member) := goodIn_app (goodIn_of _ (by decide +kernel)) ggX1_least_X1_member
theorem dX1_least_0 : decode cX1_least 0 = .ok (.iload_n 0, 1) := by decide +kernel
theorem dX1_least_1 : decode cX1_least 1 = .ok (.iconst 0, 1) := by decide +kernel
theorem dX1_least_2 : decode cX1_least 2 = .ok (.invokestatic 241, 3) := by decide +kernel
theorem dX1_least_5 : decode cX1_least 5 = .ok (.ireturn, 1) := by decide +kernel
set_option maxRecDepth 20000 in
theorem ggX1_member_X1_has : GoodIn wsX1_member wsX1_has := goodIn_r _ [4] (by decide +kernel) (by decide +kernel)
set_option maxRecDepth 20000 in
theorem gX1_member_X1_has : GoodIn wsX1_member (va_wsS RX1 69 yX1_has wsX1_has) := goodIn_app (goodIn_of _ (by decide +kernel)) ggX1_member_X1_has
theorem dX1_member_0 : decode cX1_member 0 = .ok (.iload_n 1, 1) := by decide +kernel
theorem dX1_member_1 : decode cX1_member 1 = .ok (.istore_n 2, 1) := by decide +kernel
theorem dX1_member_2 : decode cX1_member 2 = .ok (.iconst 0, 1) := by decide +kernel
theorem dX1_member_3 : decode cX1_member 3 = .ok (.istore_n 3, 1) := by decide +kernel
theorem dX1_member_4 : decode cX1_member 4 = .ok (.iload_n 3, 1) := by decide +kernel
theorem dX1_member_5 : decode cX1_member 5 = .ok (.bipush 12, 2) := by decide +kernel
theorem dX1_member_7 : decode cX1_member 7 = .ok (.if_icmp .ge 26, 3) := by decide +kernel
theorem dX1_member_10 : decode cX1_member 10 = .ok (.iload_n 0, 1) := by decide +kernel
theorem dX1_member_11 : decode cX1_member 11 = .ok (.iload_n 3, 1) := by decide +kernel
theorem dX1_member_12 : decode cX1_member 12 = .ok (.invokestatic 69, 3) := by decide +kernel
theorem dX1_member_15 : decode cX1_member 15 = .ok (.ifCond .eq 12, 3) := by decide +kernel
theorem dX1_member_18 : decode cX1_member 18 = .ok (.iload_n 2, 1) := by decide +kernel
theorem dX1_member_19 : decode cX1_member 19 = .ok (.ifCond .ne 5, 3) := by decide +kernel
theorem dX1_member_22 : decode cX1_member 22 = .ok (.iload_n 3, 1) := by decide +kernel
theorem dX1_member_23 : decode cX1_member 23 = .ok (.ireturn, 1) := by decide +kernel
theorem dX1_member_24 : decode cX1_member 24 = .ok (.iinc 2 (-1), 3) := by decide +kernel
theorem dX1_member_27 : decode cX1_member 27 = .ok (.iinc 3 1, 3) := by decide +kernel
theorem dX1_member_30 : decode cX1_member 30 = .ok (.goto (-26), 3) := by decide +kernel
theorem dX1_member_33 : decode cX1_member 33 = .ok (.iconst (-1), 1) := by decide +kernel
theorem dX1_member_34 : decode cX1_member 34 = .ok (.ireturn, 1) := by decide +kernel
theorem dX2_init_0 : decode cX2_init 0 = .ok (.aload_n 0, 1) := by decide +kernel
theorem dX2_init_1 : decode cX2_init 1 = .ok (.invokespecial 1, 3) := by decide +kernel
theorem dX2_init_4 : decode cX2_init 4 = .ok (.return_, 1) := by decide +kernel
set_option maxRecDepth 20000 in
theorem ggX3_init_X3_clear : GoodIn wsX3_init wsX3_clear := goodIn_r _ [8, 9, 10, 11, 12, 13, 14, 15, 16, 17, 18, 19, 20, 21, 22, 23, 24, 25, 26, 27] (by decide +kernel) (by decide +kernel)
set_option maxRecDepth 20000 in
theorem gX3_init_X3_clear : GoodIn wsX3_init (wsV RX3 7 RX3 yX3_clear wsX3_clear) := goodIn_app (goodIn_of _ (by decide +kernel)) ggX3_init_X3_clear
theorem dX3_init_0 : decode cX3_init 0 = .ok (.aload_n 0, 1) := by decide +kernel
theorem dX3_init_1 : decode cX3_init 1 = .ok (.invokespecial 1, 3) := by decide +kernel
theorem dX3_init_4 : decode cX3_init 4 = .ok (.aload_n 0, 1) := by decide +kernel
theorem dX3_init_5 : decode cX3_init 5 = .ok (.bipush 6, 2) := by decide +kernel
theorem dX3_init_7 : decode cX3_init 7 = .ok (.invokevirtual 7, 3) := by decide +kernel
theorem dX3_init_10 : decode cX3_init 10 = .ok (.return_, 1) := by decide +kernel
theorem dX3_clear_0 : decode cX3_clear 0 = .ok (.aload_n 0, 1) := by decide +kernel
theorem dX3_clear_1 : decode cX3_clear 1 = .ok (.iload_n 1, 1) := by decide +kernel
theorem dX3_clear_2 : decode cX3_clear 2 = .ok (.putfield 17, 3) := by decide +kernel
theorem dX3_clear_5 : decode cX3_clear 5 = .ok (.aload_n 0, 1) := by decide +kernel
theorem dX3_clear_6 : decode cX3_clear 6 = .ok (.iconst 0, 1) := by decide +kernel
theorem dX3_clear_7 : decode cX3_clear 7 = .ok (.putfield 20, 3) := by decide +kernel
theorem dX3_clear_10 : decode cX3_clear 10 = .ok (.aload_n 0, 1) := by decide +kernel
theorem dX3_clear_11 : decode cX3_clear 11 = .ok (.iconst 0, 1) := by decide +kernel
theorem dX3_clear_12 : decode cX3_clear 12 = .ok (.putfield 23, 3) := by decide +kernel
theorem dX3_clear_15 : decode cX3_clear 15 = .ok (.aload_n 0, 1) := by decide +kernel
theorem dX3_clear_16 : decode cX3_clear 16 = .ok (.aload_n 0, 1) := by decide +kernel
theorem dX3_clear_17 : decode cX3_clear 17 = .ok (.getfield 17, 3) := by decide +kernel
theorem dX3_clear_20 : decode cX3_clear 20 = .ok (.newarray .int, 2) := by decide +kernel
theorem dX3_clear_22 : decode cX3_clear 22 = .ok (.putfield 26, 3) := by decide +kernel
theorem dX3_clear_25 : decode cX3_clear 25 = .ok (.aload_n 0, 1) := by decide +kernel
theorem dX3_clear_26 : decode cX3_clear 26 = .ok (.aload_n 0, 1) := by decide +kernel
theorem dX3_clear_27 : decode cX3_clear 27 = .ok (.getfield 17, 3) := by decide +kernel
theorem dX3_clear_30 : decode cX3_clear 30 = .ok (.newarray .int, 2) := by decide +kernel
theorem dX3_clear_32 : decode cX3_clear 32 = .ok (.putfield 30, 3) := by decide +kernel
theorem dX3_clear_35 : decode cX3_clear 35 = .ok (.iconst 0, 1) := by decide +kernel
theorem dX3_clear_36 : decode cX3_clear 36 = .ok (.istore_n 2, 1) := by decide +kernel
theorem dX3_clear_37 : decode cX3_clear 37 = .ok (.iload_n 2, 1) := by decide +kernel
theorem dX3_clear_38 : decode cX3_clear 38 = .ok (.aload_n 0, 1) := by decide +kernel
theorem dX3_clear_39 : decode cX3_clear 39 = .ok (.getfield 17, 3) := by decide +kernel
theorem dX3_clear_42 : decode cX3_clear 42 = .ok (.if_icmp .ge 16, 3) := by decide +kernel
theorem dX3_clear_45 : decode cX3_clear 45 = .ok (.aload_n 0, 1) := by decide +kernel
theorem dX3_clear_46 : decode cX3_clear 46 = .ok (.getfield 26, 3) := by decide +kernel
theorem dX3_clear_49 : decode cX3_clear 49 = .ok (.iload_n 2, 1) := by decide +kernel
theorem dX3_clear_50 : decode cX3_clear 50 = .ok (.iconst 2, 1) := by decide +kernel
theorem dX3_clear_51 : decode cX3_clear 51 = .ok (.iastore, 1) := by decide +kernel
theorem dX3_clear_52 : decode cX3_clear 52 = .ok (.iinc 2 1, 3) := by decide +kernel
theorem dX3_clear_55 : decode cX3_clear 55 = .ok (.goto (-18), 3) := by decide +kernel
theorem dX3_clear_58 : decode cX3_clear 58 = .ok (.aload_n 0, 1) := by decide +kernel
theorem dX3_clear_59 : decode cX3_clear 59 = .ok (.iconst 0, 1) := by decide +kernel
theorem dX3_clear_60 : decode cX3_clear 60 = .ok (.putfield 33, 3) := by decide +kernel
theorem dX3_clear_63 : decode cX3_clear 63 = .ok (.aload_n 0, 1) := by decide +kernel
theorem dX3_clear_64 : decode cX3_clear 64 = .ok (.iconst 0, 1) := by decide +kernel
theorem dX3_clear_65 : decode cX3_clear 65 = .ok (.putfield 36, 3) := by decide +kernel
theorem dX3_clear_68 : decode cX3_clear 68 = .ok (.return_, 1) := by decide +kernel
theorem dX3_all_0 : decode cX3_all 0 = .ok (.iconst 1, 1) := by decide +kernel
theorem dX3_all_1 : decode cX3_all 1 = .ok (.aload_n 0, 1) := by decide +kernel
theorem dX3_all_2 : decode cX3_all 2 = .ok (.getfield 17, 3) := by decide +kernel
theorem dX3_all_5 : decode cX3_all 5 = .ok (.ishl, 1) := by decide +kernel
theorem dX3_all_6 : decode cX3_all 6 = .ok (.iconst 1, 1) := by decide +kernel
theorem dX3_all_7 : decode cX3_all 7 = .ok (.isub, 1) := by decide +kernel
theorem dX3_all_8 : decode cX3_all 8 = .ok (.ireturn, 1) := by decide +kernel
theorem dX3_sideOf_0 : decode cX3_sideOf 0 = .ok (.aload_n 0, 1) := by decide +kernel
theorem dX3_sideOf_1 : decode cX3_sideOf 1 = .ok (.getfield 20, 3) := by decide +kernel
theorem dX3_sideOf_4 : decode cX3_sideOf 4 = .ok (.iload_n 1, 1) := by decide +kernel
theorem dX3_sideOf_5 : decode cX3_sideOf 5 = .ok (.ishr, 1) := by decide +kernel
theorem dX3_sideOf_6 : decode cX3_sideOf 6 = .ok (.iconst 1, 1) := by decide +kernel
theorem dX3_sideOf_7 : decode cX3_sideOf 7 = .ok (.iand, 1) := by decide +kernel
theorem dX3_sideOf_8 : decode cX3_sideOf 8 = .ok (.ireturn, 1) := by decide +kernel
theorem dX3_isIn_0 : decode cX3_isIn 0 = .ok (.iload_n 0, 1) := by decide +kernel
theorem dX3_isIn_1 : decode cX3_isIn 1 = .ok (.iload_n 1, 1) := by decide +kernel
theorem dX3_isIn_2 : decode cX3_isIn 2 = .ok (.ishr, 1) := by decide +kernel
theorem dX3_isIn_3 : decode cX3_isIn 3 = .ok (.iconst 1, 1) := by decide +kernel
theorem dX3_isIn_4 : decode cX3_isIn 4 = .ok (.iand, 1) := by decide +kernel
theorem dX3_isIn_5 : decode cX3_isIn 5 = .ok (.iconst 1, 1) := by decide +kernel
theorem dX3_isIn_6 : decode cX3_isIn 6 = .ok (.if_icmp .ne 7, 3) := by decide +kernel
theorem dX3_isIn_9 : decode cX3_isIn 9 = .ok (.iconst 1, 1) := by decide +kernel
theorem dX3_isIn_10 : decode cX3_isIn 10 = .ok (.goto 4, 3) := by decide +kernel
theorem dX3_isIn_13 : decode cX3_isIn 13 = .ok (.iconst 0, 1) := by decide +kernel
theorem dX3_isIn_14 : decode cX3_isIn 14 = .ok (.ireturn, 1) := by decide +kernel
set_option maxRecDepth 20000 in
theorem ggX3_waysNow_J6_bitCount_0f7a4 : GoodIn wsX3_waysNow wsJ6_bitCount_0f7a4 := goodIn_r _ [5, 6, 7, 8] (by decide +kernel) (by decide +kernel)
set_option maxRecDepth 20000 in
theorem gX3_waysNow_J6_bitCount_0f7a4 : GoodIn wsX3_waysNow (va_wsS RX3 39 yJ6_bitCount_0f7a4 wsJ6_bitCount_0f7a4) := goodIn_app (goodIn_of _ (by decide +kernel)) ggX3_waysNow_J6_bitCount_0f7a4
theorem dX3_waysNow_0 : decode cX3_waysNow 0 = .ok (.iconst 0, 1) := by decide +kernel
theorem dX3_waysNow_1 : decode cX3_waysNow 1 = .ok (.istore_n 1, 1) := by decide +kernel
theorem dX3_waysNow_2 : decode cX3_waysNow 2 = .ok (.aload_n 0, 1) := by decide +kernel
theorem dX3_waysNow_3 : decode cX3_waysNow 3 = .ok (.getfield 30, 3) := by decide +kernel
theorem dX3_waysNow_6 : decode cX3_waysNow 6 = .ok (.astore_n 2, 1) := by decide +kernel
theorem dX3_waysNow_7 : decode cX3_waysNow 7 = .ok (.aload_n 2, 1) := by decide +kernel
theorem dX3_waysNow_8 : decode cX3_waysNow 8 = .ok (.arraylength, 1) := by decide +kernel
theorem dX3_waysNow_9 : decode cX3_waysNow 9 = .ok (.istore_n 3, 1) := by decide +kernel
theorem dX3_waysNow_10 : decode cX3_waysNow 10 = .ok (.iconst 0, 1) := by decide +kernel
theorem dX3_waysNow_11 : decode cX3_waysNow 11 = .ok (.istore 4, 2) := by decide +kernel
theorem dX3_waysNow_13 : decode cX3_waysNow 13 = .ok (.iload 4, 2) := by decide +kernel
theorem dX3_waysNow_15 : decode cX3_waysNow 15 = .ok (.iload_n 3, 1) := by decide +kernel
theorem dX3_waysNow_16 : decode cX3_waysNow 16 = .ok (.if_icmp .ge 23, 3) := by decide +kernel
theorem dX3_waysNow_19 : decode cX3_waysNow 19 = .ok (.aload_n 2, 1) := by decide +kernel
theorem dX3_waysNow_20 : decode cX3_waysNow 20 = .ok (.iload 4, 2) := by decide +kernel
theorem dX3_waysNow_22 : decode cX3_waysNow 22 = .ok (.iaload, 1) := by decide +kernel
theorem dX3_waysNow_23 : decode cX3_waysNow 23 = .ok (.istore 5, 2) := by decide +kernel
theorem dX3_waysNow_25 : decode cX3_waysNow 25 = .ok (.iload_n 1, 1) := by decide +kernel
theorem dX3_waysNow_26 : decode cX3_waysNow 26 = .ok (.iload 5, 2) := by decide +kernel
theorem dX3_waysNow_28 : decode cX3_waysNow 28 = .ok (.invokestatic 39, 3) := by decide +kernel
theorem dX3_waysNow_31 : decode cX3_waysNow 31 = .ok (.iadd, 1) := by decide +kernel
theorem dX3_waysNow_32 : decode cX3_waysNow 32 = .ok (.istore_n 1, 1) := by decide +kernel
theorem dX3_waysNow_33 : decode cX3_waysNow 33 = .ok (.iinc 4 1, 3) := by decide +kernel
theorem dX3_waysNow_36 : decode cX3_waysNow 36 = .ok (.goto (-23), 3) := by decide +kernel
theorem dX3_waysNow_39 : decode cX3_waysNow 39 = .ok (.iload_n 1, 1) := by decide +kernel
theorem dX3_waysNow_40 : decode cX3_waysNow 40 = .ok (.ireturn, 1) := by decide +kernel
set_option maxRecDepth 20000 in
theorem ggX3_aheadOf_X3_sideOf : GoodIn wsX3_aheadOf wsX3_sideOf := goodIn_r _ [7, 8, 9, 10, 11, 12, 13, 14, 15, 16, 17, 18, 19] (by decide +kernel) (by decide +kernel)
set_option maxRecDepth 20000 in
theorem gX3_aheadOf_X3_sideOf : GoodIn wsX3_aheadOf (wsV RX3 45 RX3 yX3_sideOf wsX3_sideOf) := goodIn_app (goodIn_of _ (by decide +kernel)) ggX3_aheadOf_X3_sideOf
theorem dX3_aheadOf_0 : decode cX3_aheadOf 0 = .ok (.iconst 0, 1) := by decide +kernel
theorem dX3_aheadOf_1 : decode cX3_aheadOf 1 = .ok (.istore_n 3, 1) := by decide +kernel
theorem dX3_aheadOf_2 : decode cX3_aheadOf 2 = .ok (.iconst 0, 1) := by decide +kernel
theorem dX3_aheadOf_3 : decode cX3_aheadOf 3 = .ok (.istore 4, 2) := by decide +kernel
theorem dX3_aheadOf_5 : decode cX3_aheadOf 5 = .ok (.iload 4, 2) := by decide +kernel
theorem dX3_aheadOf_7 : decode cX3_aheadOf 7 = .ok (.aload_n 0, 1) := by decide +kernel
theorem dX3_aheadOf_8 : decode cX3_aheadOf 8 = .ok (.getfield 17, 3) := by decide +kernel
theorem dX3_aheadOf_11 : decode cX3_aheadOf 11 = .ok (.if_icmp .ge 55, 3) := by decide +kernel
theorem dX3_aheadOf_14 : decode cX3_aheadOf 14 = .ok (.aload_n 0, 1) := by decide +kernel
theorem dX3_aheadOf_15 : decode cX3_aheadOf 15 = .ok (.iload 4, 2) := by decide +kernel
theorem dX3_aheadOf_17 : decode cX3_aheadOf 17 = .ok (.invokevirtual 45, 3) := by decide +kernel
theorem dX3_aheadOf_20 : decode cX3_aheadOf 20 = .ok (.iload_n 2, 1) := by decide +kernel
theorem dX3_aheadOf_21 : decode cX3_aheadOf 21 = .ok (.if_icmp .ne 18, 3) := by decide +kernel
theorem dX3_aheadOf_24 : decode cX3_aheadOf 24 = .ok (.aload_n 0, 1) := by decide +kernel
theorem dX3_aheadOf_25 : decode cX3_aheadOf 25 = .ok (.getfield 30, 3) := by decide +kernel
theorem dX3_aheadOf_28 : decode cX3_aheadOf 28 = .ok (.iload 4, 2) := by decide +kernel
theorem dX3_aheadOf_30 : decode cX3_aheadOf 30 = .ok (.iaload, 1) := by decide +kernel
theorem dX3_aheadOf_31 : decode cX3_aheadOf 31 = .ok (.iload_n 1, 1) := by decide +kernel
theorem dX3_aheadOf_32 : decode cX3_aheadOf 32 = .ok (.iand, 1) := by decide +kernel
theorem dX3_aheadOf_33 : decode cX3_aheadOf 33 = .ok (.ifCond .eq 27, 3) := by decide +kernel
theorem dX3_aheadOf_36 : decode cX3_aheadOf 36 = .ok (.goto 17, 3) := by decide +kernel
theorem dX3_aheadOf_39 : decode cX3_aheadOf 39 = .ok (.aload_n 0, 1) := by decide +kernel
theorem dX3_aheadOf_40 : decode cX3_aheadOf 40 = .ok (.getfield 30, 3) := by decide +kernel
theorem dX3_aheadOf_43 : decode cX3_aheadOf 43 = .ok (.iload 4, 2) := by decide +kernel
theorem dX3_aheadOf_45 : decode cX3_aheadOf 45 = .ok (.iaload, 1) := by decide +kernel
theorem dX3_aheadOf_46 : decode cX3_aheadOf 46 = .ok (.iload_n 1, 1) := by decide +kernel
theorem dX3_aheadOf_47 : decode cX3_aheadOf 47 = .ok (.iconst (-1), 1) := by decide +kernel
theorem dX3_aheadOf_48 : decode cX3_aheadOf 48 = .ok (.ixor, 1) := by decide +kernel
theorem dX3_aheadOf_49 : decode cX3_aheadOf 49 = .ok (.iand, 1) := by decide +kernel
theorem dX3_aheadOf_50 : decode cX3_aheadOf 50 = .ok (.ifCond .ne 10, 3) := by decide +kernel
theorem dX3_aheadOf_53 : decode cX3_aheadOf 53 = .ok (.iload_n 3, 1) := by decide +kernel
theorem dX3_aheadOf_54 : decode cX3_aheadOf 54 = .ok (.iconst 1, 1) := by decide +kernel
theorem dX3_aheadOf_55 : decode cX3_aheadOf 55 = .ok (.iload 4, 2) := by decide +kernel
theorem dX3_aheadOf_57 : decode cX3_aheadOf 57 = .ok (.ishl, 1) := by decide +kernel
theorem dX3_aheadOf_58 : decode cX3_aheadOf 58 = .ok (.ior, 1) := by decide +kernel
theorem dX3_aheadOf_59 : decode cX3_aheadOf 59 = .ok (.istore_n 3, 1) := by decide +kernel
theorem dX3_aheadOf_60 : decode cX3_aheadOf 60 = .ok (.iinc 4 1, 3) := by decide +kernel
theorem dX3_aheadOf_63 : decode cX3_aheadOf 63 = .ok (.goto (-58), 3) := by decide +kernel
theorem dX3_aheadOf_66 : decode cX3_aheadOf 66 = .ok (.iload_n 3, 1) := by decide +kernel
theorem dX3_aheadOf_67 : decode cX3_aheadOf 67 = .ok (.ireturn, 1) := by decide +kernel
set_option maxRecDepth 20000 in
theorem ggX3_toward_X3_aheadOf : GoodIn wsX3_toward wsX3_aheadOf := goodIn_r _ [5, 6, 7, 8, 9, 10, 4, 11, 12, 13, 14, 15, 16, 17, 18, 19, 20, 21, 22, 23] (by decide +kernel) (by decide +kernel)
set_option maxRecDepth 20000 in
theorem gX3_toward_X3_aheadOf : GoodIn wsX3_toward (wsV RX3 48 RX3 yX3_aheadOf wsX3_aheadOf) := goodIn_app (goodIn_of _ (by decide +kernel)) ggX3_toward_X3_aheadOf
theorem dX3_toward_0 : decode cX3_toward 0 = .ok (.iload_n 1, 1) := by decide +kernel
theorem dX3_toward_1 : decode cX3_toward 1 = .ok (.istore_n 3, 1) := by decide +kernel
theorem dX3_toward_2 : decode cX3_toward 2 = .ok (.iload_n 3, 1) := by decide +kernel
theorem dX3_toward_3 : decode cX3_toward 3 = .ok (.aload_n 0, 1) := by decide +kernel
theorem dX3_toward_4 : decode cX3_toward 4 = .ok (.iload_n 3, 1) := by decide +kernel
theorem dX3_toward_5 : decode cX3_toward 5 = .ok (.iload_n 2, 1) := by decide +kernel
theorem dX3_toward_6 : decode cX3_toward 6 = .ok (.invokevirtual 48, 3) := by decide +kernel
theorem dX3_toward_9 : decode cX3_toward 9 = .ok (.ior, 1) := by decide +kernel
theorem dX3_toward_10 : decode cX3_toward 10 = .ok (.iload_n 3, 1) := by decide +kernel
theorem dX3_toward_11 : decode cX3_toward 11 = .ok (.if_icmp .eq 15, 3) := by decide +kernel
theorem dX3_toward_14 : decode cX3_toward 14 = .ok (.iload_n 3, 1) := by decide +kernel
theorem dX3_toward_15 : decode cX3_toward 15 = .ok (.aload_n 0, 1) := by decide +kernel
theorem dX3_toward_16 : decode cX3_toward 16 = .ok (.iload_n 3, 1) := by decide +kernel
theorem dX3_toward_17 : decode cX3_toward 17 = .ok (.iload_n 2, 1) := by decide +kernel
theorem dX3_toward_18 : decode cX3_toward 18 = .ok (.invokevirtual 48, 3) := by decide +kernel
theorem dX3_toward_21 : decode cX3_toward 21 = .ok (.ior, 1) := by decide +kernel
theorem dX3_toward_22 : decode cX3_toward 22 = .ok (.istore_n 3, 1) := by decide +kernel
theorem dX3_toward_23 : decode cX3_toward 23 = .ok (.goto (-21), 3) := by decide +kernel
theorem dX3_toward_26 : decode cX3_toward 26 = .ok (.iload_n 3, 1) := by decide +kernel
theorem dX3_toward_27 : decode cX3_toward 27 = .ok (.ireturn, 1) := by decide +kernel
set_option maxRecDepth 20000 in
theorem ggX3_comingOf_X3_toward : GoodIn wsX3_comingOf wsX3_toward := goodIn_r _ [6, 7, 8, 9, 5, 10, 11, 12, 13, 14, 15, 16, 17, 18, 19, 20, 21, 22, 23, 24, 25, 26, 27, 28] (by decide +kernel) (by decide +kernel)
set_option maxRecDepth 20000 in
theorem gX3_comingOf_X3_toward : GoodIn wsX3_comingOf (wsV RX3 52 RX3 yX3_toward wsX3_toward) := goodIn_app (goodIn_of _ (by decide +kernel)) ggX3_comingOf_X3_toward
theorem dX3_comingOf_0 : decode cX3_comingOf 0 = .ok (.aload_n 0, 1) := by decide +kernel
theorem dX3_comingOf_1 : decode cX3_comingOf 1 = .ok (.aload_n 0, 1) := by decide +kernel
theorem dX3_comingOf_2 : decode cX3_comingOf 2 = .ok (.getfield 23, 3) := by decide +kernel
theorem dX3_comingOf_5 : decode cX3_comingOf 5 = .ok (.iload_n 1, 1) := by decide +kernel
theorem dX3_comingOf_6 : decode cX3_comingOf 6 = .ok (.invokevirtual 52, 3) := by decide +kernel
theorem dX3_comingOf_9 : decode cX3_comingOf 9 = .ok (.ireturn, 1) := by decide +kernel
set_option maxRecDepth 20000 in
theorem ggX3_keepingOf_X3_all : GoodIn wsX3_keepingOf wsX3_all := goodIn_r _ [5, 6, 26, 27, 28, 29, 30, 31, 32, 33, 34, 35, 36] (by decide +kernel) (by decide +kernel)
set_option maxRecDepth 20000 in
theorem gX3_keepingOf_X3_all : GoodIn wsX3_keepingOf (wsV RX3 55 RX3 yX3_all wsX3_all) := goodIn_app (goodIn_of _ (by decide +kernel)) ggX3_keepingOf_X3_all
set_option maxRecDepth 20000 in
theorem ggX3_keepingOf_X3_comingOf : GoodIn wsX3_keepingOf wsX3_comingOf := goodIn_r _ [10, 11, 12, 13, 14, 4, 15, 16, 17, 18, 19, 6, 20, 21, 22, 23, 24, 25, 26, 27, 28, 29, 30, 31, 32, 33, 34, 35, 36] (by decide +kernel) (by decide +kernel)
set_option maxRecDepth 20000 in
theorem gX3_keepingOf_X3_comingOf : GoodIn wsX3_keepingOf (wsV RX3 59 RX3 yX3_comingOf wsX3_comingOf) := goodIn_app (goodIn_of _ (by decide +kernel)) ggX3_keepingOf_X3_comingOf
theorem dX3_keepingOf_0 : decode cX3_keepingOf 0 = .ok (.aload_n 0, 1) := by decide +kernel
theorem dX3_keepingOf_1 : decode cX3_keepingOf 1 = .ok (.invokevirtual 55, 3) := by decide +kernel
theorem dX3_keepingOf_4 : decode cX3_keepingOf 4 = .ok (.aload_n 0, 1) := by decide +kernel
theorem dX3_keepingOf_5 : decode cX3_keepingOf 5 = .ok (.iconst 1, 1) := by decide +kernel
theorem dX3_keepingOf_6 : decode cX3_keepingOf 6 = .ok (.iload_n 1, 1) := by decide +kernel
theorem dX3_keepingOf_7 : decode cX3_keepingOf 7 = .ok (.isub, 1) := by decide +kernel
theorem dX3_keepingOf_8 : decode cX3_keepingOf 8 = .ok (.invokevirtual 59, 3) := by decide +kernel
theorem dX3_keepingOf_11 : decode cX3_keepingOf 11 = .ok (.iconst (-1), 1) := by decide +kernel
theorem dX3_keepingOf_12 : decode cX3_keepingOf 12 = .ok (.ixor, 1) := by decide +kernel
theorem dX3_keepingOf_13 : decode cX3_keepingOf 13 = .ok (.iand, 1) := by decide +kernel
theorem dX3_keepingOf_14 : decode cX3_keepingOf 14 = .ok (.ireturn, 1) := by decide +kernel
set_option maxRecDepth 20000 in
theorem ggX3_fallen_X3_aheadOf : GoodIn wsX3_fallen wsX3_aheadOf := goodIn_r _ [6, 7, 8, 9, 10, 11, 5, 12, 13, 18, 19, 20, 21, 22, 23, 24, 25, 26, 27, 28] (by decide +kernel) (by decide +kernel)
set_option maxRecDepth 20000 in
theorem gX3_fallen_X3_aheadOf : GoodIn wsX3_fallen (wsV RX3 48 RX3 yX3_aheadOf wsX3_aheadOf) := goodIn_app (goodIn_of _ (by decide +kernel)) ggX3_fallen_X3_aheadOf
set_option maxRecDepth 20000 in
theorem ggX3_fallen_X3_toward : GoodIn wsX3_fallen wsX3_toward := goodIn_r _ [17, 2, 3, 4, 5, 6, 7, 8, 9, 10, 11, 12, 13, 18, 19, 20, 21, 22, 23, 24, 25, 26, 27, 28] (by decide +kernel) (by decide +kernel)
set_option maxRecDepth 20000 in
theorem gX3_fallen_X3_toward : GoodIn wsX3_fallen (wsV RX3 52 RX3 yX3_toward wsX3_toward) := goodIn_app (goodIn_of _ (by decide +kernel)) ggX3_fallen_X3_toward
theorem dX3_fallen_0 : decode cX3_fallen 0 = .ok (.iload_n 1, 1) := by decide +kernel
theorem dX3_fallen_1 : decode cX3_fallen 1 = .ok (.aload_n 0, 1) := by decide +kernel
theorem dX3_fallen_2 : decode cX3_fallen 2 = .ok (.aload_n 0, 1) := by decide +kernel
theorem dX3_fallen_3 : decode cX3_fallen 3 = .ok (.getfield 23, 3) := by decide +kernel
theorem dX3_fallen_6 : decode cX3_fallen 6 = .ok (.aload_n 0, 1) := by decide +kernel
theorem dX3_fallen_7 : decode cX3_fallen 7 = .ok (.iload_n 1, 1) := by decide +kernel
theorem dX3_fallen_8 : decode cX3_fallen 8 = .ok (.iload_n 2, 1) := by decide +kernel
theorem dX3_fallen_9 : decode cX3_fallen 9 = .ok (.invokevirtual 48, 3) := by decide +kernel
theorem dX3_fallen_12 : decode cX3_fallen 12 = .ok (.iand, 1) := by decide +kernel
theorem dX3_fallen_13 : decode cX3_fallen 13 = .ok (.iload_n 2, 1) := by decide +kernel
theorem dX3_fallen_14 : decode cX3_fallen 14 = .ok (.invokevirtual 52, 3) := by decide +kernel
theorem dX3_fallen_17 : decode cX3_fallen 17 = .ok (.iand, 1) := by decide +kernel
theorem dX3_fallen_18 : decode cX3_fallen 18 = .ok (.ireturn, 1) := by decide +kernel
set_option maxRecDepth 20000 in
theorem ggX3_againOf_X3_all : GoodIn wsX3_againOf wsX3_all := goodIn_r _ [5, 6, 26, 27, 28, 29, 30, 31, 32, 33, 34, 35, 36] (by decide +kernel) (by decide +kernel)
set_option maxRecDepth 20000 in
theorem gX3_againOf_X3_all : GoodIn wsX3_againOf (wsV RX3 55 RX3 yX3_all wsX3_all) := goodIn_app (goodIn_of _ (by decide +kernel)) ggX3_againOf_X3_all
set_option maxRecDepth 20000 in
theorem ggX3_againOf_X3_fallen : GoodIn wsX3_againOf wsX3_fallen := goodIn_r _ [10, 11, 12, 13, 14, 4, 15, 6, 16, 17, 18, 19, 20, 21, 22, 23, 24, 25, 26, 27, 28, 29, 30, 31, 32, 33, 34, 35, 36] (by decide +kernel) (by decide +kernel)
set_option maxRecDepth 20000 in
theorem gX3_againOf_X3_fallen : GoodIn wsX3_againOf (wsV RX3 62 RX3 yX3_fallen wsX3_fallen) := goodIn_app (goodIn_of _ (by decide +kernel)) ggX3_againOf_X3_fallen
theorem dX3_againOf_0 : decode cX3_againOf 0 = .ok (.aload_n 0, 1) := by decide +kernel
theorem dX3_againOf_1 : decode cX3_againOf 1 = .ok (.invokevirtual 55, 3) := by decide +kernel
theorem dX3_againOf_4 : decode cX3_againOf 4 = .ok (.istore_n 2, 1) := by decide +kernel
theorem dX3_againOf_5 : decode cX3_againOf 5 = .ok (.aload_n 0, 1) := by decide +kernel
theorem dX3_againOf_6 : decode cX3_againOf 6 = .ok (.iload_n 2, 1) := by decide +kernel
theorem dX3_againOf_7 : decode cX3_againOf 7 = .ok (.iload_n 1, 1) := by decide +kernel
theorem dX3_againOf_8 : decode cX3_againOf 8 = .ok (.invokevirtual 62, 3) := by decide +kernel
theorem dX3_againOf_11 : decode cX3_againOf 11 = .ok (.iload_n 2, 1) := by decide +kernel
theorem dX3_againOf_12 : decode cX3_againOf 12 = .ok (.if_icmp .eq 13, 3) := by decide +kernel
theorem dX3_againOf_15 : decode cX3_againOf 15 = .ok (.aload_n 0, 1) := by decide +kernel
theorem dX3_againOf_16 : decode cX3_againOf 16 = .ok (.iload_n 2, 1) := by decide +kernel
theorem dX3_againOf_17 : decode cX3_againOf 17 = .ok (.iload_n 1, 1) := by decide +kernel
theorem dX3_againOf_18 : decode cX3_againOf 18 = .ok (.invokevirtual 62, 3) := by decide +kernel
theorem dX3_againOf_21 : decode cX3_againOf 21 = .ok (.istore_n 2, 1) := by decide +kernel
theorem dX3_againOf_22 : decode cX3_againOf 22 = .ok (.goto (-17), 3) := by decide +kernel
theorem dX3_againOf_25 : decode cX3_againOf 25 = .ok (.iload_n 2, 1) := by decide +kernel
theorem dX3_againOf_26 : decode cX3_againOf 26 = .ok (.ireturn, 1) := by decide +kernel
set_option maxRecDepth 20000 in
theorem ggX3_fallsOf_X3_all : GoodIn wsX3_fallsOf wsX3_all := goodIn_r _ [5, 6, 26, 27, 28, 29, 30, 31, 32, 33, 34, 35, 36] (by decide +kernel) (by decide +kernel)
set_option maxRecDepth 20000 in
theorem gX3_fallsOf_X3_all : GoodIn wsX3_fallsOf (wsV RX3 55 RX3 yX3_all wsX3_all) := goodIn_app (goodIn_of _ (by decide +kernel)) ggX3_fallsOf_X3_all
set_option maxRecDepth 20000 in
theorem ggX3_fallsOf_X3_fallen : GoodIn wsX3_fallsOf wsX3_fallen := goodIn_r _ [10, 11, 12, 13, 14, 4, 15, 6, 16, 17, 18, 19, 20, 21, 22, 23, 24, 25, 26, 27, 28, 29, 30, 31, 32, 33, 34, 35, 36] (by decide +kernel) (by decide +kernel)
set_option maxRecDepth 20000 in
theorem gX3_fallsOf_X3_fallen : GoodIn wsX3_fallsOf (wsV RX3 62 RX3 yX3_fallen wsX3_fallen) := goodIn_app (goodIn_of _ (by decide +kernel)) ggX3_fallsOf_X3_fallen
theorem dX3_fallsOf_0 : decode cX3_fallsOf 0 = .ok (.iconst 0, 1) := by decide +kernel
theorem dX3_fallsOf_1 : decode cX3_fallsOf 1 = .ok (.istore_n 2, 1) := by decide +kernel
theorem dX3_fallsOf_2 : decode cX3_fallsOf 2 = .ok (.aload_n 0, 1) := by decide +kernel
theorem dX3_fallsOf_3 : decode cX3_fallsOf 3 = .ok (.invokevirtual 55, 3) := by decide +kernel
theorem dX3_fallsOf_6 : decode cX3_fallsOf 6 = .ok (.istore_n 3, 1) := by decide +kernel
theorem dX3_fallsOf_7 : decode cX3_fallsOf 7 = .ok (.aload_n 0, 1) := by decide +kernel
theorem dX3_fallsOf_8 : decode cX3_fallsOf 8 = .ok (.iload_n 3, 1) := by decide +kernel
theorem dX3_fallsOf_9 : decode cX3_fallsOf 9 = .ok (.iload_n 1, 1) := by decide +kernel
theorem dX3_fallsOf_10 : decode cX3_fallsOf 10 = .ok (.invokevirtual 62, 3) := by decide +kernel
theorem dX3_fallsOf_13 : decode cX3_fallsOf 13 = .ok (.iload_n 3, 1) := by decide +kernel
theorem dX3_fallsOf_14 : decode cX3_fallsOf 14 = .ok (.if_icmp .eq 16, 3) := by decide +kernel
theorem dX3_fallsOf_17 : decode cX3_fallsOf 17 = .ok (.iinc 2 1, 3) := by decide +kernel
theorem dX3_fallsOf_20 : decode cX3_fallsOf 20 = .ok (.aload_n 0, 1) := by decide +kernel
theorem dX3_fallsOf_21 : decode cX3_fallsOf 21 = .ok (.iload_n 3, 1) := by decide +kernel
theorem dX3_fallsOf_22 : decode cX3_fallsOf 22 = .ok (.iload_n 1, 1) := by decide +kernel
theorem dX3_fallsOf_23 : decode cX3_fallsOf 23 = .ok (.invokevirtual 62, 3) := by decide +kernel
theorem dX3_fallsOf_26 : decode cX3_fallsOf 26 = .ok (.istore_n 3, 1) := by decide +kernel
theorem dX3_fallsOf_27 : decode cX3_fallsOf 27 = .ok (.goto (-20), 3) := by decide +kernel
theorem dX3_fallsOf_30 : decode cX3_fallsOf 30 = .ok (.iload_n 2, 1) := by decide +kernel
theorem dX3_fallsOf_31 : decode cX3_fallsOf 31 = .ok (.ireturn, 1) := by decide +kernel
theorem dX3_withRank_0 : decode cX3_withRank 0 = .ok (.iconst 0, 1) := by decide +kernel
theorem dX3_withRank_1 : decode cX3_withRank 1 = .ok (.istore_n 2, 1) := by decide +kernel
theorem dX3_withRank_2 : decode cX3_withRank 2 = .ok (.iconst 0, 1) := by decide +kernel
theorem dX3_withRank_3 : decode cX3_withRank 3 = .ok (.istore_n 3, 1) := by decide +kernel
theorem dX3_withRank_4 : decode cX3_withRank 4 = .ok (.iload_n 3, 1) := by decide +kernel
theorem dX3_withRank_5 : decode cX3_withRank 5 = .ok (.aload_n 0, 1) := by decide +kernel
theorem dX3_withRank_6 : decode cX3_withRank 6 = .ok (.getfield 17, 3) := by decide +kernel
theorem dX3_withRank_9 : decode cX3_withRank 9 = .ok (.if_icmp .ge 29, 3) := by decide +kernel
theorem dX3_withRank_12 : decode cX3_withRank 12 = .ok (.iload_n 2, 1) := by decide +kernel
theorem dX3_withRank_13 : decode cX3_withRank 13 = .ok (.aload_n 0, 1) := by decide +kernel
theorem dX3_withRank_14 : decode cX3_withRank 14 = .ok (.getfield 26, 3) := by decide +kernel
theorem dX3_withRank_17 : decode cX3_withRank 17 = .ok (.iload_n 3, 1) := by decide +kernel
theorem dX3_withRank_18 : decode cX3_withRank 18 = .ok (.iaload, 1) := by decide +kernel
theorem dX3_withRank_19 : decode cX3_withRank 19 = .ok (.iload_n 1, 1) := by decide +kernel
theorem dX3_withRank_20 : decode cX3_withRank 20 = .ok (.if_icmp .ne 9, 3) := by decide +kernel
theorem dX3_withRank_23 : decode cX3_withRank 23 = .ok (.iconst 1, 1) := by decide +kernel
theorem dX3_withRank_24 : decode cX3_withRank 24 = .ok (.iload_n 3, 1) := by decide +kernel
theorem dX3_withRank_25 : decode cX3_withRank 25 = .ok (.ishl, 1) := by decide +kernel
theorem dX3_withRank_26 : decode cX3_withRank 26 = .ok (.goto 4, 3) := by decide +kernel
theorem dX3_withRank_29 : decode cX3_withRank 29 = .ok (.iconst 0, 1) := by decide +kernel
theorem dX3_withRank_30 : decode cX3_withRank 30 = .ok (.ior, 1) := by decide +kernel
theorem dX3_withRank_31 : decode cX3_withRank 31 = .ok (.istore_n 2, 1) := by decide +kernel
theorem dX3_withRank_32 : decode cX3_withRank 32 = .ok (.iinc 3 1, 3) := by decide +kernel
theorem dX3_withRank_35 : decode cX3_withRank 35 = .ok (.goto (-31), 3) := by decide +kernel
theorem dX3_withRank_38 : decode cX3_withRank 38 = .ok (.iload_n 2, 1) := by decide +kernel
theorem dX3_withRank_39 : decode cX3_withRank 39 = .ok (.ireturn, 1) := by decide +kernel
set_option maxRecDepth 20000 in
theorem ggX3_rankedOf_X3_all : GoodIn wsX3_rankedOf wsX3_all := goodIn_r _ [5, 6, 22, 23, 24, 25, 26, 27, 28, 29, 30, 31, 32] (by decide +kernel) (by decide +kernel)
set_option maxRecDepth 20000 in
theorem gX3_rankedOf_X3_all : GoodIn wsX3_rankedOf (wsV RX3 55 RX3 yX3_all wsX3_all) := goodIn_app (goodIn_of _ (by decide +kernel)) ggX3_rankedOf_X3_all
set_option maxRecDepth 20000 in
theorem ggX3_rankedOf_X3_withRank : GoodIn wsX3_rankedOf wsX3_withRank := goodIn_r _ [10, 6, 11, 22, 23, 24, 25, 26, 27, 28, 29, 30, 31, 32] (by decide +kernel) (by decide +kernel)
set_option maxRecDepth 20000 in
theorem gX3_rankedOf_X3_withRank : GoodIn wsX3_rankedOf (wsV RX3 65 RX3 yX3_withRank wsX3_withRank) := goodIn_app (goodIn_of _ (by decide +kernel)) ggX3_rankedOf_X3_withRank
set_option maxRecDepth 20000 in
theorem ggX3_rankedOf_X3_aheadOf : GoodIn wsX3_rankedOf wsX3_aheadOf := goodIn_r _ [15, 6, 16, 17, 18, 19, 4, 20, 21, 22, 23, 24, 25, 26, 27, 28, 29, 30, 31, 32] (by decide +kernel) (by decide +kernel)
set_option maxRecDepth 20000 in
theorem gX3_rankedOf_X3_aheadOf : GoodIn wsX3_rankedOf (wsV RX3 48 RX3 yX3_aheadOf wsX3_aheadOf) := goodIn_app (goodIn_of _ (by decide +kernel)) ggX3_rankedOf_X3_aheadOf
theorem dX3_rankedOf_0 : decode cX3_rankedOf 0 = .ok (.aload_n 0, 1) := by decide +kernel
theorem dX3_rankedOf_1 : decode cX3_rankedOf 1 = .ok (.invokevirtual 55, 3) := by decide +kernel
theorem dX3_rankedOf_4 : decode cX3_rankedOf 4 = .ok (.istore_n 1, 1) := by decide +kernel
theorem dX3_rankedOf_5 : decode cX3_rankedOf 5 = .ok (.iconst 0, 1) := by decide +kernel
theorem dX3_rankedOf_6 : decode cX3_rankedOf 6 = .ok (.istore_n 2, 1) := by decide +kernel
theorem dX3_rankedOf_7 : decode cX3_rankedOf 7 = .ok (.aload_n 0, 1) := by decide +kernel
theorem dX3_rankedOf_8 : decode cX3_rankedOf 8 = .ok (.invokevirtual 55, 3) := by decide +kernel
theorem dX3_rankedOf_11 : decode cX3_rankedOf 11 = .ok (.istore_n 3, 1) := by decide +kernel
theorem dX3_rankedOf_12 : decode cX3_rankedOf 12 = .ok (.aload_n 0, 1) := by decide +kernel
theorem dX3_rankedOf_13 : decode cX3_rankedOf 13 = .ok (.iconst 0, 1) := by decide +kernel
theorem dX3_rankedOf_14 : decode cX3_rankedOf 14 = .ok (.invokevirtual 65, 3) := by decide +kernel
theorem dX3_rankedOf_17 : decode cX3_rankedOf 17 = .ok (.aload_n 0, 1) := by decide +kernel
theorem dX3_rankedOf_18 : decode cX3_rankedOf 18 = .ok (.iload_n 1, 1) := by decide +kernel
theorem dX3_rankedOf_19 : decode cX3_rankedOf 19 = .ok (.iconst 0, 1) := by decide +kernel
theorem dX3_rankedOf_20 : decode cX3_rankedOf 20 = .ok (.invokevirtual 48, 3) := by decide +kernel
theorem dX3_rankedOf_23 : decode cX3_rankedOf 23 = .ok (.iand, 1) := by decide +kernel
theorem dX3_rankedOf_24 : decode cX3_rankedOf 24 = .ok (.aload_n 0, 1) := by decide +kernel
theorem dX3_rankedOf_25 : decode cX3_rankedOf 25 = .ok (.iconst 1, 1) := by decide +kernel
theorem dX3_rankedOf_26 : decode cX3_rankedOf 26 = .ok (.invokevirtual 65, 3) := by decide +kernel
theorem dX3_rankedOf_29 : decode cX3_rankedOf 29 = .ok (.aload_n 0, 1) := by decide +kernel
theorem dX3_rankedOf_30 : decode cX3_rankedOf 30 = .ok (.iload_n 2, 1) := by decide +kernel
theorem dX3_rankedOf_31 : decode cX3_rankedOf 31 = .ok (.iconst 0, 1) := by decide +kernel
theorem dX3_rankedOf_32 : decode cX3_rankedOf 32 = .ok (.invokevirtual 48, 3) := by decide +kernel
theorem dX3_rankedOf_35 : decode cX3_rankedOf 35 = .ok (.iand, 1) := by decide +kernel
theorem dX3_rankedOf_36 : decode cX3_rankedOf 36 = .ok (.ior, 1) := by decide +kernel
theorem dX3_rankedOf_37 : decode cX3_rankedOf 37 = .ok (.aload_n 0, 1) := by decide +kernel
theorem dX3_rankedOf_38 : decode cX3_rankedOf 38 = .ok (.iconst 2, 1) := by decide +kernel
theorem dX3_rankedOf_39 : decode cX3_rankedOf 39 = .ok (.invokevirtual 65, 3) := by decide +kernel
theorem dX3_rankedOf_42 : decode cX3_rankedOf 42 = .ok (.aload_n 0, 1) := by decide +kernel
theorem dX3_rankedOf_43 : decode cX3_rankedOf 43 = .ok (.iload_n 3, 1) := by decide +kernel
theorem dX3_rankedOf_44 : decode cX3_rankedOf 44 = .ok (.iconst 0, 1) := by decide +kernel
theorem dX3_rankedOf_45 : decode cX3_rankedOf 45 = .ok (.invokevirtual 48, 3) := by decide +kernel
theorem dX3_rankedOf_48 : decode cX3_rankedOf 48 = .ok (.iand, 1) := by decide +kernel
theorem dX3_rankedOf_49 : decode cX3_rankedOf 49 = .ok (.ior, 1) := by decide +kernel
theorem dX3_rankedOf_50 : decode cX3_rankedOf 50 = .ok (.istore 4, 2) := by decide +kernel
theorem dX3_rankedOf_52 : decode cX3_rankedOf 52 = .ok (.iload 4, 2) := by decide +kernel
theorem dX3_rankedOf_54 : decode cX3_rankedOf 54 = .ok (.iload_n 3, 1) := by decide +kernel
theorem dX3_rankedOf_55 : decode cX3_rankedOf 55 = .ok (.if_icmp .ne 6, 3) := by decide +kernel
theorem dX3_rankedOf_58 : decode cX3_rankedOf 58 = .ok (.goto 9, 3) := by decide +kernel
theorem dX3_rankedOf_61 : decode cX3_rankedOf 61 = .ok (.iload 4, 2) := by decide +kernel
theorem dX3_rankedOf_63 : decode cX3_rankedOf 63 = .ok (.istore_n 3, 1) := by decide +kernel
theorem dX3_rankedOf_64 : decode cX3_rankedOf 64 = .ok (.goto (-52), 3) := by decide +kernel
theorem dX3_rankedOf_67 : decode cX3_rankedOf 67 = .ok (.iload_n 3, 1) := by decide +kernel
theorem dX3_rankedOf_68 : decode cX3_rankedOf 68 = .ok (.iload_n 2, 1) := by decide +kernel
theorem dX3_rankedOf_69 : decode cX3_rankedOf 69 = .ok (.if_icmp .ne 6, 3) := by decide +kernel
theorem dX3_rankedOf_72 : decode cX3_rankedOf 72 = .ok (.goto 8, 3) := by decide +kernel
theorem dX3_rankedOf_75 : decode cX3_rankedOf 75 = .ok (.iload_n 3, 1) := by decide +kernel
theorem dX3_rankedOf_76 : decode cX3_rankedOf 76 = .ok (.istore_n 2, 1) := by decide +kernel
theorem dX3_rankedOf_77 : decode cX3_rankedOf 77 = .ok (.goto (-70), 3) := by decide +kernel
theorem dX3_rankedOf_80 : decode cX3_rankedOf 80 = .ok (.iload_n 2, 1) := by decide +kernel
theorem dX3_rankedOf_81 : decode cX3_rankedOf 81 = .ok (.iload_n 1, 1) := by decide +kernel
theorem dX3_rankedOf_82 : decode cX3_rankedOf 82 = .ok (.if_icmp .ne 5, 3) := by decide +kernel
theorem dX3_rankedOf_85 : decode cX3_rankedOf 85 = .ok (.iload_n 1, 1) := by decide +kernel
theorem dX3_rankedOf_86 : decode cX3_rankedOf 86 = .ok (.ireturn, 1) := by decide +kernel
theorem dX3_rankedOf_87 : decode cX3_rankedOf 87 = .ok (.iload_n 2, 1) := by decide +kernel
theorem dX3_rankedOf_88 : decode cX3_rankedOf 88 = .ok (.istore_n 1, 1) := by decide +kernel
theorem dX3_rankedOf_89 : decode cX3_rankedOf 89 = .ok (.goto (-84), 3) := by decide +kernel
set_option maxRecDepth 20000 in
theorem ggX3_wonIn_X3_comingOf : GoodIn wsX3_wonIn wsX3_comingOf := goodIn_r _ [5, 6, 7, 8, 9, 4, 10, 11, 12, 13, 14, 15, 16, 17, 18, 19, 20, 21, 47, 48, 49, 50, 51, 52, 53, 54, 55, 56, 57] (by decide +kernel) (by decide +kernel)
set_option maxRecDepth 20000 in
theorem gX3_wonIn_X3_comingOf : GoodIn wsX3_wonIn (wsV RX3 59 RX3 yX3_comingOf wsX3_comingOf) := goodIn_app (goodIn_of _ (by decide +kernel)) ggX3_wonIn_X3_comingOf
set_option maxRecDepth 20000 in
theorem ggX3_wonIn_X3_keepingOf : GoodIn wsX3_wonIn wsX3_keepingOf := goodIn_r _ [25, 26, 27, 28, 4, 29, 15, 1, 2, 3, 5, 6, 7, 8, 9, 10, 11, 12, 13, 14, 16, 17, 18, 19, 20, 21, 47, 48, 49, 50, 51, 52, 53, 54, 55, 56, 57] (by decide +kernel) (by decide +kernel)
set_option maxRecDepth 20000 in
theorem gX3_wonIn_X3_keepingOf : GoodIn wsX3_wonIn (wsV RX3 68 RX3 yX3_keepingOf wsX3_keepingOf) := goodIn_app (goodIn_of _ (by decide +kernel)) ggX3_wonIn_X3_keepingOf
set_option maxRecDepth 20000 in
theorem ggX3_wonIn_X3_againOf : GoodIn wsX3_wonIn wsX3_againOf := goodIn_r _ [33, 26, 27, 28, 4, 29, 15, 34, 35, 36, 37, 6, 11, 12, 13, 14, 16, 17, 18, 19, 20, 21, 7, 8, 9, 10, 47, 48, 49, 50, 51, 52, 53, 54, 55, 56, 57] (by decide +kernel) (by decide +kernel)
set_option maxRecDepth 20000 in
theorem gX3_wonIn_X3_againOf : GoodIn wsX3_wonIn (wsV RX3 71 RX3 yX3_againOf wsX3_againOf) := goodIn_app (goodIn_of _ (by decide +kernel)) ggX3_wonIn_X3_againOf
set_option maxRecDepth 20000 in
theorem ggX3_wonIn_X3_rankedOf : GoodIn wsX3_wonIn wsX3_rankedOf := goodIn_r _ [41, 26, 27, 28, 4, 29, 15, 42, 43, 44, 45, 46, 11, 12, 13, 14, 16, 17, 18, 19, 20, 21, 47, 48, 49, 50, 51, 52, 53, 54, 55, 56, 57] (by decide +kernel) (by decide +kernel)
set_option maxRecDepth 20000 in
theorem gX3_wonIn_X3_rankedOf : GoodIn wsX3_wonIn (wsV RX3 74 RX3 yX3_rankedOf wsX3_rankedOf) := goodIn_app (goodIn_of _ (by decide +kernel)) ggX3_wonIn_X3_rankedOf
set_option maxRecDepth 20000 in
theorem ggX3_wonIn_X3_all : GoodIn wsX3_wonIn wsX3_all := goodIn_r _ [29, 15, 47, 48, 49, 50, 51, 52, 53, 54, 55, 56, 57] (by decide +kernel) (by decide +kernel)
set_option maxRecDepth 20000 in
theorem gX3_wonIn_X3_all : GoodIn wsX3_wonIn (wsV RX3 55 RX3 yX3_all wsX3_all) := goodIn_app (goodIn_of _ (by decide +kernel)) ggX3_wonIn_X3_all
theorem dX3_wonIn_0 : decode cX3_wonIn 0 = .ok (.iload_n 1, 1) := by decide +kernel
theorem dX3_wonIn_1 : decode cX3_wonIn 1 = .ok (.tableswitch 45 0 2 #[27, 33, 39], 27) := by decide +kernel
theorem dX3_wonIn_28 : decode cX3_wonIn 28 = .ok (.aload_n 0, 1) := by decide +kernel
theorem dX3_wonIn_29 : decode cX3_wonIn 29 = .ok (.iload_n 2, 1) := by decide +kernel
theorem dX3_wonIn_30 : decode cX3_wonIn 30 = .ok (.invokevirtual 59, 3) := by decide +kernel
theorem dX3_wonIn_33 : decode cX3_wonIn 33 = .ok (.ireturn, 1) := by decide +kernel
theorem dX3_wonIn_34 : decode cX3_wonIn 34 = .ok (.aload_n 0, 1) := by decide +kernel
theorem dX3_wonIn_35 : decode cX3_wonIn 35 = .ok (.iload_n 2, 1) := by decide +kernel
theorem dX3_wonIn_36 : decode cX3_wonIn 36 = .ok (.invokevirtual 68, 3) := by decide +kernel
theorem dX3_wonIn_39 : decode cX3_wonIn 39 = .ok (.ireturn, 1) := by decide +kernel
theorem dX3_wonIn_40 : decode cX3_wonIn 40 = .ok (.aload_n 0, 1) := by decide +kernel
theorem dX3_wonIn_41 : decode cX3_wonIn 41 = .ok (.iload_n 2, 1) := by decide +kernel
theorem dX3_wonIn_42 : decode cX3_wonIn 42 = .ok (.invokevirtual 71, 3) := by decide +kernel
theorem dX3_wonIn_45 : decode cX3_wonIn 45 = .ok (.ireturn, 1) := by decide +kernel
theorem dX3_wonIn_46 : decode cX3_wonIn 46 = .ok (.iload_n 2, 1) := by decide +kernel
theorem dX3_wonIn_47 : decode cX3_wonIn 47 = .ok (.ifCond .ne 10, 3) := by decide +kernel
theorem dX3_wonIn_50 : decode cX3_wonIn 50 = .ok (.aload_n 0, 1) := by decide +kernel
theorem dX3_wonIn_51 : decode cX3_wonIn 51 = .ok (.invokevirtual 74, 3) := by decide +kernel
theorem dX3_wonIn_54 : decode cX3_wonIn 54 = .ok (.goto 14, 3) := by decide +kernel
theorem dX3_wonIn_57 : decode cX3_wonIn 57 = .ok (.aload_n 0, 1) := by decide +kernel
theorem dX3_wonIn_58 : decode cX3_wonIn 58 = .ok (.invokevirtual 55, 3) := by decide +kernel
theorem dX3_wonIn_61 : decode cX3_wonIn 61 = .ok (.aload_n 0, 1) := by decide +kernel
theorem dX3_wonIn_62 : decode cX3_wonIn 62 = .ok (.invokevirtual 74, 3) := by decide +kernel
theorem dX3_wonIn_65 : decode cX3_wonIn 65 = .ok (.iconst (-1), 1) := by decide +kernel
theorem dX3_wonIn_66 : decode cX3_wonIn 66 = .ok (.ixor, 1) := by decide +kernel
theorem dX3_wonIn_67 : decode cX3_wonIn 67 = .ok (.iand, 1) := by decide +kernel
theorem dX3_wonIn_68 : decode cX3_wonIn 68 = .ok (.ireturn, 1) := by decide +kernel
set_option maxRecDepth 20000 in
theorem ggX3_roundsTo_X3_isIn : GoodIn wsX3_roundsTo wsX3_isIn := goodIn_r _ [7] (by decide +kernel) (by decide +kernel)
set_option maxRecDepth 20000 in
theorem gX3_roundsTo_X3_isIn : GoodIn wsX3_roundsTo (va_wsS RX3 77 yX3_isIn wsX3_isIn) := goodIn_app (goodIn_of _ (by decide +kernel)) ggX3_roundsTo_X3_isIn
set_option maxRecDepth 20000 in
theorem ggX3_roundsTo_X3_sideOf : GoodIn wsX3_roundsTo wsX3_sideOf := goodIn_r _ [11, 12, 17, 18, 19, 20, 21, 22, 23, 24, 25, 26, 27] (by decide +kernel) (by decide +kernel)
set_option maxRecDepth 20000 in
theorem gX3_roundsTo_X3_sideOf : GoodIn wsX3_roundsTo (wsV RX3 45 RX3 yX3_sideOf wsX3_sideOf) := goodIn_app (goodIn_of _ (by decide +kernel)) ggX3_roundsTo_X3_sideOf
set_option maxRecDepth 20000 in
theorem ggX3_roundsTo_X3_aheadOf : GoodIn wsX3_roundsTo wsX3_aheadOf := goodIn_r _ [16, 2, 3, 8, 9, 10, 6, 11, 12, 17, 18, 19, 20, 21, 22, 23, 24, 25, 26, 27] (by decide +kernel) (by decide +kernel)
set_option maxRecDepth 20000 in
theorem gX3_roundsTo_X3_aheadOf : GoodIn wsX3_roundsTo (wsV RX3 48 RX3 yX3_aheadOf wsX3_aheadOf) := goodIn_app (goodIn_of _ (by decide +kernel)) ggX3_roundsTo_X3_aheadOf
theorem dX3_roundsTo_0 : decode cX3_roundsTo 0 = .ok (.iload_n 1, 1) := by decide +kernel
theorem dX3_roundsTo_1 : decode cX3_roundsTo 1 = .ok (.iload_n 3, 1) := by decide +kernel
theorem dX3_roundsTo_2 : decode cX3_roundsTo 2 = .ok (.invokestatic 77, 3) := by decide +kernel
theorem dX3_roundsTo_5 : decode cX3_roundsTo 5 = .ok (.ifCond .ne 5, 3) := by decide +kernel
theorem dX3_roundsTo_8 : decode cX3_roundsTo 8 = .ok (.iconst (-1), 1) := by decide +kernel
theorem dX3_roundsTo_9 : decode cX3_roundsTo 9 = .ok (.ireturn, 1) := by decide +kernel
theorem dX3_roundsTo_10 : decode cX3_roundsTo 10 = .ok (.aload_n 0, 1) := by decide +kernel
theorem dX3_roundsTo_11 : decode cX3_roundsTo 11 = .ok (.getfield 23, 3) := by decide +kernel
theorem dX3_roundsTo_14 : decode cX3_roundsTo 14 = .ok (.iload_n 1, 1) := by decide +kernel
theorem dX3_roundsTo_15 : decode cX3_roundsTo 15 = .ok (.iand, 1) := by decide +kernel
theorem dX3_roundsTo_16 : decode cX3_roundsTo 16 = .ok (.istore 4, 2) := by decide +kernel
theorem dX3_roundsTo_18 : decode cX3_roundsTo 18 = .ok (.iconst 0, 1) := by decide +kernel
theorem dX3_roundsTo_19 : decode cX3_roundsTo 19 = .ok (.istore 5, 2) := by decide +kernel
theorem dX3_roundsTo_21 : decode cX3_roundsTo 21 = .ok (.iload 5, 2) := by decide +kernel
theorem dX3_roundsTo_23 : decode cX3_roundsTo 23 = .ok (.aload_n 0, 1) := by decide +kernel
theorem dX3_roundsTo_24 : decode cX3_roundsTo 24 = .ok (.getfield 17, 3) := by decide +kernel
theorem dX3_roundsTo_27 : decode cX3_roundsTo 27 = .ok (.if_icmp .ge 38, 3) := by decide +kernel
theorem dX3_roundsTo_30 : decode cX3_roundsTo 30 = .ok (.aload_n 0, 1) := by decide +kernel
theorem dX3_roundsTo_31 : decode cX3_roundsTo 31 = .ok (.iload 5, 2) := by decide +kernel
theorem dX3_roundsTo_33 : decode cX3_roundsTo 33 = .ok (.invokevirtual 45, 3) := by decide +kernel
theorem dX3_roundsTo_36 : decode cX3_roundsTo 36 = .ok (.iload_n 2, 1) := by decide +kernel
theorem dX3_roundsTo_37 : decode cX3_roundsTo 37 = .ok (.if_icmp .eq 22, 3) := by decide +kernel
theorem dX3_roundsTo_40 : decode cX3_roundsTo 40 = .ok (.aload_n 0, 1) := by decide +kernel
theorem dX3_roundsTo_41 : decode cX3_roundsTo 41 = .ok (.getfield 30, 3) := by decide +kernel
theorem dX3_roundsTo_44 : decode cX3_roundsTo 44 = .ok (.iload 5, 2) := by decide +kernel
theorem dX3_roundsTo_46 : decode cX3_roundsTo 46 = .ok (.iaload, 1) := by decide +kernel
theorem dX3_roundsTo_47 : decode cX3_roundsTo 47 = .ok (.ifCond .ne 12, 3) := by decide +kernel
theorem dX3_roundsTo_50 : decode cX3_roundsTo 50 = .ok (.iload 4, 2) := by decide +kernel
theorem dX3_roundsTo_52 : decode cX3_roundsTo 52 = .ok (.iconst 1, 1) := by decide +kernel
theorem dX3_roundsTo_53 : decode cX3_roundsTo 53 = .ok (.iload 5, 2) := by decide +kernel
theorem dX3_roundsTo_55 : decode cX3_roundsTo 55 = .ok (.ishl, 1) := by decide +kernel
theorem dX3_roundsTo_56 : decode cX3_roundsTo 56 = .ok (.ior, 1) := by decide +kernel
theorem dX3_roundsTo_57 : decode cX3_roundsTo 57 = .ok (.istore 4, 2) := by decide +kernel
theorem dX3_roundsTo_59 : decode cX3_roundsTo 59 = .ok (.iinc 5 1, 3) := by decide +kernel
theorem dX3_roundsTo_62 : decode cX3_roundsTo 62 = .ok (.goto (-41), 3) := by decide +kernel
theorem dX3_roundsTo_65 : decode cX3_roundsTo 65 = .ok (.iconst 0, 1) := by decide +kernel
theorem dX3_roundsTo_66 : decode cX3_roundsTo 66 = .ok (.istore 5, 2) := by decide +kernel
theorem dX3_roundsTo_68 : decode cX3_roundsTo 68 = .ok (.iload 4, 2) := by decide +kernel
theorem dX3_roundsTo_70 : decode cX3_roundsTo 70 = .ok (.iload_n 3, 1) := by decide +kernel
theorem dX3_roundsTo_71 : decode cX3_roundsTo 71 = .ok (.invokestatic 77, 3) := by decide +kernel
theorem dX3_roundsTo_74 : decode cX3_roundsTo 74 = .ok (.ifCond .ne 23, 3) := by decide +kernel
theorem dX3_roundsTo_77 : decode cX3_roundsTo 77 = .ok (.iload 4, 2) := by decide +kernel
theorem dX3_roundsTo_79 : decode cX3_roundsTo 79 = .ok (.aload_n 0, 1) := by decide +kernel
theorem dX3_roundsTo_80 : decode cX3_roundsTo 80 = .ok (.iload 4, 2) := by decide +kernel
theorem dX3_roundsTo_82 : decode cX3_roundsTo 82 = .ok (.iload_n 2, 1) := by decide +kernel
theorem dX3_roundsTo_83 : decode cX3_roundsTo 83 = .ok (.invokevirtual 48, 3) := by decide +kernel
theorem dX3_roundsTo_86 : decode cX3_roundsTo 86 = .ok (.iload_n 1, 1) := by decide +kernel
theorem dX3_roundsTo_87 : decode cX3_roundsTo 87 = .ok (.iand, 1) := by decide +kernel
theorem dX3_roundsTo_88 : decode cX3_roundsTo 88 = .ok (.ior, 1) := by decide +kernel
theorem dX3_roundsTo_89 : decode cX3_roundsTo 89 = .ok (.istore 4, 2) := by decide +kernel
theorem dX3_roundsTo_91 : decode cX3_roundsTo 91 = .ok (.iinc 5 1, 3) := by decide +kernel
theorem dX3_roundsTo_94 : decode cX3_roundsTo 94 = .ok (.goto (-26), 3) := by decide +kernel
theorem dX3_roundsTo_97 : decode cX3_roundsTo 97 = .ok (.iload 5, 2) := by decide +kernel
theorem dX3_roundsTo_99 : decode cX3_roundsTo 99 = .ok (.ireturn, 1) := by decide +kernel
set_option maxRecDepth 20000 in
theorem ggX3_choiceOf_X3_wonIn : GoodIn wsX3_choiceOf wsX3_wonIn := goodIn_r _ [8, 9, 10, 11, 7, 12, 1, 13, 14, 15, 16, 17, 18, 19, 20, 2, 3, 21, 22, 23, 24, 25, 26, 27, 28, 29, 30, 31, 32, 33, 34, 35, 36, 37, 38, 39, 40, 41, 42, 43, 44, 45, 46, 47, 48, 49, 50, 58, 59, 60, 61, 62, 63, 64, 65, 66, 67, 68] (by decide +kernel) (by decide +kernel)
set_option maxRecDepth 20000 in
theorem gX3_choiceOf_X3_wonIn : GoodIn wsX3_choiceOf (wsV RX3 81 RX3 yX3_wonIn wsX3_wonIn) := goodIn_app (goodIn_of _ (by decide +kernel)) ggX3_choiceOf_X3_wonIn
set_option maxRecDepth 20000 in
theorem ggX3_choiceOf_X3_sideOf : GoodIn wsX3_choiceOf wsX3_sideOf := goodIn_r _ [24, 25, 58, 59, 60, 61, 62, 63, 64, 65, 66, 67, 68] (by decide +kernel) (by decide +kernel)
set_option maxRecDepth 20000 in
theorem gX3_choiceOf_X3_sideOf : GoodIn wsX3_choiceOf (wsV RX3 45 RX3 yX3_sideOf wsX3_sideOf) := goodIn_app (goodIn_of _ (by decide +kernel)) ggX3_choiceOf_X3_sideOf
set_option maxRecDepth 20000 in
theorem ggX3_choiceOf_X3_isIn : GoodIn wsX3_choiceOf wsX3_isIn := goodIn_r _ [53] (by decide +kernel) (by decide +kernel)
set_option maxRecDepth 20000 in
theorem gX3_choiceOf_X3_isIn : GoodIn wsX3_choiceOf (va_wsS RX3 77 yX3_isIn wsX3_isIn) := goodIn_app (goodIn_of _ (by decide +kernel)) ggX3_choiceOf_X3_isIn
set_option maxRecDepth 20000 in
theorem ggX3_choiceOf_X3_roundsTo : GoodIn wsX3_choiceOf wsX3_roundsTo := goodIn_r _ [57, 1, 2, 3, 51, 52, 7, 53, 21, 22, 23, 24, 25, 17, 18, 19, 20, 58, 59, 60, 61, 62, 63, 64, 65, 66, 67, 68] (by decide +kernel) (by decide +kernel)
set_option maxRecDepth 20000 in
theorem gX3_choiceOf_X3_roundsTo : GoodIn wsX3_choiceOf (wsV RX3 84 RX3 yX3_roundsTo wsX3_roundsTo) := goodIn_app (goodIn_of _ (by decide +kernel)) ggX3_choiceOf_X3_roundsTo
theorem dX3_choiceOf_0 : decode cX3_choiceOf 0 = .ok (.aload_n 0, 1) := by decide +kernel
theorem dX3_choiceOf_1 : decode cX3_choiceOf 1 = .ok (.iload_n 1, 1) := by decide +kernel
theorem dX3_choiceOf_2 : decode cX3_choiceOf 2 = .ok (.iload_n 2, 1) := by decide +kernel
theorem dX3_choiceOf_3 : decode cX3_choiceOf 3 = .ok (.invokevirtual 81, 3) := by decide +kernel
theorem dX3_choiceOf_6 : decode cX3_choiceOf 6 = .ok (.istore 4, 2) := by decide +kernel
theorem dX3_choiceOf_8 : decode cX3_choiceOf 8 = .ok (.aload_n 0, 1) := by decide +kernel
theorem dX3_choiceOf_9 : decode cX3_choiceOf 9 = .ok (.iload_n 3, 1) := by decide +kernel
theorem dX3_choiceOf_10 : decode cX3_choiceOf 10 = .ok (.invokevirtual 45, 3) := by decide +kernel
theorem dX3_choiceOf_13 : decode cX3_choiceOf 13 = .ok (.iload_n 2, 1) := by decide +kernel
theorem dX3_choiceOf_14 : decode cX3_choiceOf 14 = .ok (.if_icmp .ne 12, 3) := by decide +kernel
theorem dX3_choiceOf_17 : decode cX3_choiceOf 17 = .ok (.iload 4, 2) := by decide +kernel
theorem dX3_choiceOf_19 : decode cX3_choiceOf 19 = .ok (.iload_n 3, 1) := by decide +kernel
theorem dX3_choiceOf_20 : decode cX3_choiceOf 20 = .ok (.invokestatic 77, 3) := by decide +kernel
theorem dX3_choiceOf_23 : decode cX3_choiceOf 23 = .ok (.ifCond .ne 5, 3) := by decide +kernel
theorem dX3_choiceOf_26 : decode cX3_choiceOf 26 = .ok (.iconst (-1), 1) := by decide +kernel
theorem dX3_choiceOf_27 : decode cX3_choiceOf 27 = .ok (.ireturn, 1) := by decide +kernel
theorem dX3_choiceOf_28 : decode cX3_choiceOf 28 = .ok (.iload_n 1, 1) := by decide +kernel
theorem dX3_choiceOf_29 : decode cX3_choiceOf 29 = .ok (.ifCond .ne 16, 3) := by decide +kernel
theorem dX3_choiceOf_32 : decode cX3_choiceOf 32 = .ok (.aload_n 0, 1) := by decide +kernel
theorem dX3_choiceOf_33 : decode cX3_choiceOf 33 = .ok (.getfield 23, 3) := by decide +kernel
theorem dX3_choiceOf_36 : decode cX3_choiceOf 36 = .ok (.iload_n 3, 1) := by decide +kernel
theorem dX3_choiceOf_37 : decode cX3_choiceOf 37 = .ok (.invokestatic 77, 3) := by decide +kernel
theorem dX3_choiceOf_40 : decode cX3_choiceOf 40 = .ok (.ifCond .eq 5, 3) := by decide +kernel
theorem dX3_choiceOf_43 : decode cX3_choiceOf 43 = .ok (.iconst (-1), 1) := by decide +kernel
theorem dX3_choiceOf_44 : decode cX3_choiceOf 44 = .ok (.ireturn, 1) := by decide +kernel
theorem dX3_choiceOf_45 : decode cX3_choiceOf 45 = .ok (.iload_n 1, 1) := by decide +kernel
theorem dX3_choiceOf_46 : decode cX3_choiceOf 46 = .ok (.iconst 1, 1) := by decide +kernel
theorem dX3_choiceOf_47 : decode cX3_choiceOf 47 = .ok (.if_icmp .eq 19, 3) := by decide +kernel
theorem dX3_choiceOf_50 : decode cX3_choiceOf 50 = .ok (.iload_n 1, 1) := by decide +kernel
theorem dX3_choiceOf_51 : decode cX3_choiceOf 51 = .ok (.iconst 2, 1) := by decide +kernel
theorem dX3_choiceOf_52 : decode cX3_choiceOf 52 = .ok (.if_icmp .ne 18, 3) := by decide +kernel
theorem dX3_choiceOf_55 : decode cX3_choiceOf 55 = .ok (.aload_n 0, 1) := by decide +kernel
theorem dX3_choiceOf_56 : decode cX3_choiceOf 56 = .ok (.getfield 23, 3) := by decide +kernel
theorem dX3_choiceOf_59 : decode cX3_choiceOf 59 = .ok (.iload_n 3, 1) := by decide +kernel
theorem dX3_choiceOf_60 : decode cX3_choiceOf 60 = .ok (.invokestatic 77, 3) := by decide +kernel
theorem dX3_choiceOf_63 : decode cX3_choiceOf 63 = .ok (.ifCond .eq 7, 3) := by decide +kernel
theorem dX3_choiceOf_66 : decode cX3_choiceOf 66 = .ok (.iconst 1, 1) := by decide +kernel
theorem dX3_choiceOf_67 : decode cX3_choiceOf 67 = .ok (.goto 4, 3) := by decide +kernel
theorem dX3_choiceOf_70 : decode cX3_choiceOf 70 = .ok (.iconst 0, 1) := by decide +kernel
theorem dX3_choiceOf_71 : decode cX3_choiceOf 71 = .ok (.istore 5, 2) := by decide +kernel
theorem dX3_choiceOf_73 : decode cX3_choiceOf 73 = .ok (.iconst 0, 1) := by decide +kernel
theorem dX3_choiceOf_74 : decode cX3_choiceOf 74 = .ok (.istore 6, 2) := by decide +kernel
theorem dX3_choiceOf_76 : decode cX3_choiceOf 76 = .ok (.iload 6, 2) := by decide +kernel
theorem dX3_choiceOf_78 : decode cX3_choiceOf 78 = .ok (.aload_n 0, 1) := by decide +kernel
theorem dX3_choiceOf_79 : decode cX3_choiceOf 79 = .ok (.getfield 17, 3) := by decide +kernel
theorem dX3_choiceOf_82 : decode cX3_choiceOf 82 = .ok (.if_icmp .ge 66, 3) := by decide +kernel
theorem dX3_choiceOf_85 : decode cX3_choiceOf 85 = .ok (.aload_n 0, 1) := by decide +kernel
theorem dX3_choiceOf_86 : decode cX3_choiceOf 86 = .ok (.getfield 30, 3) := by decide +kernel
theorem dX3_choiceOf_89 : decode cX3_choiceOf 89 = .ok (.iload_n 3, 1) := by decide +kernel
theorem dX3_choiceOf_90 : decode cX3_choiceOf 90 = .ok (.iaload, 1) := by decide +kernel
theorem dX3_choiceOf_91 : decode cX3_choiceOf 91 = .ok (.iload 6, 2) := by decide +kernel
theorem dX3_choiceOf_93 : decode cX3_choiceOf 93 = .ok (.invokestatic 77, 3) := by decide +kernel
theorem dX3_choiceOf_96 : decode cX3_choiceOf 96 = .ok (.ifCond .eq 46, 3) := by decide +kernel
theorem dX3_choiceOf_99 : decode cX3_choiceOf 99 = .ok (.iload 4, 2) := by decide +kernel
theorem dX3_choiceOf_101 : decode cX3_choiceOf 101 = .ok (.iload 6, 2) := by decide +kernel
theorem dX3_choiceOf_103 : decode cX3_choiceOf 103 = .ok (.invokestatic 77, 3) := by decide +kernel
theorem dX3_choiceOf_106 : decode cX3_choiceOf 106 = .ok (.ifCond .ne 6, 3) := by decide +kernel
theorem dX3_choiceOf_109 : decode cX3_choiceOf 109 = .ok (.goto 33, 3) := by decide +kernel
theorem dX3_choiceOf_112 : decode cX3_choiceOf 112 = .ok (.iload 5, 2) := by decide +kernel
theorem dX3_choiceOf_114 : decode cX3_choiceOf 114 = .ok (.ifCond .ne 25, 3) := by decide +kernel
theorem dX3_choiceOf_117 : decode cX3_choiceOf 117 = .ok (.aload_n 0, 1) := by decide +kernel
theorem dX3_choiceOf_118 : decode cX3_choiceOf 118 = .ok (.iload 4, 2) := by decide +kernel
theorem dX3_choiceOf_120 : decode cX3_choiceOf 120 = .ok (.iload_n 2, 1) := by decide +kernel
theorem dX3_choiceOf_121 : decode cX3_choiceOf 121 = .ok (.iload 6, 2) := by decide +kernel
theorem dX3_choiceOf_123 : decode cX3_choiceOf 123 = .ok (.invokevirtual 84, 3) := by decide +kernel
theorem dX3_choiceOf_126 : decode cX3_choiceOf 126 = .ok (.aload_n 0, 1) := by decide +kernel
theorem dX3_choiceOf_127 : decode cX3_choiceOf 127 = .ok (.iload 4, 2) := by decide +kernel
theorem dX3_choiceOf_129 : decode cX3_choiceOf 129 = .ok (.iload_n 2, 1) := by decide +kernel
theorem dX3_choiceOf_130 : decode cX3_choiceOf 130 = .ok (.iload_n 3, 1) := by decide +kernel
theorem dX3_choiceOf_131 : decode cX3_choiceOf 131 = .ok (.invokevirtual 84, 3) := by decide +kernel
theorem dX3_choiceOf_134 : decode cX3_choiceOf 134 = .ok (.iconst 1, 1) := by decide +kernel
theorem dX3_choiceOf_135 : decode cX3_choiceOf 135 = .ok (.isub, 1) := by decide +kernel
theorem dX3_choiceOf_136 : decode cX3_choiceOf 136 = .ok (.if_icmp .ne 6, 3) := by decide +kernel
theorem dX3_choiceOf_139 : decode cX3_choiceOf 139 = .ok (.iload 6, 2) := by decide +kernel
theorem dX3_choiceOf_141 : decode cX3_choiceOf 141 = .ok (.ireturn, 1) := by decide +kernel
theorem dX3_choiceOf_142 : decode cX3_choiceOf 142 = .ok (.iinc 6 1, 3) := by decide +kernel
theorem dX3_choiceOf_145 : decode cX3_choiceOf 145 = .ok (.goto (-69), 3) := by decide +kernel
theorem dX3_choiceOf_148 : decode cX3_choiceOf 148 = .ok (.iconst (-1), 1) := by decide +kernel
theorem dX3_choiceOf_149 : decode cX3_choiceOf 149 = .ok (.ireturn, 1) := by decide +kernel
set_option maxRecDepth 20000 in
theorem ggX3_choicesOf_X3_sideOf : GoodIn wsX3_choicesOf wsX3_sideOf := goodIn_r _ [7, 8, 16, 17, 18, 19, 20, 21, 22, 23, 24, 25, 26] (by decide +kernel) (by decide +kernel)
set_option maxRecDepth 20000 in
theorem gX3_choicesOf_X3_sideOf : GoodIn wsX3_choicesOf (wsV RX3 45 RX3 yX3_sideOf wsX3_sideOf) := goodIn_app (goodIn_of _ (by decide +kernel)) ggX3_choicesOf_X3_sideOf
set_option maxRecDepth 20000 in
theorem ggX3_choicesOf_J6_bitCount_0f7a4 : GoodIn wsX3_choicesOf wsJ6_bitCount_0f7a4 := goodIn_r _ [12, 13, 14, 15] (by decide +kernel) (by decide +kernel)
set_option maxRecDepth 20000 in
theorem gX3_choicesOf_J6_bitCount_0f7a4 : GoodIn wsX3_choicesOf (va_wsS RX3 39 yJ6_bitCount_0f7a4 wsJ6_bitCount_0f7a4) := goodIn_app (goodIn_of _ (by decide +kernel)) ggX3_choicesOf_J6_bitCount_0f7a4
theorem dX3_choicesOf_0 : decode cX3_choicesOf 0 = .ok (.iconst 1, 1) := by decide +kernel
theorem dX3_choicesOf_1 : decode cX3_choicesOf 1 = .ok (.istore_n 2, 1) := by decide +kernel
theorem dX3_choicesOf_2 : decode cX3_choicesOf 2 = .ok (.iconst 0, 1) := by decide +kernel
theorem dX3_choicesOf_3 : decode cX3_choicesOf 3 = .ok (.istore_n 3, 1) := by decide +kernel
theorem dX3_choicesOf_4 : decode cX3_choicesOf 4 = .ok (.iload_n 3, 1) := by decide +kernel
theorem dX3_choicesOf_5 : decode cX3_choicesOf 5 = .ok (.aload_n 0, 1) := by decide +kernel
theorem dX3_choicesOf_6 : decode cX3_choicesOf 6 = .ok (.getfield 17, 3) := by decide +kernel
theorem dX3_choicesOf_9 : decode cX3_choicesOf 9 = .ok (.if_icmp .ge 39, 3) := by decide +kernel
theorem dX3_choicesOf_12 : decode cX3_choicesOf 12 = .ok (.aload_n 0, 1) := by decide +kernel
theorem dX3_choicesOf_13 : decode cX3_choicesOf 13 = .ok (.iload_n 3, 1) := by decide +kernel
theorem dX3_choicesOf_14 : decode cX3_choicesOf 14 = .ok (.invokevirtual 45, 3) := by decide +kernel
theorem dX3_choicesOf_17 : decode cX3_choicesOf 17 = .ok (.iload_n 1, 1) := by decide +kernel
theorem dX3_choicesOf_18 : decode cX3_choicesOf 18 = .ok (.if_icmp .ne 24, 3) := by decide +kernel
theorem dX3_choicesOf_21 : decode cX3_choicesOf 21 = .ok (.aload_n 0, 1) := by decide +kernel
theorem dX3_choicesOf_22 : decode cX3_choicesOf 22 = .ok (.getfield 30, 3) := by decide +kernel
theorem dX3_choicesOf_25 : decode cX3_choicesOf 25 = .ok (.iload_n 3, 1) := by decide +kernel
theorem dX3_choicesOf_26 : decode cX3_choicesOf 26 = .ok (.iaload, 1) := by decide +kernel
theorem dX3_choicesOf_27 : decode cX3_choicesOf 27 = .ok (.ifCond .eq 15, 3) := by decide +kernel
theorem dX3_choicesOf_30 : decode cX3_choicesOf 30 = .ok (.iload_n 2, 1) := by decide +kernel
theorem dX3_choicesOf_31 : decode cX3_choicesOf 31 = .ok (.aload_n 0, 1) := by decide +kernel
theorem dX3_choicesOf_32 : decode cX3_choicesOf 32 = .ok (.getfield 30, 3) := by decide +kernel
theorem dX3_choicesOf_35 : decode cX3_choicesOf 35 = .ok (.iload_n 3, 1) := by decide +kernel
theorem dX3_choicesOf_36 : decode cX3_choicesOf 36 = .ok (.iaload, 1) := by decide +kernel
theorem dX3_choicesOf_37 : decode cX3_choicesOf 37 = .ok (.invokestatic 39, 3) := by decide +kernel
theorem dX3_choicesOf_40 : decode cX3_choicesOf 40 = .ok (.imul, 1) := by decide +kernel
theorem dX3_choicesOf_41 : decode cX3_choicesOf 41 = .ok (.istore_n 2, 1) := by decide +kernel
theorem dX3_choicesOf_42 : decode cX3_choicesOf 42 = .ok (.iinc 3 1, 3) := by decide +kernel
theorem dX3_choicesOf_45 : decode cX3_choicesOf 45 = .ok (.goto (-41), 3) := by decide +kernel
theorem dX3_choicesOf_48 : decode cX3_choicesOf 48 = .ok (.iload_n 2, 1) := by decide +kernel
theorem dX3_choicesOf_49 : decode cX3_choicesOf 49 = .ok (.ireturn, 1) := by decide +kernel
theorem dX3_isPlace_0 : decode cX3_isPlace 0 = .ok (.iload_n 1, 1) := by decide +kernel
theorem dX3_isPlace_1 : decode cX3_isPlace 1 = .ok (.ifCond .lt 15, 3) := by decide +kernel
theorem dX3_isPlace_4 : decode cX3_isPlace 4 = .ok (.iload_n 1, 1) := by decide +kernel
theorem dX3_isPlace_5 : decode cX3_isPlace 5 = .ok (.aload_n 0, 1) := by decide +kernel
theorem dX3_isPlace_6 : decode cX3_isPlace 6 = .ok (.getfield 17, 3) := by decide +kernel
theorem dX3_isPlace_9 : decode cX3_isPlace 9 = .ok (.if_icmp .ge 7, 3) := by decide +kernel
theorem dX3_isPlace_12 : decode cX3_isPlace 12 = .ok (.iconst 1, 1) := by decide +kernel
theorem dX3_isPlace_13 : decode cX3_isPlace 13 = .ok (.goto 4, 3) := by decide +kernel
theorem dX3_isPlace_16 : decode cX3_isPlace 16 = .ok (.iconst 0, 1) := by decide +kernel
theorem dX3_isPlace_17 : decode cX3_isPlace 17 = .ok (.ireturn, 1) := by decide +kernel
theorem dX3_isSide_0 : decode cX3_isSide 0 = .ok (.iload_n 0, 1) := by decide +kernel
theorem dX3_isSide_1 : decode cX3_isSide 1 = .ok (.ifCond .eq 8, 3) := by decide +kernel
theorem dX3_isSide_4 : decode cX3_isSide 4 = .ok (.iload_n 0, 1) := by decide +kernel
theorem dX3_isSide_5 : decode cX3_isSide 5 = .ok (.iconst 1, 1) := by decide +kernel
theorem dX3_isSide_6 : decode cX3_isSide 6 = .ok (.if_icmp .ne 7, 3) := by decide +kernel
theorem dX3_isSide_9 : decode cX3_isSide 9 = .ok (.iconst 1, 1) := by decide +kernel
theorem dX3_isSide_10 : decode cX3_isSide 10 = .ok (.goto 4, 3) := by decide +kernel
theorem dX3_isSide_13 : decode cX3_isSide 13 = .ok (.iconst 0, 1) := by decide +kernel
theorem dX3_isSide_14 : decode cX3_isSide 14 = .ok (.ireturn, 1) := by decide +kernel
theorem dX3_isThrown_0 : decode cX3_isThrown 0 = .ok (.aload_n 0, 1) := by decide +kernel
theorem dX3_isThrown_1 : decode cX3_isThrown 1 = .ok (.iload_n 1, 1) := by decide +kernel
theorem dX3_isThrown_2 : decode cX3_isThrown 2 = .ok (.ifCond .eq 7, 3) := by decide +kernel
theorem dX3_isThrown_5 : decode cX3_isThrown 5 = .ok (.iconst 1, 1) := by decide +kernel
theorem dX3_isThrown_6 : decode cX3_isThrown 6 = .ok (.goto 12, 3) := by decide +kernel
theorem dX3_isThrown_9 : decode cX3_isThrown 9 = .ok (.iload_n 2, 1) := by decide +kernel
theorem dX3_isThrown_10 : decode cX3_isThrown 10 = .ok (.ifCond .eq 7, 3) := by decide +kernel
theorem dX3_isThrown_13 : decode cX3_isThrown 13 = .ok (.iconst 2, 1) := by decide +kernel
theorem dX3_isThrown_14 : decode cX3_isThrown 14 = .ok (.goto 4, 3) := by decide +kernel
theorem dX3_isThrown_17 : decode cX3_isThrown 17 = .ok (.iconst 0, 1) := by decide +kernel
theorem dX3_isThrown_18 : decode cX3_isThrown 18 = .ok (.putfield 13, 3) := by decide +kernel
theorem dX3_isThrown_21 : decode cX3_isThrown 21 = .ok (.aload_n 0, 1) := by decide +kernel
theorem dX3_isThrown_22 : decode cX3_isThrown 22 = .ok (.getfield 13, 3) := by decide +kernel
theorem dX3_isThrown_25 : decode cX3_isThrown 25 = .ok (.ifCond .le 7, 3) := by decide +kernel
theorem dX3_isThrown_28 : decode cX3_isThrown 28 = .ok (.iconst 1, 1) := by decide +kernel
theorem dX3_isThrown_29 : decode cX3_isThrown 29 = .ok (.goto 4, 3) := by decide +kernel
theorem dX3_isThrown_32 : decode cX3_isThrown 32 = .ok (.iconst 0, 1) := by decide +kernel
theorem dX3_isThrown_33 : decode cX3_isThrown 33 = .ok (.ireturn, 1) := by decide +kernel
set_option maxRecDepth 20000 in
theorem ggX3_isThrown__X3_isThrown : GoodIn wsX3_isThrown_ wsX3_isThrown := goodIn_r _ [5, 6, 7, 8, 9, 10, 11, 12, 13, 14, 15, 16, 17] (by decide +kernel) (by decide +kernel)
set_option maxRecDepth 20000 in
theorem gX3_isThrown__X3_isThrown : GoodIn wsX3_isThrown_ (wsV RX3 88 RX3 yX3_isThrown wsX3_isThrown) := goodIn_app (goodIn_of _ (by decide +kernel)) ggX3_isThrown__X3_isThrown
theorem dX3_isThrown__0 : decode cX3_isThrown_ 0 = .ok (.aload_n 0, 1) := by decide +kernel
theorem dX3_isThrown__1 : decode cX3_isThrown_ 1 = .ok (.iload_n 1, 1) := by decide +kernel
theorem dX3_isThrown__2 : decode cX3_isThrown_ 2 = .ok (.iconst 0, 1) := by decide +kernel
theorem dX3_isThrown__3 : decode cX3_isThrown_ 3 = .ok (.invokevirtual 88, 3) := by decide +kernel
theorem dX3_isThrown__6 : decode cX3_isThrown_ 6 = .ok (.ireturn, 1) := by decide +kernel
theorem dX3_done_0 : decode cX3_done 0 = .ok (.aload_n 0, 1) := by decide +kernel
theorem dX3_done_1 : decode cX3_done 1 = .ok (.dup, 1) := by decide +kernel
theorem dX3_done_2 : decode cX3_done 2 = .ok (.getfield 92, 3) := by decide +kernel
theorem dX3_done_5 : decode cX3_done 5 = .ok (.iconst 1, 1) := by decide +kernel
theorem dX3_done_6 : decode cX3_done 6 = .ok (.iadd, 1) := by decide +kernel
theorem dX3_done_7 : decode cX3_done 7 = .ok (.putfield 92, 3) := by decide +kernel
theorem dX3_done_10 : decode cX3_done 10 = .ok (.iload_n 1, 1) := by decide +kernel
theorem dX3_done_11 : decode cX3_done 11 = .ok (.ireturn, 1) := by decide +kernel
theorem dX3_no_0 : decode cX3_no 0 = .ok (.aload_n 0, 1) := by decide +kernel
theorem dX3_no_1 : decode cX3_no 1 = .ok (.dup, 1) := by decide +kernel
theorem dX3_no_2 : decode cX3_no 2 = .ok (.getfield 95, 3) := by decide +kernel
theorem dX3_no_5 : decode cX3_no 5 = .ok (.iconst 1, 1) := by decide +kernel
theorem dX3_no_6 : decode cX3_no 6 = .ok (.iadd, 1) := by decide +kernel
theorem dX3_no_7 : decode cX3_no 7 = .ok (.putfield 95, 3) := by decide +kernel
theorem dX3_no_10 : decode cX3_no 10 = .ok (.bipush (-9), 2) := by decide +kernel
theorem dX3_no_12 : decode cX3_no 12 = .ok (.ireturn, 1) := by decide +kernel
set_option maxRecDepth 20000 in
theorem ggX3_places_X3_isThrown_ : GoodIn wsX3_places wsX3_isThrown_ := goodIn_r _ [6, 7, 8, 9, 5, 10, 11, 28, 29, 30, 31, 32, 33, 34, 35, 36, 37, 38] (by decide +kernel) (by decide +kernel)
set_option maxRecDepth 20000 in
theorem gX3_places_X3_isThrown_ : GoodIn wsX3_places (wsV RX3 98 RX3 yX3_isThrown_ wsX3_isThrown_) := goodIn_app (goodIn_of _ (by decide +kernel)) ggX3_places_X3_isThrown_
set_option maxRecDepth 20000 in
theorem ggX3_places_X3_clear : GoodIn wsX3_places wsX3_clear := goodIn_r _ [15, 1, 16, 17, 18, 19, 20, 21, 22, 28, 29, 30, 31, 32, 33, 34, 35, 36, 37, 38] (by decide +kernel) (by decide +kernel)
set_option maxRecDepth 20000 in
theorem gX3_places_X3_clear : GoodIn wsX3_places (wsV RX3 7 RX3 yX3_clear wsX3_clear) := goodIn_app (goodIn_of _ (by decide +kernel)) ggX3_places_X3_clear
set_option maxRecDepth 20000 in
theorem ggX3_places_X3_done : GoodIn wsX3_places wsX3_done := goodIn_r _ [26, 27, 28, 29, 30, 31, 32, 33, 34, 35, 36, 37, 38] (by decide +kernel) (by decide +kernel)
set_option maxRecDepth 20000 in
theorem gX3_places_X3_done : GoodIn wsX3_places (wsV RX3 101 RX3 yX3_done wsX3_done) := goodIn_app (goodIn_of _ (by decide +kernel)) ggX3_places_X3_done
theorem dX3_places_0 : decode cX3_places 0 = .ok (.aload_n 0, 1) := by decide +kernel
theorem dX3_places_1 : decode cX3_places 1 = .ok (.iload_n 1, 1) := by decide +kernel
theorem dX3_places_2 : decode cX3_places 2 = .ok (.iconst 2, 1) := by decide +kernel
theorem dX3_places_3 : decode cX3_places 3 = .ok (.if_icmp .lt 9, 3) := by decide +kernel
theorem dX3_places_6 : decode cX3_places 6 = .ok (.iload_n 1, 1) := by decide +kernel
theorem dX3_places_7 : decode cX3_places 7 = .ok (.bipush 12, 2) := by decide +kernel
theorem dX3_places_9 : decode cX3_places 9 = .ok (.if_icmp .le 7, 3) := by decide +kernel
theorem dX3_places_12 : decode cX3_places 12 = .ok (.iconst 1, 1) := by decide +kernel
theorem dX3_places_13 : decode cX3_places 13 = .ok (.goto 4, 3) := by decide +kernel
theorem dX3_places_16 : decode cX3_places 16 = .ok (.iconst 0, 1) := by decide +kernel
theorem dX3_places_17 : decode cX3_places 17 = .ok (.invokevirtual 98, 3) := by decide +kernel
theorem dX3_places_20 : decode cX3_places 20 = .ok (.ifCond .eq 5, 3) := by decide +kernel
theorem dX3_places_23 : decode cX3_places 23 = .ok (.iconst 0, 1) := by decide +kernel
theorem dX3_places_24 : decode cX3_places 24 = .ok (.ireturn, 1) := by decide +kernel
theorem dX3_places_25 : decode cX3_places 25 = .ok (.aload_n 0, 1) := by decide +kernel
theorem dX3_places_26 : decode cX3_places 26 = .ok (.getfield 17, 3) := by decide +kernel
theorem dX3_places_29 : decode cX3_places 29 = .ok (.istore_n 2, 1) := by decide +kernel
theorem dX3_places_30 : decode cX3_places 30 = .ok (.aload_n 0, 1) := by decide +kernel
theorem dX3_places_31 : decode cX3_places 31 = .ok (.iload_n 1, 1) := by decide +kernel
theorem dX3_places_32 : decode cX3_places 32 = .ok (.invokevirtual 7, 3) := by decide +kernel
theorem dX3_places_35 : decode cX3_places 35 = .ok (.aload_n 0, 1) := by decide +kernel
theorem dX3_places_36 : decode cX3_places 36 = .ok (.iload_n 2, 1) := by decide +kernel
theorem dX3_places_37 : decode cX3_places 37 = .ok (.invokevirtual 101, 3) := by decide +kernel
theorem dX3_places_40 : decode cX3_places 40 = .ok (.ireturn, 1) := by decide +kernel
set_option maxRecDepth 20000 in
theorem ggX3_give_X3_isPlace : GoodIn wsX3_give wsX3_isPlace := goodIn_r _ [6, 7, 25, 26, 27, 28, 29, 30, 31, 32, 33, 34, 35] (by decide +kernel) (by decide +kernel)
set_option maxRecDepth 20000 in
theorem gX3_give_X3_isPlace : GoodIn wsX3_give (wsV RX3 104 RX3 yX3_isPlace wsX3_isPlace) := goodIn_app (goodIn_of _ (by decide +kernel)) ggX3_give_X3_isPlace
set_option maxRecDepth 20000 in
theorem ggX3_give_X3_isSide : GoodIn wsX3_give wsX3_isSide := goodIn_r _ [10] (by decide +kernel) (by decide +kernel)
set_option maxRecDepth 20000 in
theorem gX3_give_X3_isSide : GoodIn wsX3_give (va_wsS RX3 108 yX3_isSide wsX3_isSide) := goodIn_app (goodIn_of _ (by decide +kernel)) ggX3_give_X3_isSide
set_option maxRecDepth 20000 in
theorem ggX3_give_X3_isThrown : GoodIn wsX3_give wsX3_isThrown := goodIn_r _ [14, 15, 25, 26, 27, 28, 29, 30, 31, 32, 33, 34, 35] (by decide +kernel) (by decide +kernel)
set_option maxRecDepth 20000 in
theorem gX3_give_X3_isThrown : GoodIn wsX3_give (wsV RX3 88 RX3 yX3_isThrown wsX3_isThrown) := goodIn_app (goodIn_of _ (by decide +kernel)) ggX3_give_X3_isThrown
set_option maxRecDepth 20000 in
theorem ggX3_give_X3_sideOf : GoodIn wsX3_give wsX3_sideOf := goodIn_r _ [19, 1, 25, 26, 27, 28, 29, 30, 31, 32, 33, 34, 35] (by decide +kernel) (by decide +kernel)
