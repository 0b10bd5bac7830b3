set_option maxRecDepth 20000 in
theorem ggL_places_X1_places : GoodIn wsL_places wsX1_places := goodIn_ca (goodIn_r _ [6, 7, 8, 9, 10, 11, 12, 5, 13, 14, 15, 16, 17, 18, 19, 20, 21, 22, 23, 24, 25, 26, 29, 30, 31, 32, 33, 34, 35, 36, 37, 38, 39, 40, 41] (by decide +kernel) (by decide +kernel)) (goodIn_sub (fun _ h => List.mem_cons_of_mem _ (List.mem_append_right _ h)) (by decide +kernel))
set_option maxRecDepth 20000 in
theorem gL_places_X1_places : GoodIn wsL_places (wsV RL 7 RX1 yX1_places wsX1_places) := goodIn_app (goodIn_of _ (by decide +kernel)) ggL_places_X1_places
theorem dL_places_0 : decode cL_places 0 = .ok (.aload_n 2, 1) := by decide +kernel
theorem dL_places_1 : decode cL_places 1 = .ok (.aload_n 0, 1) := by decide +kernel
theorem dL_places_2 : decode cL_places 2 = .ok (.iload_n 1, 1) := by decide +kernel
theorem dL_places_3 : decode cL_places 3 = .ok (.invokevirtual 7, 3) := by decide +kernel
theorem dL_places_6 : decode cL_places 6 = .ok (.i2l, 1) := by decide +kernel
theorem dL_places_7 : decode cL_places 7 = .ok (.putfield 13, 3) := by decide +kernel
theorem dL_places_10 : decode cL_places 10 = .ok (.goto 6, 3) := by decide +kernel
theorem dL_places_13 : decode cL_places 13 = .ok (.astore_n 3, 1) := by decide +kernel
theorem dL_places_14 : decode cL_places 14 = .ok (.iconst 1, 1) := by decide +kernel
theorem dL_places_15 : decode cL_places 15 = .ok (.ireturn, 1) := by decide +kernel
theorem dL_places_16 : decode cL_places 16 = .ok (.iconst 0, 1) := by decide +kernel
theorem dL_places_17 : decode cL_places 17 = .ok (.ireturn, 1) := by decide +kernel
set_option maxRecDepth 20000 in
theorem ggL_give_X1_give : GoodIn wsL_give wsX1_give := goodIn_ca (goodIn_ca (goodIn_r _ [7, 8, 9, 10, 11, 12, 6, 13, 14, 15, 16, 17, 18, 19, 20, 21, 22, 23, 24, 25, 26, 27, 28, 29, 30, 31, 32, 33, 36, 37, 38, 39, 40, 41, 42, 43, 44, 45, 46, 47, 48] (by decide +kernel) (by decide +kernel)) (goodIn_sub (fun _ h => List.mem_cons_of_mem _ (List.mem_append_left _ (List.mem_append_right _ h))) (by decide +kernel))) (goodIn_sub (fun _ h => List.mem_cons_of_mem _ (List.mem_append_right _ h)) (by decide +kernel))
set_option maxRecDepth 20000 in
theorem gL_give_X1_give : GoodIn wsL_give (wsV RL 21 RX1 yX1_give wsX1_give) := goodIn_app (goodIn_of _ (by decide +kernel)) ggL_give_X1_give
theorem dL_give_0 : decode cL_give 0 = .ok (.aload_n 3, 1) := by decide +kernel
theorem dL_give_1 : decode cL_give 1 = .ok (.aload_n 0, 1) := by decide +kernel
theorem dL_give_2 : decode cL_give 2 = .ok (.iload_n 1, 1) := by decide +kernel
theorem dL_give_3 : decode cL_give 3 = .ok (.iload_n 2, 1) := by decide +kernel
theorem dL_give_4 : decode cL_give 4 = .ok (.invokevirtual 21, 3) := by decide +kernel
theorem dL_give_7 : decode cL_give 7 = .ok (.i2l, 1) := by decide +kernel
theorem dL_give_8 : decode cL_give 8 = .ok (.putfield 13, 3) := by decide +kernel
theorem dL_give_11 : decode cL_give 11 = .ok (.goto 11, 3) := by decide +kernel
theorem dL_give_14 : decode cL_give 14 = .ok (.astore 4, 2) := by decide +kernel
theorem dL_give_16 : decode cL_give 16 = .ok (.iconst 1, 1) := by decide +kernel
theorem dL_give_17 : decode cL_give 17 = .ok (.ireturn, 1) := by decide +kernel
theorem dL_give_18 : decode cL_give 18 = .ok (.astore 4, 2) := by decide +kernel
theorem dL_give_20 : decode cL_give 20 = .ok (.iconst 2, 1) := by decide +kernel
theorem dL_give_21 : decode cL_give 21 = .ok (.ireturn, 1) := by decide +kernel
theorem dL_give_22 : decode cL_give 22 = .ok (.iconst 0, 1) := by decide +kernel
theorem dL_give_23 : decode cL_give 23 = .ok (.ireturn, 1) := by decide +kernel
set_option maxRecDepth 20000 in
theorem ggL_rank_X1_rank : GoodIn wsL_rank wsX1_rank := goodIn_ca (goodIn_ca (goodIn_r _ [7, 8, 9, 10, 11, 12, 6, 13, 14, 15, 16, 17, 18, 19, 20, 21, 22, 23, 24, 25, 26, 27, 28, 29, 30, 31, 32, 33, 36, 37, 38, 39, 40, 41, 42, 43, 44, 45, 46, 47, 48] (by decide +kernel) (by decide +kernel)) (goodIn_sub (fun _ h => List.mem_cons_of_mem _ (List.mem_append_left _ (List.mem_append_right _ h))) (by decide +kernel))) (goodIn_sub (fun _ h => List.mem_cons_of_mem _ (List.mem_append_right _ h)) (by decide +kernel))
set_option maxRecDepth 20000 in
theorem gL_rank_X1_rank : GoodIn wsL_rank (wsV RL 27 RX1 yX1_rank wsX1_rank) := goodIn_app (goodIn_of _ (by decide +kernel)) ggL_rank_X1_rank
theorem dL_rank_0 : decode cL_rank 0 = .ok (.aload_n 3, 1) := by decide +kernel
theorem dL_rank_1 : decode cL_rank 1 = .ok (.aload_n 0, 1) := by decide +kernel
theorem dL_rank_2 : decode cL_rank 2 = .ok (.iload_n 1, 1) := by decide +kernel
theorem dL_rank_3 : decode cL_rank 3 = .ok (.iload_n 2, 1) := by decide +kernel
theorem dL_rank_4 : decode cL_rank 4 = .ok (.invokevirtual 27, 3) := by decide +kernel
theorem dL_rank_7 : decode cL_rank 7 = .ok (.i2l, 1) := by decide +kernel
theorem dL_rank_8 : decode cL_rank 8 = .ok (.putfield 13, 3) := by decide +kernel
theorem dL_rank_11 : decode cL_rank 11 = .ok (.goto 11, 3) := by decide +kernel
theorem dL_rank_14 : decode cL_rank 14 = .ok (.astore 4, 2) := by decide +kernel
theorem dL_rank_16 : decode cL_rank 16 = .ok (.iconst 1, 1) := by decide +kernel
theorem dL_rank_17 : decode cL_rank 17 = .ok (.ireturn, 1) := by decide +kernel
theorem dL_rank_18 : decode cL_rank 18 = .ok (.astore 4, 2) := by decide +kernel
theorem dL_rank_20 : decode cL_rank 20 = .ok (.iconst 2, 1) := by decide +kernel
theorem dL_rank_21 : decode cL_rank 21 = .ok (.ireturn, 1) := by decide +kernel
theorem dL_rank_22 : decode cL_rank 22 = .ok (.iconst 0, 1) := by decide +kernel
theorem dL_rank_23 : decode cL_rank 23 = .ok (.ireturn, 1) := by decide +kernel
set_option maxRecDepth 20000 in
theorem ggL_goal_X1_goal : GoodIn wsL_goal wsX1_goal := goodIn_ca (goodIn_r _ [6, 7, 8, 9, 10, 11, 5, 12, 13, 14, 15, 16, 17, 18, 19, 20, 21, 22, 23, 26, 27, 28, 29, 30, 31, 32, 33, 34, 35, 36, 37, 38] (by decide +kernel) (by decide +kernel)) (goodIn_sub (fun _ h => List.mem_cons_of_mem _ (List.mem_append_right _ h)) (by decide +kernel))
set_option maxRecDepth 20000 in
theorem gL_goal_X1_goal : GoodIn wsL_goal (wsV RL 30 RX1 yX1_goal wsX1_goal) := goodIn_app (goodIn_of _ (by decide +kernel)) ggL_goal_X1_goal
theorem dL_goal_0 : decode cL_goal 0 = .ok (.aload_n 2, 1) := by decide +kernel
theorem dL_goal_1 : decode cL_goal 1 = .ok (.aload_n 0, 1) := by decide +kernel
theorem dL_goal_2 : decode cL_goal 2 = .ok (.iload_n 1, 1) := by decide +kernel
theorem dL_goal_3 : decode cL_goal 3 = .ok (.invokevirtual 30, 3) := by decide +kernel
theorem dL_goal_6 : decode cL_goal 6 = .ok (.i2l, 1) := by decide +kernel
theorem dL_goal_7 : decode cL_goal 7 = .ok (.putfield 13, 3) := by decide +kernel
theorem dL_goal_10 : decode cL_goal 10 = .ok (.goto 6, 3) := by decide +kernel
theorem dL_goal_13 : decode cL_goal 13 = .ok (.astore_n 3, 1) := by decide +kernel
theorem dL_goal_14 : decode cL_goal 14 = .ok (.iconst 1, 1) := by decide +kernel
theorem dL_goal_15 : decode cL_goal 15 = .ok (.ireturn, 1) := by decide +kernel
theorem dL_goal_16 : decode cL_goal 16 = .ok (.iconst 0, 1) := by decide +kernel
theorem dL_goal_17 : decode cL_goal 17 = .ok (.ireturn, 1) := by decide +kernel
set_option maxRecDepth 20000 in
theorem ggL_way_X1_way : GoodIn wsL_way wsX1_way := goodIn_ca (goodIn_r _ [6, 7, 8, 9, 10, 11, 5, 12, 13, 14, 15, 16, 17, 18, 19, 20, 21, 22, 23, 24, 25, 26, 27, 28, 29, 30, 31, 32, 33, 34, 35, 36, 37, 38, 39, 40, 41, 42, 43, 44, 45, 46, 47, 48, 49, 52, 53, 54, 55, 56, 57, 58, 59, 60, 61, 62, 63, 64] (by decide +kernel) (by decide +kernel)) (goodIn_sub (fun _ h => List.mem_cons_of_mem _ (List.mem_append_right _ h)) (by decide +kernel))
set_option maxRecDepth 20000 in
theorem gL_way_X1_way : GoodIn wsL_way (wsV RL 33 RX1 yX1_way wsX1_way) := goodIn_app (goodIn_of _ (by decide +kernel)) ggL_way_X1_way
theorem dL_way_0 : decode cL_way 0 = .ok (.aload_n 3, 1) := by decide +kernel
theorem dL_way_1 : decode cL_way 1 = .ok (.aload_n 0, 1) := by decide +kernel
theorem dL_way_2 : decode cL_way 2 = .ok (.iload_n 1, 1) := by decide +kernel
theorem dL_way_3 : decode cL_way 3 = .ok (.iload_n 2, 1) := by decide +kernel
theorem dL_way_4 : decode cL_way 4 = .ok (.invokevirtual 33, 3) := by decide +kernel
theorem dL_way_7 : decode cL_way 7 = .ok (.i2l, 1) := by decide +kernel
theorem dL_way_8 : decode cL_way 8 = .ok (.putfield 13, 3) := by decide +kernel
theorem dL_way_11 : decode cL_way 11 = .ok (.goto 7, 3) := by decide +kernel
theorem dL_way_14 : decode cL_way 14 = .ok (.astore 4, 2) := by decide +kernel
theorem dL_way_16 : decode cL_way 16 = .ok (.iconst 1, 1) := by decide +kernel
theorem dL_way_17 : decode cL_way 17 = .ok (.ireturn, 1) := by decide +kernel
theorem dL_way_18 : decode cL_way 18 = .ok (.iconst 0, 1) := by decide +kernel
theorem dL_way_19 : decode cL_way 19 = .ok (.ireturn, 1) := by decide +kernel
set_option maxRecDepth 20000 in
theorem ggL_lose_X1_lose : GoodIn wsL_lose wsX1_lose := goodIn_ca (goodIn_r _ [6, 7, 8, 9, 10, 11, 5, 12, 13, 14, 15, 16, 17, 18, 19, 20, 21, 22, 23, 24, 25, 26, 27, 28, 29, 30, 31, 32, 35, 36, 37, 38, 39, 40, 41, 42, 43, 44, 45, 46, 47] (by decide +kernel) (by decide +kernel)) (goodIn_sub (fun _ h => List.mem_cons_of_mem _ (List.mem_append_right _ h)) (by decide +kernel))
set_option maxRecDepth 20000 in
theorem gL_lose_X1_lose : GoodIn wsL_lose (wsV RL 36 RX1 yX1_lose wsX1_lose) := goodIn_app (goodIn_of _ (by decide +kernel)) ggL_lose_X1_lose
theorem dL_lose_0 : decode cL_lose 0 = .ok (.aload_n 3, 1) := by decide +kernel
theorem dL_lose_1 : decode cL_lose 1 = .ok (.aload_n 0, 1) := by decide +kernel
theorem dL_lose_2 : decode cL_lose 2 = .ok (.iload_n 1, 1) := by decide +kernel
theorem dL_lose_3 : decode cL_lose 3 = .ok (.iload_n 2, 1) := by decide +kernel
theorem dL_lose_4 : decode cL_lose 4 = .ok (.invokevirtual 36, 3) := by decide +kernel
theorem dL_lose_7 : decode cL_lose 7 = .ok (.i2l, 1) := by decide +kernel
theorem dL_lose_8 : decode cL_lose 8 = .ok (.putfield 13, 3) := by decide +kernel
theorem dL_lose_11 : decode cL_lose 11 = .ok (.goto 7, 3) := by decide +kernel
theorem dL_lose_14 : decode cL_lose 14 = .ok (.astore 4, 2) := by decide +kernel
theorem dL_lose_16 : decode cL_lose 16 = .ok (.iconst 1, 1) := by decide +kernel
theorem dL_lose_17 : decode cL_lose 17 = .ok (.ireturn, 1) := by decide +kernel
theorem dL_lose_18 : decode cL_lose 18 = .ok (.iconst 0, 1) := by decide +kernel
theorem dL_lose_19 : decode cL_lose 19 = .ok (.ireturn, 1) := by decide +kernel
set_option maxRecDepth 20000 in
theorem ggL_circle_X1_circle : GoodIn wsL_circle wsX1_circle := goodIn_ca (goodIn_r _ [6, 7, 8, 9, 10, 11, 5, 12, 13, 14, 15, 16, 17, 18, 19, 20, 21, 22, 23, 24, 25, 26, 27, 28, 29, 30, 31, 32, 33, 34, 35, 36, 37, 38, 39, 40, 41, 42, 43, 44, 45, 46, 47, 48, 49, 50, 51, 52, 53, 54, 55, 56, 57, 60, 61, 62, 63, 64, 65, 66, 67, 68, 69, 70, 71, 72] (by decide +kernel) (by decide +kernel)) (goodIn_sub (fun _ h => List.mem_cons_of_mem _ (List.mem_append_right _ h)) (by decide +kernel))
set_option maxRecDepth 20000 in
theorem gL_circle_X1_circle : GoodIn wsL_circle (wsV RL 39 RX1 yX1_circle wsX1_circle) := goodIn_app (goodIn_of _ (by decide +kernel)) ggL_circle_X1_circle
theorem dL_circle_0 : decode cL_circle 0 = .ok (.aload_n 2, 1) := by decide +kernel
theorem dL_circle_1 : decode cL_circle 1 = .ok (.aload_n 0, 1) := by decide +kernel
theorem dL_circle_2 : decode cL_circle 2 = .ok (.iload_n 1, 1) := by decide +kernel
theorem dL_circle_3 : decode cL_circle 3 = .ok (.invokevirtual 39, 3) := by decide +kernel
theorem dL_circle_6 : decode cL_circle 6 = .ok (.i2l, 1) := by decide +kernel
theorem dL_circle_7 : decode cL_circle 7 = .ok (.putfield 13, 3) := by decide +kernel
theorem dL_circle_10 : decode cL_circle 10 = .ok (.goto 6, 3) := by decide +kernel
theorem dL_circle_13 : decode cL_circle 13 = .ok (.astore_n 3, 1) := by decide +kernel
theorem dL_circle_14 : decode cL_circle 14 = .ok (.iconst 1, 1) := by decide +kernel
theorem dL_circle_15 : decode cL_circle 15 = .ok (.ireturn, 1) := by decide +kernel
theorem dL_circle_16 : decode cL_circle 16 = .ok (.iconst 0, 1) := by decide +kernel
theorem dL_circle_17 : decode cL_circle 17 = .ok (.ireturn, 1) := by decide +kernel
set_option maxRecDepth 20000 in
theorem ggL_strew_X1_strew : GoodIn wsL_strew wsX1_strew := goodIn_ca (goodIn_r _ [6, 7, 8, 9, 10, 5, 11, 12, 13, 14, 15, 16, 17, 18, 19, 20, 21, 22, 23, 24, 25, 26, 27, 28, 29, 30, 31, 32, 33, 34, 35, 36, 37, 38, 39, 40, 41, 42, 43, 44, 45, 46, 47, 48, 49, 50, 51, 52, 53, 54, 55, 56, 57, 58, 59, 62, 63, 64, 65, 66, 67, 68, 69, 70, 71, 72, 73, 74] (by decide +kernel) (by decide +kernel)) (goodIn_sub (fun _ h => List.mem_cons_of_mem _ (List.mem_append_right _ h)) (by decide +kernel))
set_option maxRecDepth 20000 in
theorem gL_strew_X1_strew : GoodIn wsL_strew (wsV RL 42 RX1 yX1_strew wsX1_strew) := goodIn_app (goodIn_of _ (by decide +kernel)) ggL_strew_X1_strew
theorem dL_strew_0 : decode cL_strew 0 = .ok (.aload_n 2, 1) := by decide +kernel
theorem dL_strew_1 : decode cL_strew 1 = .ok (.aload_n 0, 1) := by decide +kernel
theorem dL_strew_2 : decode cL_strew 2 = .ok (.iload_n 1, 1) := by decide +kernel
theorem dL_strew_3 : decode cL_strew 3 = .ok (.invokevirtual 42, 3) := by decide +kernel
theorem dL_strew_6 : decode cL_strew 6 = .ok (.i2l, 1) := by decide +kernel
theorem dL_strew_7 : decode cL_strew 7 = .ok (.putfield 13, 3) := by decide +kernel
theorem dL_strew_10 : decode cL_strew 10 = .ok (.goto 6, 3) := by decide +kernel
theorem dL_strew_13 : decode cL_strew 13 = .ok (.astore_n 3, 1) := by decide +kernel
theorem dL_strew_14 : decode cL_strew 14 = .ok (.iconst 1, 1) := by decide +kernel
theorem dL_strew_15 : decode cL_strew 15 = .ok (.ireturn, 1) := by decide +kernel
theorem dL_strew_16 : decode cL_strew 16 = .ok (.iconst 0, 1) := by decide +kernel
theorem dL_strew_17 : decode cL_strew 17 = .ok (.ireturn, 1) := by decide +kernel
set_option maxRecDepth 20000 in
theorem ggL_stand_X1_stand : GoodIn wsL_stand wsX1_stand := goodIn_ca (goodIn_r _ [6, 7, 8, 9, 10, 11, 12, 5, 13, 14, 15, 16, 19, 20, 21, 22, 23, 24, 25, 26, 27, 28, 29, 30, 31] (by decide +kernel) (by decide +kernel)) (goodIn_sub (fun _ h => List.mem_cons_of_mem _ (List.mem_append_right _ h)) (by decide +kernel))
set_option maxRecDepth 20000 in
theorem gL_stand_X1_stand : GoodIn wsL_stand (wsV RL 45 RX1 yX1_stand wsX1_stand) := goodIn_app (goodIn_of _ (by decide +kernel)) ggL_stand_X1_stand
theorem dL_stand_0 : decode cL_stand 0 = .ok (.aload_n 2, 1) := by decide +kernel
theorem dL_stand_1 : decode cL_stand 1 = .ok (.aload_n 0, 1) := by decide +kernel
theorem dL_stand_2 : decode cL_stand 2 = .ok (.iload_n 1, 1) := by decide +kernel
theorem dL_stand_3 : decode cL_stand 3 = .ok (.invokevirtual 45, 3) := by decide +kernel
theorem dL_stand_6 : decode cL_stand 6 = .ok (.i2l, 1) := by decide +kernel
theorem dL_stand_7 : decode cL_stand 7 = .ok (.putfield 13, 3) := by decide +kernel
theorem dL_stand_10 : decode cL_stand 10 = .ok (.goto 6, 3) := by decide +kernel
theorem dL_stand_13 : decode cL_stand 13 = .ok (.astore_n 3, 1) := by decide +kernel
theorem dL_stand_14 : decode cL_stand 14 = .ok (.iconst 1, 1) := by decide +kernel
theorem dL_stand_15 : decode cL_stand 15 = .ok (.ireturn, 1) := by decide +kernel
theorem dL_stand_16 : decode cL_stand 16 = .ok (.iconst 0, 1) := by decide +kernel
theorem dL_stand_17 : decode cL_stand 17 = .ok (.ireturn, 1) := by decide +kernel
set_option maxRecDepth 20000 in
theorem ggL_go_X1_go : GoodIn wsL_go wsX1_go := goodIn_ca (goodIn_r _ [6, 7, 8, 9, 10, 11, 12, 5, 13, 14, 15, 16, 17, 18, 19, 20, 21, 22, 23, 24, 25, 26, 27, 28, 29, 30, 31, 32, 33, 34, 37, 38, 39, 40, 41, 42, 43, 44, 45, 46, 47, 48, 49] (by decide +kernel) (by decide +kernel)) (goodIn_sub (fun _ h => List.mem_cons_of_mem _ (List.mem_append_right _ h)) (by decide +kernel))
set_option maxRecDepth 20000 in
theorem gL_go_X1_go : GoodIn wsL_go (wsV RL 48 RX1 yX1_go wsX1_go) := goodIn_app (goodIn_of _ (by decide +kernel)) ggL_go_X1_go
theorem dL_go_0 : decode cL_go 0 = .ok (.aload_n 2, 1) := by decide +kernel
theorem dL_go_1 : decode cL_go 1 = .ok (.aload_n 0, 1) := by decide +kernel
theorem dL_go_2 : decode cL_go 2 = .ok (.iload_n 1, 1) := by decide +kernel
theorem dL_go_3 : decode cL_go 3 = .ok (.invokevirtual 48, 3) := by decide +kernel
theorem dL_go_6 : decode cL_go 6 = .ok (.i2l, 1) := by decide +kernel
theorem dL_go_7 : decode cL_go 7 = .ok (.putfield 13, 3) := by decide +kernel
theorem dL_go_10 : decode cL_go 10 = .ok (.goto 6, 3) := by decide +kernel
theorem dL_go_13 : decode cL_go 13 = .ok (.astore_n 3, 1) := by decide +kernel
theorem dL_go_14 : decode cL_go 14 = .ok (.iconst 1, 1) := by decide +kernel
theorem dL_go_15 : decode cL_go 15 = .ok (.ireturn, 1) := by decide +kernel
theorem dL_go_16 : decode cL_go 16 = .ok (.iconst 0, 1) := by decide +kernel
theorem dL_go_17 : decode cL_go 17 = .ok (.ireturn, 1) := by decide +kernel
set_option maxRecDepth 20000 in
theorem ggL_follow_X1_follow : GoodIn wsL_follow wsX1_follow := goodIn_ca (goodIn_r _ [6, 7, 8, 9, 10, 5, 11, 12, 13, 14, 15, 16, 17, 18, 19, 20, 21, 22, 23, 24, 25, 26, 27, 28, 29, 30, 31, 32, 33, 34, 35, 36, 37, 38, 39, 40, 41, 42, 43, 44, 45, 46, 47, 48, 49, 50, 51, 52, 53, 54, 55, 56, 57, 58, 59, 60, 61, 62, 63, 64, 65, 66, 67, 68, 69, 70, 71, 72, 73, 74, 75, 76, 77, 78, 79, 80, 81, 82, 83, 84, 85, 86, 87, 88, 89, 90, 91, 94, 95, 96, 97, 98, 99, 100, 101, 102, 103, 104, 105, 106] (by decide +kernel) (by decide +kernel)) (goodIn_sub (fun _ h => List.mem_cons_of_mem _ (List.mem_append_right _ h)) (by decide +kernel))
set_option maxRecDepth 20000 in
theorem gL_follow_X1_follow : GoodIn wsL_follow (wsV RL 51 RX1 yX1_follow wsX1_follow) := goodIn_app (goodIn_of _ (by decide +kernel)) ggL_follow_X1_follow
theorem dL_follow_0 : decode cL_follow 0 = .ok (.aload_n 2, 1) := by decide +kernel
theorem dL_follow_1 : decode cL_follow 1 = .ok (.aload_n 0, 1) := by decide +kernel
theorem dL_follow_2 : decode cL_follow 2 = .ok (.iload_n 1, 1) := by decide +kernel
theorem dL_follow_3 : decode cL_follow 3 = .ok (.invokevirtual 51, 3) := by decide +kernel
theorem dL_follow_6 : decode cL_follow 6 = .ok (.i2l, 1) := by decide +kernel
theorem dL_follow_7 : decode cL_follow 7 = .ok (.putfield 13, 3) := by decide +kernel
theorem dL_follow_10 : decode cL_follow 10 = .ok (.goto 6, 3) := by decide +kernel
theorem dL_follow_13 : decode cL_follow 13 = .ok (.astore_n 3, 1) := by decide +kernel
theorem dL_follow_14 : decode cL_follow 14 = .ok (.iconst 1, 1) := by decide +kernel
theorem dL_follow_15 : decode cL_follow 15 = .ok (.ireturn, 1) := by decide +kernel
theorem dL_follow_16 : decode cL_follow 16 = .ok (.iconst 0, 1) := by decide +kernel
theorem dL_follow_17 : decode cL_follow 17 = .ok (.ireturn, 1) := by decide +kernel
set_option maxRecDepth 20000 in
theorem ggL_told_X1_told : GoodIn wsL_told wsX1_told := goodIn_ca (goodIn_r _ [6, 7, 8, 9, 10, 11, 5, 12, 13, 14, 15, 16, 17, 18, 19, 20, 21, 22, 23, 24, 25, 26, 27, 28, 29, 30, 31, 32, 33, 34, 35, 36, 37, 38, 39, 40, 41, 42, 43, 44, 45, 48, 49, 50, 51, 52, 53, 54, 55, 56, 57, 58, 59, 60] (by decide +kernel) (by decide +kernel)) (goodIn_sub (fun _ h => List.mem_cons_of_mem _ (List.mem_append_right _ h)) (by decide +kernel))
set_option maxRecDepth 20000 in
theorem gL_told_X1_told : GoodIn wsL_told (wsV RL 54 RX1 yX1_told wsX1_told) := goodIn_app (goodIn_of _ (by decide +kernel)) ggL_told_X1_told
theorem dL_told_0 : decode cL_told 0 = .ok (.aload_n 2, 1) := by decide +kernel
theorem dL_told_1 : decode cL_told 1 = .ok (.aload_n 0, 1) := by decide +kernel
theorem dL_told_2 : decode cL_told 2 = .ok (.iload_n 1, 1) := by decide +kernel
theorem dL_told_3 : decode cL_told 3 = .ok (.invokevirtual 54, 3) := by decide +kernel
theorem dL_told_6 : decode cL_told 6 = .ok (.i2l, 1) := by decide +kernel
theorem dL_told_7 : decode cL_told 7 = .ok (.putfield 13, 3) := by decide +kernel
theorem dL_told_10 : decode cL_told 10 = .ok (.goto 6, 3) := by decide +kernel
theorem dL_told_13 : decode cL_told 13 = .ok (.astore_n 3, 1) := by decide +kernel
theorem dL_told_14 : decode cL_told 14 = .ok (.iconst 1, 1) := by decide +kernel
theorem dL_told_15 : decode cL_told 15 = .ok (.ireturn, 1) := by decide +kernel
theorem dL_told_16 : decode cL_told 16 = .ok (.iconst 0, 1) := by decide +kernel
theorem dL_told_17 : decode cL_told 17 = .ok (.ireturn, 1) := by decide +kernel
set_option maxRecDepth 20000 in
theorem ggL_ofPlace_X1_ofPlace : GoodIn wsL_ofPlace wsX1_ofPlace := goodIn_ca (goodIn_ca (goodIn_r _ [7, 8, 9, 10, 11, 6, 12, 13, 14, 15, 16, 17, 18, 19, 20, 21, 22, 23, 24, 25, 26, 27, 28, 29, 30, 31, 32, 33, 34, 35, 36, 37, 38, 39, 40, 41, 42, 43, 44, 45, 48, 49, 50, 51, 52, 53, 54, 55, 56, 57, 58, 59, 60] (by decide +kernel) (by decide +kernel)) (goodIn_sub (fun _ h => List.mem_cons_of_mem _ (List.mem_append_left _ (List.mem_append_right _ h))) (by decide +kernel))) (goodIn_sub (fun _ h => List.mem_cons_of_mem _ (List.mem_append_right _ h)) (by decide +kernel))
set_option maxRecDepth 20000 in
theorem gL_ofPlace_X1_ofPlace : GoodIn wsL_ofPlace (wsV RL 57 RX1 yX1_ofPlace wsX1_ofPlace) := goodIn_app (goodIn_of _ (by decide +kernel)) ggL_ofPlace_X1_ofPlace
theorem dL_ofPlace_0 : decode cL_ofPlace 0 = .ok (.aload_n 3, 1) := by decide +kernel
theorem dL_ofPlace_1 : decode cL_ofPlace 1 = .ok (.aload_n 0, 1) := by decide +kernel
theorem dL_ofPlace_2 : decode cL_ofPlace 2 = .ok (.iload_n 1, 1) := by decide +kernel
theorem dL_ofPlace_3 : decode cL_ofPlace 3 = .ok (.iload_n 2, 1) := by decide +kernel
theorem dL_ofPlace_4 : decode cL_ofPlace 4 = .ok (.invokevirtual 57, 3) := by decide +kernel
theorem dL_ofPlace_7 : decode cL_ofPlace 7 = .ok (.i2l, 1) := by decide +kernel
theorem dL_ofPlace_8 : decode cL_ofPlace 8 = .ok (.putfield 13, 3) := by decide +kernel
theorem dL_ofPlace_11 : decode cL_ofPlace 11 = .ok (.goto 11, 3) := by decide +kernel
theorem dL_ofPlace_14 : decode cL_ofPlace 14 = .ok (.astore 4, 2) := by decide +kernel
theorem dL_ofPlace_16 : decode cL_ofPlace 16 = .ok (.iconst 1, 1) := by decide +kernel
theorem dL_ofPlace_17 : decode cL_ofPlace 17 = .ok (.ireturn, 1) := by decide +kernel
theorem dL_ofPlace_18 : decode cL_ofPlace 18 = .ok (.astore 4, 2) := by decide +kernel
theorem dL_ofPlace_20 : decode cL_ofPlace 20 = .ok (.iconst 2, 1) := by decide +kernel
theorem dL_ofPlace_21 : decode cL_ofPlace 21 = .ok (.ireturn, 1) := by decide +kernel
theorem dL_ofPlace_22 : decode cL_ofPlace 22 = .ok (.iconst 0, 1) := by decide +kernel
theorem dL_ofPlace_23 : decode cL_ofPlace 23 = .ok (.ireturn, 1) := by decide +kernel
set_option maxRecDepth 20000 in
theorem ggL_isWay_X1_isWay : GoodIn wsL_isWay wsX1_isWay := goodIn_ca (goodIn_r _ [6, 7, 8, 9, 10, 5, 11, 12, 13, 14, 15, 16, 17, 18, 19, 20, 21, 22, 25, 26, 27, 28, 29, 30, 31, 32, 33, 34, 35, 36, 37] (by decide +kernel) (by decide +kernel)) (goodIn_sub (fun _ h => List.mem_cons_of_mem _ (List.mem_append_right _ h)) (by decide +kernel))
set_option maxRecDepth 20000 in
theorem gL_isWay_X1_isWay : GoodIn wsL_isWay (wsV RL 60 RX1 yX1_isWay wsX1_isWay) := goodIn_app (goodIn_of _ (by decide +kernel)) ggL_isWay_X1_isWay
theorem dL_isWay_0 : decode cL_isWay 0 = .ok (.aload_n 3, 1) := by decide +kernel
theorem dL_isWay_1 : decode cL_isWay 1 = .ok (.aload_n 0, 1) := by decide +kernel
theorem dL_isWay_2 : decode cL_isWay 2 = .ok (.iload_n 1, 1) := by decide +kernel
theorem dL_isWay_3 : decode cL_isWay 3 = .ok (.iload_n 2, 1) := by decide +kernel
theorem dL_isWay_4 : decode cL_isWay 4 = .ok (.invokevirtual 60, 3) := by decide +kernel
theorem dL_isWay_7 : decode cL_isWay 7 = .ok (.ifCond .eq 7, 3) := by decide +kernel
theorem dL_isWay_10 : decode cL_isWay 10 = .ok (.lconst 1, 1) := by decide +kernel
theorem dL_isWay_11 : decode cL_isWay 11 = .ok (.goto 4, 3) := by decide +kernel
theorem dL_isWay_14 : decode cL_isWay 14 = .ok (.lconst 0, 1) := by decide +kernel
theorem dL_isWay_15 : decode cL_isWay 15 = .ok (.putfield 13, 3) := by decide +kernel
theorem dL_isWay_18 : decode cL_isWay 18 = .ok (.goto 7, 3) := by decide +kernel
theorem dL_isWay_21 : decode cL_isWay 21 = .ok (.astore 4, 2) := by decide +kernel
theorem dL_isWay_23 : decode cL_isWay 23 = .ok (.iconst 1, 1) := by decide +kernel
theorem dL_isWay_24 : decode cL_isWay 24 = .ok (.ireturn, 1) := by decide +kernel
theorem dL_isWay_25 : decode cL_isWay 25 = .ok (.iconst 0, 1) := by decide +kernel
theorem dL_isWay_26 : decode cL_isWay 26 = .ok (.ireturn, 1) := by decide +kernel
set_option maxRecDepth 20000 in
theorem ggL_ways_X1_ways : GoodIn wsL_ways wsX1_ways := goodIn_ca (goodIn_r _ [6, 7, 8, 9, 10, 11, 12, 13, 5, 14, 15, 16, 17, 18, 19, 20, 21, 22, 23, 24, 25, 26, 27, 28, 29, 30, 31, 32, 33, 34, 35, 36, 37, 38, 39, 40, 41, 42, 43, 44, 45, 46, 47, 48, 49, 50, 51, 52, 53, 54, 55, 56, 57, 58, 59, 60, 61, 62, 63, 64, 65, 66, 67, 68, 69, 70, 71, 72, 73, 74, 75, 76, 77, 78, 79, 80, 81, 82, 83, 84, 85, 86, 87, 88, 89, 90, 91, 92, 93, 94, 95, 96, 97, 98, 99, 100, 101, 102, 103, 104, 105, 106, 107, 108, 109, 110, 111, 112, 113, 114, 115, 116, 117, 118, 119, 120, 121, 122, 123, 124, 125, 126, 127, 128, 129, 130, 131, 132, 133, 134, 135, 136, 137, 138, 139, 140, 141, 142, 143, 144, 145, 146, 147, 148, 149, 150, 151, 152, 153, 154, 155, 156, 157, 158, 159, 160, 161, 162, 163, 164, 165, 166, 167, 168, 169, 170, 171, 172, 173, 174, 175, 176, 177, 178, 179, 180, 181, 182, 183, 184, 185, 186, 187, 188, 189, 190, 191, 192, 193, 194, 195, 196, 197, 198, 199, 200, 201, 202, 203, 204, 205, 206, 207, 208, 209, 210, 211, 212, 213, 214, 215, 216, 217, 218, 219, 220, 221, 222, 223, 224, 225, 226, 227, 228, 229, 230, 231, 232, 233, 234, 235, 236, 237, 238, 239, 240, 241, 244, 245, 246, 247, 248, 249, 250, 251, 252, 253, 254, 255, 256, 257, 258, 259, 260, 261, 262, 263, 264] (by decide +kernel) (by decide +kernel)) (goodIn_sub (fun _ h => List.mem_cons_of_mem _ (List.mem_append_right _ h)) (by decide +kernel))
set_option maxRecDepth 20000 in
theorem gL_ways_X1_ways : GoodIn wsL_ways (wsV RL 64 RX1 yX1_ways wsX1_ways) := goodIn_app (goodIn_of _ (by decide +kernel)) ggL_ways_X1_ways
theorem dL_ways_0 : decode cL_ways 0 = .ok (.aload_n 2, 1) := by decide +kernel
theorem dL_ways_1 : decode cL_ways 1 = .ok (.aload_n 0, 1) := by decide +kernel
theorem dL_ways_2 : decode cL_ways 2 = .ok (.iload_n 1, 1) := by decide +kernel
theorem dL_ways_3 : decode cL_ways 3 = .ok (.invokevirtual 64, 3) := by decide +kernel
theorem dL_ways_6 : decode cL_ways 6 = .ok (.putfield 68, 3) := by decide +kernel
theorem dL_ways_9 : decode cL_ways 9 = .ok (.goto 6, 3) := by decide +kernel
theorem dL_ways_12 : decode cL_ways 12 = .ok (.astore_n 3, 1) := by decide +kernel
theorem dL_ways_13 : decode cL_ways 13 = .ok (.iconst 1, 1) := by decide +kernel
theorem dL_ways_14 : decode cL_ways 14 = .ok (.ireturn, 1) := by decide +kernel
theorem dL_ways_15 : decode cL_ways 15 = .ok (.iconst 0, 1) := by decide +kernel
theorem dL_ways_16 : decode cL_ways 16 = .ok (.ireturn, 1) := by decide +kernel
set_option maxRecDepth 20000 in
theorem ggL_ahead_X1_ahead : GoodIn wsL_ahead wsX1_ahead := goodIn_ca (goodIn_r _ [6, 7, 8, 9, 10, 5, 11, 12, 13, 14, 15, 16, 17, 18, 19, 20, 21, 22, 23, 24, 25, 26, 27, 28, 29, 30, 31, 34, 35, 36, 37, 38, 39, 40, 41, 42, 43, 44, 45, 46] (by decide +kernel) (by decide +kernel)) (goodIn_sub (fun _ h => List.mem_cons_of_mem _ (List.mem_append_right _ h)) (by decide +kernel))
set_option maxRecDepth 20000 in
theorem gL_ahead_X1_ahead : GoodIn wsL_ahead (wsV RL 72 RX1 yX1_ahead wsX1_ahead) := goodIn_app (goodIn_of _ (by decide +kernel)) ggL_ahead_X1_ahead
theorem dL_ahead_0 : decode cL_ahead 0 = .ok (.aload_n 3, 1) := by decide +kernel
theorem dL_ahead_1 : decode cL_ahead 1 = .ok (.aload_n 0, 1) := by decide +kernel
theorem dL_ahead_2 : decode cL_ahead 2 = .ok (.iload_n 1, 1) := by decide +kernel
theorem dL_ahead_3 : decode cL_ahead 3 = .ok (.iload_n 2, 1) := by decide +kernel
theorem dL_ahead_4 : decode cL_ahead 4 = .ok (.invokevirtual 72, 3) := by decide +kernel
theorem dL_ahead_7 : decode cL_ahead 7 = .ok (.i2l, 1) := by decide +kernel
theorem dL_ahead_8 : decode cL_ahead 8 = .ok (.putfield 13, 3) := by decide +kernel
theorem dL_ahead_11 : decode cL_ahead 11 = .ok (.goto 7, 3) := by decide +kernel
theorem dL_ahead_14 : decode cL_ahead 14 = .ok (.astore 4, 2) := by decide +kernel
theorem dL_ahead_16 : decode cL_ahead 16 = .ok (.iconst 1, 1) := by decide +kernel
theorem dL_ahead_17 : decode cL_ahead 17 = .ok (.ireturn, 1) := by decide +kernel
theorem dL_ahead_18 : decode cL_ahead 18 = .ok (.iconst 0, 1) := by decide +kernel
theorem dL_ahead_19 : decode cL_ahead 19 = .ok (.ireturn, 1) := by decide +kernel
set_option maxRecDepth 20000 in
theorem ggL_coming_X1_coming : GoodIn wsL_coming wsX1_coming := goodIn_ca (goodIn_r _ [6, 7, 8, 9, 5, 10, 11, 12, 13, 14, 15, 16, 17, 18, 19, 20, 21, 22, 23, 24, 25, 26, 27, 28, 29, 30, 31, 32, 33, 34, 35, 36, 37, 38, 39, 40, 41, 42, 43, 44, 45, 46, 47, 48, 49, 50, 53, 54, 55, 56, 57, 58, 59, 60, 61, 62, 63, 64, 65] (by decide +kernel) (by decide +kernel)) (goodIn_sub (fun _ h => List.mem_cons_of_mem _ (List.mem_append_right _ h)) (by decide +kernel))
set_option maxRecDepth 20000 in
theorem gL_coming_X1_coming : GoodIn wsL_coming (wsV RL 75 RX1 yX1_coming wsX1_coming) := goodIn_app (goodIn_of _ (by decide +kernel)) ggL_coming_X1_coming
theorem dL_coming_0 : decode cL_coming 0 = .ok (.aload_n 2, 1) := by decide +kernel
theorem dL_coming_1 : decode cL_coming 1 = .ok (.aload_n 0, 1) := by decide +kernel
theorem dL_coming_2 : decode cL_coming 2 = .ok (.iload_n 1, 1) := by decide +kernel
theorem dL_coming_3 : decode cL_coming 3 = .ok (.invokevirtual 75, 3) := by decide +kernel
theorem dL_coming_6 : decode cL_coming 6 = .ok (.i2l, 1) := by decide +kernel
theorem dL_coming_7 : decode cL_coming 7 = .ok (.putfield 13, 3) := by decide +kernel
theorem dL_coming_10 : decode cL_coming 10 = .ok (.goto 6, 3) := by decide +kernel
theorem dL_coming_13 : decode cL_coming 13 = .ok (.astore_n 3, 1) := by decide +kernel
theorem dL_coming_14 : decode cL_coming 14 = .ok (.iconst 1, 1) := by decide +kernel
theorem dL_coming_15 : decode cL_coming 15 = .ok (.ireturn, 1) := by decide +kernel
theorem dL_coming_16 : decode cL_coming 16 = .ok (.iconst 0, 1) := by decide +kernel
theorem dL_coming_17 : decode cL_coming 17 = .ok (.ireturn, 1) := by decide +kernel
set_option maxRecDepth 20000 in
theorem ggL_keeping_X1_keeping : GoodIn wsL_keeping wsX1_keeping := goodIn_ca (goodIn_r _ [6, 7, 8, 9, 5, 10, 11, 12, 13, 14, 15, 16, 17, 18, 19, 20, 21, 22, 23, 24, 25, 26, 27, 28, 29, 30, 31, 32, 33, 34, 35, 36, 37, 38, 39, 40, 41, 42, 43, 44, 45, 46, 47, 48, 49, 50, 53, 54, 55, 56, 57, 58, 59, 60, 61, 62, 63, 64, 65] (by decide +kernel) (by decide +kernel)) (goodIn_sub (fun _ h => List.mem_cons_of_mem _ (List.mem_append_right _ h)) (by decide +kernel))
set_option maxRecDepth 20000 in
theorem gL_keeping_X1_keeping : GoodIn wsL_keeping (wsV RL 78 RX1 yX1_keeping wsX1_keeping) := goodIn_app (goodIn_of _ (by decide +kernel)) ggL_keeping_X1_keeping
theorem dL_keeping_0 : decode cL_keeping 0 = .ok (.aload_n 2, 1) := by decide +kernel
theorem dL_keeping_1 : decode cL_keeping 1 = .ok (.aload_n 0, 1) := by decide +kernel
theorem dL_keeping_2 : decode cL_keeping 2 = .ok (.iload_n 1, 1) := by decide +kernel
theorem dL_keeping_3 : decode cL_keeping 3 = .ok (.invokevirtual 78, 3) := by decide +kernel
theorem dL_keeping_6 : decode cL_keeping 6 = .ok (.i2l, 1) := by decide +kernel
theorem dL_keeping_7 : decode cL_keeping 7 = .ok (.putfield 13, 3) := by decide +kernel
theorem dL_keeping_10 : decode cL_keeping 10 = .ok (.goto 6, 3) := by decide +kernel
theorem dL_keeping_13 : decode cL_keeping 13 = .ok (.astore_n 3, 1) := by decide +kernel
theorem dL_keeping_14 : decode cL_keeping 14 = .ok (.iconst 1, 1) := by decide +kernel
theorem dL_keeping_15 : decode cL_keeping 15 = .ok (.ireturn, 1) := by decide +kernel
theorem dL_keeping_16 : decode cL_keeping 16 = .ok (.iconst 0, 1) := by decide +kernel
theorem dL_keeping_17 : decode cL_keeping 17 = .ok (.ireturn, 1) := by decide +kernel
set_option maxRecDepth 20000 in
theorem ggL_again_X1_again : GoodIn wsL_again wsX1_again := goodIn_ca (goodIn_r _ [6, 7, 8, 9, 5, 10, 11, 12, 13, 14, 15, 16, 17, 18, 19, 20, 21, 22, 23, 24, 25, 26, 27, 28, 29, 30, 31, 32, 33, 34, 35, 36, 37, 38, 39, 40, 41, 42, 43, 44, 45, 46, 47, 48, 49, 50, 53, 54, 55, 56, 57, 58, 59, 60, 61, 62, 63, 64, 65] (by decide +kernel) (by decide +kernel)) (goodIn_sub (fun _ h => List.mem_cons_of_mem _ (List.mem_append_right _ h)) (by decide +kernel))
set_option maxRecDepth 20000 in
theorem gL_again_X1_again : GoodIn wsL_again (wsV RL 81 RX1 yX1_again wsX1_again) := goodIn_app (goodIn_of _ (by decide +kernel)) ggL_again_X1_again
theorem dL_again_0 : decode cL_again 0 = .ok (.aload_n 2, 1) := by decide +kernel
theorem dL_again_1 : decode cL_again 1 = .ok (.aload_n 0, 1) := by decide +kernel
theorem dL_again_2 : decode cL_again 2 = .ok (.iload_n 1, 1) := by decide +kernel
theorem dL_again_3 : decode cL_again 3 = .ok (.invokevirtual 81, 3) := by decide +kernel
theorem dL_again_6 : decode cL_again 6 = .ok (.i2l, 1) := by decide +kernel
theorem dL_again_7 : decode cL_again 7 = .ok (.putfield 13, 3) := by decide +kernel
theorem dL_again_10 : decode cL_again 10 = .ok (.goto 6, 3) := by decide +kernel
theorem dL_again_13 : decode cL_again 13 = .ok (.astore_n 3, 1) := by decide +kernel
theorem dL_again_14 : decode cL_again 14 = .ok (.iconst 1, 1) := by decide +kernel
theorem dL_again_15 : decode cL_again 15 = .ok (.ireturn, 1) := by decide +kernel
theorem dL_again_16 : decode cL_again 16 = .ok (.iconst 0, 1) := by decide +kernel
theorem dL_again_17 : decode cL_again 17 = .ok (.ireturn, 1) := by decide +kernel
set_option maxRecDepth 20000 in
theorem ggL_ranked_X1_ranked : GoodIn wsL_ranked wsX1_ranked := goodIn_ca (goodIn_r _ [6, 7, 8, 9, 5, 10, 11, 12, 13, 14, 15, 16, 17, 18, 19, 20, 21, 22, 23, 24, 25, 26, 27, 28, 29, 30, 31, 32, 33, 34, 35, 36, 37, 38, 39, 40, 41, 42, 43, 44, 45, 46, 47, 48, 49, 50, 53, 54, 55, 56, 57, 58, 59, 60, 61, 62, 63, 64, 65] (by decide +kernel) (by decide +kernel)) (goodIn_sub (fun _ h => List.mem_cons_of_mem _ (List.mem_append_right _ h)) (by decide +kernel))
set_option maxRecDepth 20000 in
theorem gL_ranked_X1_ranked : GoodIn wsL_ranked (wsV RL 84 RX1 yX1_ranked wsX1_ranked) := goodIn_app (goodIn_of _ (by decide +kernel)) ggL_ranked_X1_ranked
theorem dL_ranked_0 : decode cL_ranked 0 = .ok (.aload_n 2, 1) := by decide +kernel
theorem dL_ranked_1 : decode cL_ranked 1 = .ok (.aload_n 0, 1) := by decide +kernel
theorem dL_ranked_2 : decode cL_ranked 2 = .ok (.iload_n 1, 1) := by decide +kernel
theorem dL_ranked_3 : decode cL_ranked 3 = .ok (.invokevirtual 84, 3) := by decide +kernel
theorem dL_ranked_6 : decode cL_ranked 6 = .ok (.i2l, 1) := by decide +kernel
theorem dL_ranked_7 : decode cL_ranked 7 = .ok (.putfield 13, 3) := by decide +kernel
theorem dL_ranked_10 : decode cL_ranked 10 = .ok (.goto 6, 3) := by decide +kernel
theorem dL_ranked_13 : decode cL_ranked 13 = .ok (.astore_n 3, 1) := by decide +kernel
theorem dL_ranked_14 : decode cL_ranked 14 = .ok (.iconst 1, 1) := by decide +kernel
theorem dL_ranked_15 : decode cL_ranked 15 = .ok (.ireturn, 1) := by decide +kernel
theorem dL_ranked_16 : decode cL_ranked 16 = .ok (.iconst 0, 1) := by decide +kernel
theorem dL_ranked_17 : decode cL_ranked 17 = .ok (.ireturn, 1) := by decide +kernel
set_option maxRecDepth 20000 in
theorem ggL_winner_X1_winner : GoodIn wsL_winner wsX1_winner := goodIn_ca (goodIn_ca (goodIn_r _ [7, 8, 9, 10, 11, 6, 12, 13, 14, 15, 16, 17, 18, 19, 20, 21, 22, 23, 24, 25, 26, 27, 28, 29, 30, 31, 32, 33, 34, 35, 36, 37, 38, 39, 40, 41, 42, 43, 44, 45, 46, 47, 48, 49, 50, 51, 52, 53, 54, 55, 56, 57, 60, 61, 62, 63, 64, 65, 66, 67, 68, 69, 70, 71, 72] (by decide +kernel) (by decide +kernel)) (goodIn_sub (fun _ h => List.mem_cons_of_mem _ (List.mem_append_left _ (List.mem_append_right _ h))) (by decide +kernel))) (goodIn_sub (fun _ h => List.mem_cons_of_mem _ (List.mem_append_right _ h)) (by decide +kernel))
set_option maxRecDepth 20000 in
theorem gL_winner_X1_winner : GoodIn wsL_winner (wsV RL 87 RX1 yX1_winner wsX1_winner) := goodIn_app (goodIn_of _ (by decide +kernel)) ggL_winner_X1_winner
theorem dL_winner_0 : decode cL_winner 0 = .ok (.aload_n 3, 1) := by decide +kernel
theorem dL_winner_1 : decode cL_winner 1 = .ok (.aload_n 0, 1) := by decide +kernel
theorem dL_winner_2 : decode cL_winner 2 = .ok (.iload_n 1, 1) := by decide +kernel
theorem dL_winner_3 : decode cL_winner 3 = .ok (.iload_n 2, 1) := by decide +kernel
theorem dL_winner_4 : decode cL_winner 4 = .ok (.invokevirtual 87, 3) := by decide +kernel
theorem dL_winner_7 : decode cL_winner 7 = .ok (.i2l, 1) := by decide +kernel
theorem dL_winner_8 : decode cL_winner 8 = .ok (.putfield 13, 3) := by decide +kernel
theorem dL_winner_11 : decode cL_winner 11 = .ok (.goto 11, 3) := by decide +kernel
theorem dL_winner_14 : decode cL_winner 14 = .ok (.astore 4, 2) := by decide +kernel
theorem dL_winner_16 : decode cL_winner 16 = .ok (.iconst 1, 1) := by decide +kernel
theorem dL_winner_17 : decode cL_winner 17 = .ok (.ireturn, 1) := by decide +kernel
theorem dL_winner_18 : decode cL_winner 18 = .ok (.astore 4, 2) := by decide +kernel
theorem dL_winner_20 : decode cL_winner 20 = .ok (.iconst 2, 1) := by decide +kernel
theorem dL_winner_21 : decode cL_winner 21 = .ok (.ireturn, 1) := by decide +kernel
theorem dL_winner_22 : decode cL_winner 22 = .ok (.iconst 0, 1) := by decide +kernel
theorem dL_winner_23 : decode cL_winner 23 = .ok (.ireturn, 1) := by decide +kernel
set_option maxRecDepth 20000 in
theorem ggL_rounds_X1_rounds : GoodIn wsL_rounds wsX1_rounds := goodIn_ca (goodIn_ca (goodIn_r _ [7, 8, 9, 10, 11, 6, 12, 13, 14, 15, 16, 17, 18, 19, 20, 21, 22, 23, 24, 25, 26, 27, 28, 29, 30, 31, 32, 33, 34, 35, 36, 39, 40, 41, 42, 43, 44, 45, 46, 47, 48, 49, 50, 51] (by decide +kernel) (by decide +kernel)) (goodIn_sub (fun _ h => List.mem_cons_of_mem _ (List.mem_append_left _ (List.mem_append_right _ h))) (by decide +kernel))) (goodIn_sub (fun _ h => List.mem_cons_of_mem _ (List.mem_append_right _ h)) (by decide +kernel))
set_option maxRecDepth 20000 in
theorem gL_rounds_X1_rounds : GoodIn wsL_rounds (wsV RL 90 RX1 yX1_rounds wsX1_rounds) := goodIn_app (goodIn_of _ (by decide +kernel)) ggL_rounds_X1_rounds
theorem dL_rounds_0 : decode cL_rounds 0 = .ok (.aload_n 3, 1) := by decide +kernel
theorem dL_rounds_1 : decode cL_rounds 1 = .ok (.aload_n 0, 1) := by decide +kernel
theorem dL_rounds_2 : decode cL_rounds 2 = .ok (.iload_n 1, 1) := by decide +kernel
theorem dL_rounds_3 : decode cL_rounds 3 = .ok (.iload_n 2, 1) := by decide +kernel
theorem dL_rounds_4 : decode cL_rounds 4 = .ok (.invokevirtual 90, 3) := by decide +kernel
theorem dL_rounds_7 : decode cL_rounds 7 = .ok (.i2l, 1) := by decide +kernel
theorem dL_rounds_8 : decode cL_rounds 8 = .ok (.putfield 13, 3) := by decide +kernel
theorem dL_rounds_11 : decode cL_rounds 11 = .ok (.goto 11, 3) := by decide +kernel
theorem dL_rounds_14 : decode cL_rounds 14 = .ok (.astore 4, 2) := by decide +kernel
theorem dL_rounds_16 : decode cL_rounds 16 = .ok (.iconst 1, 1) := by decide +kernel
theorem dL_rounds_17 : decode cL_rounds 17 = .ok (.ireturn, 1) := by decide +kernel
theorem dL_rounds_18 : decode cL_rounds 18 = .ok (.astore 4, 2) := by decide +kernel
theorem dL_rounds_20 : decode cL_rounds 20 = .ok (.iconst 2, 1) := by decide +kernel
theorem dL_rounds_21 : decode cL_rounds 21 = .ok (.ireturn, 1) := by decide +kernel
theorem dL_rounds_22 : decode cL_rounds 22 = .ok (.iconst 0, 1) := by decide +kernel
theorem dL_rounds_23 : decode cL_rounds 23 = .ok (.ireturn, 1) := by decide +kernel
set_option maxRecDepth 20000 in
theorem ggL_againRounds_X1_againRounds : GoodIn wsL_againRounds wsX1_againRounds := goodIn_ca (goodIn_ca (goodIn_r _ [7, 8, 9, 10, 11, 6, 12, 13, 14, 15, 16, 17, 18, 19, 20, 21, 22, 23, 24, 25, 26, 27, 28, 29, 30, 31, 32, 33, 34, 35, 36, 37, 38, 39, 40, 41, 42, 43, 44, 45, 46, 47, 48, 49, 50, 51, 52, 53, 54, 55, 56, 57, 58, 59, 60, 61, 62, 63, 66, 67, 68, 69, 70, 71, 72, 73, 74, 75, 76, 77, 78] (by decide +kernel) (by decide +kernel)) (goodIn_sub (fun _ h => List.mem_cons_of_mem _ (List.mem_append_left _ (List.mem_append_right _ h))) (by decide +kernel))) (goodIn_sub (fun _ h => List.mem_cons_of_mem _ (List.mem_append_right _ h)) (by decide +kernel))
set_option maxRecDepth 20000 in
theorem gL_againRounds_X1_againRounds : GoodIn wsL_againRounds (wsV RL 93 RX1 yX1_againRounds wsX1_againRounds) := goodIn_app (goodIn_of _ (by decide +kernel)) ggL_againRounds_X1_againRounds
theorem dL_againRounds_0 : decode cL_againRounds 0 = .ok (.aload_n 3, 1) := by decide +kernel
theorem dL_againRounds_1 : decode cL_againRounds 1 = .ok (.aload_n 0, 1) := by decide +kernel
theorem dL_againRounds_2 : decode cL_againRounds 2 = .ok (.iload_n 1, 1) := by decide +kernel
theorem dL_againRounds_3 : decode cL_againRounds 3 = .ok (.iload_n 2, 1) := by decide +kernel
theorem dL_againRounds_4 : decode cL_againRounds 4 = .ok (.invokevirtual 93, 3) := by decide +kernel
theorem dL_againRounds_7 : decode cL_againRounds 7 = .ok (.i2l, 1) := by decide +kernel
theorem dL_againRounds_8 : decode cL_againRounds 8 = .ok (.putfield 13, 3) := by decide +kernel
theorem dL_againRounds_11 : decode cL_againRounds 11 = .ok (.goto 11, 3) := by decide +kernel
theorem dL_againRounds_14 : decode cL_againRounds 14 = .ok (.astore 4, 2) := by decide +kernel
theorem dL_againRounds_16 : decode cL_againRounds 16 = .ok (.iconst 1, 1) := by decide +kernel
theorem dL_againRounds_17 : decode cL_againRounds 17 = .ok (.ireturn, 1) := by decide +kernel
theorem dL_againRounds_18 : decode cL_againRounds 18 = .ok (.astore 4, 2) := by decide +kernel
theorem dL_againRounds_20 : decode cL_againRounds 20 = .ok (.iconst 2, 1) := by decide +kernel
theorem dL_againRounds_21 : decode cL_againRounds 21 = .ok (.ireturn, 1) := by decide +kernel
theorem dL_againRounds_22 : decode cL_againRounds 22 = .ok (.iconst 0, 1) := by decide +kernel
theorem dL_againRounds_23 : decode cL_againRounds 23 = .ok (.ireturn, 1) := by decide +kernel
set_option maxRecDepth 20000 in
theorem ggL_falls_X1_falls : GoodIn wsL_falls wsX1_falls := goodIn_ca (goodIn_r _ [6, 7, 8, 9, 5, 10, 11, 12, 13, 14, 15, 16, 17, 18, 19, 20, 21, 22, 23, 24, 25, 26, 27, 28, 29, 30, 31, 32, 35, 36, 37, 38, 39, 40, 41, 42, 43, 44, 45, 46, 47] (by decide +kernel) (by decide +kernel)) (goodIn_sub (fun _ h => List.mem_cons_of_mem _ (List.mem_append_right _ h)) (by decide +kernel))
set_option maxRecDepth 20000 in
theorem gL_falls_X1_falls : GoodIn wsL_falls (wsV RL 96 RX1 yX1_falls wsX1_falls) := goodIn_app (goodIn_of _ (by decide +kernel)) ggL_falls_X1_falls
theorem dL_falls_0 : decode cL_falls 0 = .ok (.aload_n 2, 1) := by decide +kernel
theorem dL_falls_1 : decode cL_falls 1 = .ok (.aload_n 0, 1) := by decide +kernel
theorem dL_falls_2 : decode cL_falls 2 = .ok (.iload_n 1, 1) := by decide +kernel
theorem dL_falls_3 : decode cL_falls 3 = .ok (.invokevirtual 96, 3) := by decide +kernel
theorem dL_falls_6 : decode cL_falls 6 = .ok (.i2l, 1) := by decide +kernel
theorem dL_falls_7 : decode cL_falls 7 = .ok (.putfield 13, 3) := by decide +kernel
theorem dL_falls_10 : decode cL_falls 10 = .ok (.goto 6, 3) := by decide +kernel
theorem dL_falls_13 : decode cL_falls 13 = .ok (.astore_n 3, 1) := by decide +kernel
theorem dL_falls_14 : decode cL_falls 14 = .ok (.iconst 1, 1) := by decide +kernel
theorem dL_falls_15 : decode cL_falls 15 = .ok (.ireturn, 1) := by decide +kernel
theorem dL_falls_16 : decode cL_falls 16 = .ok (.iconst 0, 1) := by decide +kernel
theorem dL_falls_17 : decode cL_falls 17 = .ok (.ireturn, 1) := by decide +kernel
set_option maxRecDepth 20000 in
theorem ggL_choice_X1_choice : GoodIn wsL_choice wsX1_choice := goodIn_ca (goodIn_ca (goodIn_r _ [7, 8, 9, 10, 11, 6, 12, 13, 14, 15, 16, 17, 18, 19, 20, 21, 22, 23, 24, 25, 26, 27, 28, 29, 30, 31, 32, 33, 34, 35, 36, 37, 38, 39, 40, 41, 42, 43, 44, 45, 46, 47, 48, 49, 50, 51, 52, 53, 54, 55, 56, 57, 58, 59, 60, 61, 62, 63, 64, 65, 66, 67, 68, 69, 70, 71, 72, 73, 74, 75, 76, 77, 78, 79, 80, 81, 82, 83, 84, 85, 88, 89, 90, 91, 92, 93, 94, 95, 96, 97, 98, 99, 100] (by decide +kernel) (by decide +kernel)) (goodIn_sub (fun _ h => List.mem_cons_of_mem _ (List.mem_append_left _ (List.mem_append_right _ h))) (by decide +kernel))) (goodIn_sub (fun _ h => List.mem_cons_of_mem _ (List.mem_append_right _ h)) (by decide +kernel))
set_option maxRecDepth 20000 in
theorem gL_choice_X1_choice : GoodIn wsL_choice (wsV RL 99 RX1 yX1_choice wsX1_choice) := goodIn_app (goodIn_of _ (by decide +kernel)) ggL_choice_X1_choice
theorem dL_choice_0 : decode cL_choice 0 = .ok (.aload 4, 2) := by decide +kernel
theorem dL_choice_2 : decode cL_choice 2 = .ok (.aload_n 0, 1) := by decide +kernel
theorem dL_choice_3 : decode cL_choice 3 = .ok (.iload_n 1, 1) := by decide +kernel
theorem dL_choice_4 : decode cL_choice 4 = .ok (.iload_n 2, 1) := by decide +kernel
theorem dL_choice_5 : decode cL_choice 5 = .ok (.iload_n 3, 1) := by decide +kernel
theorem dL_choice_6 : decode cL_choice 6 = .ok (.invokevirtual 99, 3) := by decide +kernel
theorem dL_choice_9 : decode cL_choice 9 = .ok (.i2l, 1) := by decide +kernel
theorem dL_choice_10 : decode cL_choice 10 = .ok (.putfield 13, 3) := by decide +kernel
theorem dL_choice_13 : decode cL_choice 13 = .ok (.goto 11, 3) := by decide +kernel
theorem dL_choice_16 : decode cL_choice 16 = .ok (.astore 5, 2) := by decide +kernel
theorem dL_choice_18 : decode cL_choice 18 = .ok (.iconst 1, 1) := by decide +kernel
theorem dL_choice_19 : decode cL_choice 19 = .ok (.ireturn, 1) := by decide +kernel
theorem dL_choice_20 : decode cL_choice 20 = .ok (.astore 5, 2) := by decide +kernel
theorem dL_choice_22 : decode cL_choice 22 = .ok (.iconst 2, 1) := by decide +kernel
theorem dL_choice_23 : decode cL_choice 23 = .ok (.ireturn, 1) := by decide +kernel
theorem dL_choice_24 : decode cL_choice 24 = .ok (.iconst 0, 1) := by decide +kernel
theorem dL_choice_25 : decode cL_choice 25 = .ok (.ireturn, 1) := by decide +kernel
set_option maxRecDepth 20000 in
theorem ggL_isSure_X1_isSure : GoodIn wsL_isSure wsX1_isSure := goodIn_ca (goodIn_r _ [6, 7, 8, 5, 9, 10, 11, 12, 13, 14, 15, 16, 17, 18, 19, 20, 21, 22, 23, 24, 25, 26, 27, 28, 29, 30, 31, 32, 33, 34, 35, 36, 37, 38, 39, 40, 41, 42, 43, 44, 45, 46, 47, 48, 49, 50, 51, 52, 53, 54, 55, 56, 57, 58, 59, 60, 61, 62, 63, 64, 65, 66, 67, 68, 69, 70, 71, 72, 73, 74, 75, 76, 77, 78, 79, 80, 81, 82, 83, 84, 85, 86, 87, 90, 91, 92, 93, 94, 95, 96, 97, 98, 99, 100, 101, 102] (by decide +kernel) (by decide +kernel)) (goodIn_sub (fun _ h => List.mem_cons_of_mem _ (List.mem_append_right _ h)) (by decide +kernel))
set_option maxRecDepth 20000 in
theorem gL_isSure_X1_isSure : GoodIn wsL_isSure (wsV RL 103 RX1 yX1_isSure wsX1_isSure) := goodIn_app (goodIn_of _ (by decide +kernel)) ggL_isSure_X1_isSure
theorem dL_isSure_0 : decode cL_isSure 0 = .ok (.aload_n 3, 1) := by decide +kernel
theorem dL_isSure_1 : decode cL_isSure 1 = .ok (.aload_n 0, 1) := by decide +kernel
theorem dL_isSure_2 : decode cL_isSure 2 = .ok (.iload_n 1, 1) := by decide +kernel
theorem dL_isSure_3 : decode cL_isSure 3 = .ok (.iload_n 2, 1) := by decide +kernel
theorem dL_isSure_4 : decode cL_isSure 4 = .ok (.invokevirtual 103, 3) := by decide +kernel
theorem dL_isSure_7 : decode cL_isSure 7 = .ok (.ifCond .eq 7, 3) := by decide +kernel
theorem dL_isSure_10 : decode cL_isSure 10 = .ok (.lconst 1, 1) := by decide +kernel
theorem dL_isSure_11 : decode cL_isSure 11 = .ok (.goto 4, 3) := by decide +kernel
theorem dL_isSure_14 : decode cL_isSure 14 = .ok (.lconst 0, 1) := by decide +kernel
theorem dL_isSure_15 : decode cL_isSure 15 = .ok (.putfield 13, 3) := by decide +kernel
theorem dL_isSure_18 : decode cL_isSure 18 = .ok (.goto 7, 3) := by decide +kernel
theorem dL_isSure_21 : decode cL_isSure 21 = .ok (.astore 4, 2) := by decide +kernel
theorem dL_isSure_23 : decode cL_isSure 23 = .ok (.iconst 1, 1) := by decide +kernel
theorem dL_isSure_24 : decode cL_isSure 24 = .ok (.ireturn, 1) := by decide +kernel
theorem dL_isSure_25 : decode cL_isSure 25 = .ok (.iconst 0, 1) := by decide +kernel
theorem dL_isSure_26 : decode cL_isSure 26 = .ok (.ireturn, 1) := by decide +kernel
set_option maxRecDepth 20000 in
theorem ggL_play_X1_play : GoodIn wsL_play wsX1_play := goodIn_ca (goodIn_ca (goodIn_r _ [7, 8, 9, 10, 11, 12, 13, 14, 6, 15, 16, 17, 18, 19, 20, 21, 22, 23, 24, 25, 26, 27, 28, 29, 30, 31, 32, 33, 34, 35, 36, 37, 38, 39, 40, 41, 42, 43, 44, 45, 46, 47, 48, 49, 50, 51, 52, 53, 54, 55, 56, 57, 58, 59, 60, 61, 62, 63, 64, 65, 66, 67, 68, 69, 70, 71, 72, 73, 74, 75, 76, 77, 78, 79, 80, 81, 82, 83, 84, 85, 86, 87, 88, 89, 90, 91, 92, 93, 94, 95, 96, 97, 98, 99, 100, 101, 102, 103, 104, 105, 106, 107, 108, 109, 110, 111, 112, 113, 114, 115, 116, 117, 118, 119, 120, 121, 122, 123, 124, 125, 126, 127, 128, 129, 130, 131, 132, 133, 134, 135, 136, 137, 138, 139, 140, 141, 142, 143, 144, 145, 146, 147, 148, 149, 150, 151, 152, 153, 154, 155, 156, 157, 158, 159, 160, 161, 162, 163, 164, 165, 166, 167, 168, 169, 170, 171, 172, 173, 174, 175, 176, 177, 178, 179, 180, 181, 182, 183, 184, 185, 186, 187, 188, 189, 190, 191, 192, 193, 194, 195, 196, 197, 198, 199, 200, 201, 202, 203, 204, 205, 206, 207, 208, 209, 210, 211, 212, 213, 214, 215, 216, 217, 218, 219, 220, 221, 222, 223, 224, 225, 226, 227, 228, 229, 230, 231, 232, 233, 234, 235, 236, 237, 238, 239, 240, 241, 242, 243, 244, 245, 246, 247, 248, 249, 250, 251, 252, 253, 254, 255, 256, 257, 258, 259, 260, 261, 262, 263, 264, 265, 266, 267, 268, 269, 270, 271, 272, 273, 274, 275, 276, 277, 278, 279, 280, 281, 282, 283, 284, 285, 286, 287, 288, 289, 290, 291, 292, 293, 294, 295, 296, 297, 298, 299, 300, 301, 302, 303, 304, 305, 306, 307, 308, 309, 310, 311, 312, 315, 316, 317, 318, 319, 320, 321, 322, 323, 324, 325, 326, 327, 328, 329, 330, 331, 332, 333, 334, 335] (by decide +kernel) (by decide +kernel)) (goodIn_sub (fun _ h => List.mem_cons_of_mem _ (List.mem_append_left _ (List.mem_append_right _ h))) (by decide +kernel))) (goodIn_sub (fun _ h => List.mem_cons_of_mem _ (List.mem_append_right _ h)) (by decide +kernel))
set_option maxRecDepth 20000 in
theorem gL_play_X1_play : GoodIn wsL_play (wsV RL 106 RX1 yX1_play wsX1_play) := goodIn_app (goodIn_of _ (by decide +kernel)) ggL_play_X1_play
theorem dL_play_0 : decode cL_play 0 = .ok (.aload_n 3, 1) := by decide +kernel
theorem dL_play_1 : decode cL_play 1 = .ok (.aload_n 0, 1) := by decide +kernel
theorem dL_play_2 : decode cL_play 2 = .ok (.iload_n 1, 1) := by decide +kernel
theorem dL_play_3 : decode cL_play 3 = .ok (.iload_n 2, 1) := by decide +kernel
theorem dL_play_4 : decode cL_play 4 = .ok (.invokevirtual 106, 3) := by decide +kernel
theorem dL_play_7 : decode cL_play 7 = .ok (.putfield 68, 3) := by decide +kernel
theorem dL_play_10 : decode cL_play 10 = .ok (.goto 11, 3) := by decide +kernel
theorem dL_play_13 : decode cL_play 13 = .ok (.astore 4, 2) := by decide +kernel
theorem dL_play_15 : decode cL_play 15 = .ok (.iconst 1, 1) := by decide +kernel
theorem dL_play_16 : decode cL_play 16 = .ok (.ireturn, 1) := by decide +kernel
theorem dL_play_17 : decode cL_play 17 = .ok (.astore 4, 2) := by decide +kernel
theorem dL_play_19 : decode cL_play 19 = .ok (.iconst 2, 1) := by decide +kernel
theorem dL_play_20 : decode cL_play 20 = .ok (.ireturn, 1) := by decide +kernel
theorem dL_play_21 : decode cL_play 21 = .ok (.iconst 0, 1) := by decide +kernel
theorem dL_play_22 : decode cL_play 22 = .ok (.ireturn, 1) := by decide +kernel
set_option maxRecDepth 20000 in
theorem ggL_choices_X1_choices : GoodIn wsL_choices wsX1_choices := goodIn_ca (goodIn_r _ [6, 7, 8, 9, 5, 10, 11, 12, 13, 14, 15, 16, 17, 18, 19, 20, 21, 22, 23, 24, 25, 26, 27, 28, 29, 30, 31, 32, 33, 34, 35, 36, 37, 38, 41, 42, 43, 44, 45, 46, 47, 48, 49, 50, 51, 52, 53] (by decide +kernel) (by decide +kernel)) (goodIn_sub (fun _ h => List.mem_cons_of_mem _ (List.mem_append_right _ h)) (by decide +kernel))
set_option maxRecDepth 20000 in
theorem gL_choices_X1_choices : GoodIn wsL_choices (wsV RL 110 RX1 yX1_choices wsX1_choices) := goodIn_app (goodIn_of _ (by decide +kernel)) ggL_choices_X1_choices
theorem dL_choices_0 : decode cL_choices 0 = .ok (.aload_n 2, 1) := by decide +kernel
theorem dL_choices_1 : decode cL_choices 1 = .ok (.aload_n 0, 1) := by decide +kernel
theorem dL_choices_2 : decode cL_choices 2 = .ok (.iload_n 1, 1) := by decide +kernel
theorem dL_choices_3 : decode cL_choices 3 = .ok (.invokevirtual 110, 3) := by decide +kernel
theorem dL_choices_6 : decode cL_choices 6 = .ok (.i2l, 1) := by decide +kernel
theorem dL_choices_7 : decode cL_choices 7 = .ok (.putfield 13, 3) := by decide +kernel
theorem dL_choices_10 : decode cL_choices 10 = .ok (.goto 6, 3) := by decide +kernel
theorem dL_choices_13 : decode cL_choices 13 = .ok (.astore_n 3, 1) := by decide +kernel
theorem dL_choices_14 : decode cL_choices 14 = .ok (.iconst 1, 1) := by decide +kernel
theorem dL_choices_15 : decode cL_choices 15 = .ok (.ireturn, 1) := by decide +kernel
theorem dL_choices_16 : decode cL_choices 16 = .ok (.iconst 0, 1) := by decide +kernel
theorem dL_choices_17 : decode cL_choices 17 = .ok (.ireturn, 1) := by decide +kernel
set_option maxRecDepth 20000 in
theorem ggL_tried_X1_tried : GoodIn wsL_tried wsX1_tried := goodIn_ca (goodIn_r _ [6, 7, 8, 9, 10, 5, 11, 12, 13, 14, 15, 16, 17, 18, 19, 20, 21, 22, 23, 24, 25, 26, 27, 28, 29, 30, 31, 32, 33, 34, 35, 36, 37, 38, 39, 40, 41, 42, 43, 44, 45, 46, 47, 48, 49, 50, 51, 52, 53, 54, 55, 56, 57, 58, 59, 60, 61, 62, 63, 64, 65, 66, 67, 68, 69, 70, 71, 72, 73, 74, 75, 76, 77, 78, 79, 80, 81, 82, 83, 84, 85, 86, 87, 88, 89, 90, 91, 94, 95, 96, 97, 98, 99, 100, 101, 102, 103, 104, 105, 106] (by decide +kernel) (by decide +kernel)) (goodIn_sub (fun _ h => List.mem_cons_of_mem _ (List.mem_append_right _ h)) (by decide +kernel))
set_option maxRecDepth 20000 in
theorem gL_tried_X1_tried : GoodIn wsL_tried (wsV RL 113 RX1 yX1_tried wsX1_tried) := goodIn_app (goodIn_of _ (by decide +kernel)) ggL_tried_X1_tried
theorem dL_tried_0 : decode cL_tried 0 = .ok (.aload_n 3, 1) := by decide +kernel
theorem dL_tried_1 : decode cL_tried 1 = .ok (.aload_n 0, 1) := by decide +kernel
theorem dL_tried_2 : decode cL_tried 2 = .ok (.iload_n 1, 1) := by decide +kernel
theorem dL_tried_3 : decode cL_tried 3 = .ok (.iload_n 2, 1) := by decide +kernel
theorem dL_tried_4 : decode cL_tried 4 = .ok (.invokevirtual 113, 3) := by decide +kernel
theorem dL_tried_7 : decode cL_tried 7 = .ok (.i2l, 1) := by decide +kernel
theorem dL_tried_8 : decode cL_tried 8 = .ok (.putfield 13, 3) := by decide +kernel
theorem dL_tried_11 : decode cL_tried 11 = .ok (.goto 7, 3) := by decide +kernel
theorem dL_tried_14 : decode cL_tried 14 = .ok (.astore 4, 2) := by decide +kernel
theorem dL_tried_16 : decode cL_tried 16 = .ok (.iconst 1, 1) := by decide +kernel
theorem dL_tried_17 : decode cL_tried 17 = .ok (.ireturn, 1) := by decide +kernel
theorem dL_tried_18 : decode cL_tried 18 = .ok (.iconst 0, 1) := by decide +kernel
theorem dL_tried_19 : decode cL_tried 19 = .ok (.ireturn, 1) := by decide +kernel
set_option maxRecDepth 20000 in
theorem ggL_withGoal_X1_withGoal : GoodIn wsL_withGoal wsX1_withGoal := goodIn_ca (goodIn_ca (goodIn_r _ [7, 8, 9, 10, 11, 12, 6, 13, 14, 15, 16, 17, 18, 19, 20, 21, 22, 23, 24, 25, 26, 27, 28, 29, 30, 31, 32, 33, 34, 35, 36, 37, 38, 39, 40, 41, 42, 43, 44, 45, 46, 47, 48, 49, 50, 51, 52, 53, 54, 55, 56, 57, 58, 59, 60, 61, 62, 63, 64, 65, 66, 69, 70, 71, 72, 73, 74, 75, 76, 77, 78, 79, 80, 81] (by decide +kernel) (by decide +kernel)) (goodIn_sub (fun _ h => List.mem_cons_of_mem _ (List.mem_append_left _ (List.mem_append_right _ h))) (by decide +kernel))) (goodIn_sub (fun _ h => List.mem_cons_of_mem _ (List.mem_append_right _ h)) (by decide +kernel))
set_option maxRecDepth 20000 in
theorem gL_withGoal_X1_withGoal : GoodIn wsL_withGoal (wsV RL 116 RX1 yX1_withGoal wsX1_withGoal) := goodIn_app (goodIn_of _ (by decide +kernel)) ggL_withGoal_X1_withGoal
theorem dL_withGoal_0 : decode cL_withGoal 0 = .ok (.aload 4, 2) := by decide +kernel
theorem dL_withGoal_2 : decode cL_withGoal 2 = .ok (.aload_n 0, 1) := by decide +kernel
theorem dL_withGoal_3 : decode cL_withGoal 3 = .ok (.iload_n 1, 1) := by decide +kernel
theorem dL_withGoal_4 : decode cL_withGoal 4 = .ok (.iload_n 2, 1) := by decide +kernel
theorem dL_withGoal_5 : decode cL_withGoal 5 = .ok (.iload_n 3, 1) := by decide +kernel
theorem dL_withGoal_6 : decode cL_withGoal 6 = .ok (.invokevirtual 116, 3) := by decide +kernel
theorem dL_withGoal_9 : decode cL_withGoal 9 = .ok (.i2l, 1) := by decide +kernel
theorem dL_withGoal_10 : decode cL_withGoal 10 = .ok (.putfield 13, 3) := by decide +kernel
theorem dL_withGoal_13 : decode cL_withGoal 13 = .ok (.goto 11, 3) := by decide +kernel
theorem dL_withGoal_16 : decode cL_withGoal 16 = .ok (.astore 5, 2) := by decide +kernel
theorem dL_withGoal_18 : decode cL_withGoal 18 = .ok (.iconst 1, 1) := by decide +kernel
theorem dL_withGoal_19 : decode cL_withGoal 19 = .ok (.ireturn, 1) := by decide +kernel
theorem dL_withGoal_20 : decode cL_withGoal 20 = .ok (.astore 5, 2) := by decide +kernel
theorem dL_withGoal_22 : decode cL_withGoal 22 = .ok (.iconst 2, 1) := by decide +kernel
theorem dL_withGoal_23 : decode cL_withGoal 23 = .ok (.ireturn, 1) := by decide +kernel
theorem dL_withGoal_24 : decode cL_withGoal 24 = .ok (.iconst 0, 1) := by decide +kernel
theorem dL_withGoal_25 : decode cL_withGoal 25 = .ok (.ireturn, 1) := by decide +kernel
set_option maxRecDepth 20000 in
theorem ggL_withWay_X1_withWay : GoodIn wsL_withWay wsX1_withWay := goodIn_ca (goodIn_ca (goodIn_r _ [7, 8, 9, 10, 11, 12, 6, 13, 14, 15, 16, 17, 18, 19, 20, 21, 22, 23, 24, 25, 26, 27, 28, 29, 30, 31, 32, 33, 34, 35, 36, 37, 38, 39, 40, 41, 42, 43, 44, 45, 46, 47, 48, 49, 50, 51, 52, 53, 54, 55, 56, 57, 58, 59, 60, 61, 62, 63, 64, 65, 66, 67, 68, 69, 70, 71, 72, 73, 74, 77, 78, 79, 80, 81, 82, 83, 84, 85, 86, 87, 88, 89] (by decide +kernel) (by decide +kernel)) (goodIn_sub (fun _ h => List.mem_cons_of_mem _ (List.mem_append_left _ (List.mem_append_right _ h))) (by decide +kernel))) (goodIn_sub (fun _ h => List.mem_cons_of_mem _ (List.mem_append_right _ h)) (by decide +kernel))
set_option maxRecDepth 20000 in
theorem gL_withWay_X1_withWay : GoodIn wsL_withWay (wsV RL 119 RX1 yX1_withWay wsX1_withWay) := goodIn_app (goodIn_of _ (by decide +kernel)) ggL_withWay_X1_withWay
theorem dL_withWay_0 : decode cL_withWay 0 = .ok (.aload 5, 2) := by decide +kernel
theorem dL_withWay_2 : decode cL_withWay 2 = .ok (.aload_n 0, 1) := by decide +kernel
theorem dL_withWay_3 : decode cL_withWay 3 = .ok (.iload_n 1, 1) := by decide +kernel
theorem dL_withWay_4 : decode cL_withWay 4 = .ok (.iload_n 2, 1) := by decide +kernel
theorem dL_withWay_5 : decode cL_withWay 5 = .ok (.iload_n 3, 1) := by decide +kernel
theorem dL_withWay_6 : decode cL_withWay 6 = .ok (.iload 4, 2) := by decide +kernel
theorem dL_withWay_8 : decode cL_withWay 8 = .ok (.invokevirtual 119, 3) := by decide +kernel
theorem dL_withWay_11 : decode cL_withWay 11 = .ok (.i2l, 1) := by decide +kernel
theorem dL_withWay_12 : decode cL_withWay 12 = .ok (.putfield 13, 3) := by decide +kernel
theorem dL_withWay_15 : decode cL_withWay 15 = .ok (.goto 11, 3) := by decide +kernel
theorem dL_withWay_18 : decode cL_withWay 18 = .ok (.astore 6, 2) := by decide +kernel
theorem dL_withWay_20 : decode cL_withWay 20 = .ok (.iconst 1, 1) := by decide +kernel
theorem dL_withWay_21 : decode cL_withWay 21 = .ok (.ireturn, 1) := by decide +kernel
theorem dL_withWay_22 : decode cL_withWay 22 = .ok (.astore 6, 2) := by decide +kernel
theorem dL_withWay_24 : decode cL_withWay 24 = .ok (.iconst 2, 1) := by decide +kernel
theorem dL_withWay_25 : decode cL_withWay 25 = .ok (.ireturn, 1) := by decide +kernel
theorem dL_withWay_26 : decode cL_withWay 26 = .ok (.iconst 0, 1) := by decide +kernel
theorem dL_withWay_27 : decode cL_withWay 27 = .ok (.ireturn, 1) := by decide +kernel
set_option maxRecDepth 20000 in
theorem ggL_house_X1_house : GoodIn wsL_house wsX1_house := goodIn_ca (goodIn_r _ [6, 7, 8, 9, 10, 11, 5, 12, 13, 14, 17, 18, 19, 20, 21, 22, 23] (by decide +kernel) (by decide +kernel)) (goodIn_sub (fun _ h => List.mem_cons_of_mem _ (List.mem_append_right _ h)) (by decide +kernel))
set_option maxRecDepth 20000 in
theorem gL_house_X1_house : GoodIn wsL_house (wsV RL 123 RX1 yX1_house wsX1_house) := goodIn_app (goodIn_of _ (by decide +kernel)) ggL_house_X1_house
theorem dL_house_0 : decode cL_house 0 = .ok (.aload_n 2, 1) := by decide +kernel
theorem dL_house_1 : decode cL_house 1 = .ok (.aload_n 0, 1) := by decide +kernel
theorem dL_house_2 : decode cL_house 2 = .ok (.iload_n 1, 1) := by decide +kernel
theorem dL_house_3 : decode cL_house 3 = .ok (.invokevirtual 123, 3) := by decide +kernel
theorem dL_house_6 : decode cL_house 6 = .ok (.i2l, 1) := by decide +kernel
theorem dL_house_7 : decode cL_house 7 = .ok (.putfield 13, 3) := by decide +kernel
theorem dL_house_10 : decode cL_house 10 = .ok (.goto 6, 3) := by decide +kernel
theorem dL_house_13 : decode cL_house 13 = .ok (.astore_n 3, 1) := by decide +kernel
theorem dL_house_14 : decode cL_house 14 = .ok (.iconst 1, 1) := by decide +kernel
theorem dL_house_15 : decode cL_house 15 = .ok (.ireturn, 1) := by decide +kernel
theorem dL_house_16 : decode cL_house 16 = .ok (.iconst 0, 1) := by decide +kernel
theorem dL_house_17 : decode cL_house 17 = .ok (.ireturn, 1) := by decide +kernel
set_option maxRecDepth 20000 in
theorem ggL_law_X1_init : GoodIn wsL_law wsX1_init := goodIn_r _ [11, 12, 13, 14, 15, 16, 17, 18, 19, 20, 21, 22, 23, 24, 25, 26, 1037, 1038, 1039, 1040, 1041, 1042, 1017, 1018, 1019, 1020, 1021, 1022, 1023] (by decide +kernel) (by decide +kernel)
set_option maxRecDepth 20000 in
theorem gL_law_X1_init : GoodIn wsL_law (wsX1_init) := ggL_law_X1_init
set_option maxRecDepth 20000 in
theorem ggL_law_X3_init : GoodIn wsL_law wsX3_init := goodIn_r _ [29, 30, 13, 14, 31, 32, 33, 5, 34, 35, 36, 37, 24, 38, 39, 40, 41, 1024, 1025, 1026, 1027, 1028, 1029, 1030, 1031, 1032, 1033, 1034] (by decide +kernel) (by decide +kernel)
set_option maxRecDepth 20000 in
theorem gL_law_X3_init : GoodIn wsL_law (wsX3_init) := ggL_law_X3_init
set_option maxRecDepth 20000 in
theorem ggL_law_X2_init : GoodIn wsL_law wsX2_init := goodIn_r _ [43, 44, 13, 14] (by decide +kernel) (by decide +kernel)
set_option maxRecDepth 20000 in
theorem gL_law_X2_init_n130 : GoodIn wsL_law (wsX2_init) := ggL_law_X2_init
set_option maxRecDepth 20000 in
theorem ggL_law_L_places : GoodIn wsL_law wsL_places := goodIn_ca (goodIn_r _ [48, 49, 50, 51, 52, 2, 53, 18, 54, 55, 56, 57, 58, 59, 60, 61, 62, 63, 64, 17, 65, 26, 66, 67, 68, 69, 25, 1035, 1036, 1017, 1018, 1019, 1020, 1021, 1022, 1023, 1037, 1038, 1039, 1040, 1041, 1042] (by decide +kernel) (by decide +kernel)) (goodIn_sub (fun _ h => List.mem_append_left _ (List.mem_append_right _ h)) (by decide +kernel))
set_option maxRecDepth 20000 in
theorem gL_law_L_places : GoodIn wsL_law (va_wsS RL 131 yL_places wsL_places) := goodIn_app (goodIn_of _ (by decide +kernel)) ggL_law_L_places
set_option maxRecDepth 20000 in
theorem ggL_law_X3_places : GoodIn wsL_law wsX3_places := goodIn_r _ [73, 35, 74, 75, 76, 5, 77, 78, 79, 80, 81, 82, 31, 32, 33, 34, 36, 37, 24, 38, 39, 40, 41, 83, 84, 85, 86, 87, 1024, 1025, 1026, 1027, 1028, 1029, 1030, 1031, 1032, 1033, 1034] (by decide +kernel) (by decide +kernel)
set_option maxRecDepth 20000 in
theorem gL_law_X3_places : GoodIn wsL_law (wsV RL 136 RX3 yX3_places wsX3_places) := goodIn_app (goodIn_of _ (by decide +kernel)) ggL_law_X3_places
set_option maxRecDepth 20000 in
theorem ggL_law_L_give : GoodIn wsL_law wsL_give := goodIn_ca (goodIn_ca (goodIn_r _ [90, 91, 49, 92, 93, 94, 2, 95, 18, 56, 96, 97, 98, 99, 100, 101, 102, 103, 104, 57, 58, 59, 60, 61, 105, 106, 107, 17, 108, 66, 109, 110, 111, 112, 1035, 1036, 1017, 1018, 1019, 1020, 1021, 1022, 1023, 1037, 1038, 1039, 1040, 1041, 1042] (by decide +kernel) (by decide +kernel)) (goodIn_sub (fun _ h => List.mem_append_right _ h) (by decide +kernel))) (goodIn_sub (fun _ h => List.mem_append_left _ (List.mem_append_right _ h)) (by decide +kernel))
set_option maxRecDepth 20000 in
theorem gL_law_L_give : GoodIn wsL_law (va_wsS RL 137 yL_give wsL_give) := goodIn_app (goodIn_of _ (by decide +kernel)) ggL_law_L_give
set_option maxRecDepth 20000 in
theorem ggL_law_X3_give : GoodIn wsL_law wsX3_give := goodIn_r _ [116, 36, 117, 118, 119, 5, 120, 35, 121, 122, 123, 78, 79, 80, 81, 82, 124, 125, 126, 127, 83, 84, 85, 86, 87, 1024, 1025, 1026, 1027, 1028, 1029, 1030, 1031, 1032, 1033, 1034] (by decide +kernel) (by decide +kernel)
set_option maxRecDepth 20000 in
theorem gL_law_X3_give : GoodIn wsL_law (wsV RL 140 RX3 yX3_give wsX3_give) := goodIn_app (goodIn_of _ (by decide +kernel)) ggL_law_X3_give
set_option maxRecDepth 20000 in
theorem ggL_law_L_rank : GoodIn wsL_law wsL_rank := goodIn_ca (goodIn_ca (goodIn_r _ [130, 91, 49, 131, 132, 133, 2, 134, 18, 56, 96, 97, 98, 99, 100, 101, 57, 58, 59, 60, 61, 135, 136, 137, 17, 138, 68, 69, 139, 140, 141, 142, 143, 144, 1035, 1036, 1017, 1018, 1019, 1020, 1021, 1022, 1023, 1037, 1038, 1039, 1040, 1041, 1042] (by decide +kernel) (by decide +kernel)) (goodIn_sub (fun _ h => List.mem_append_right _ h) (by decide +kernel))) (goodIn_sub (fun _ h => List.mem_append_left _ (List.mem_append_right _ h)) (by decide +kernel))
set_option maxRecDepth 20000 in
theorem gL_law_L_rank : GoodIn wsL_law (va_wsS RL 141 yL_rank wsL_rank) := goodIn_app (goodIn_of _ (by decide +kernel)) ggL_law_L_rank
set_option maxRecDepth 20000 in
theorem ggL_law_X3_rank : GoodIn wsL_law wsX3_rank := goodIn_r _ [148, 38, 117, 118, 119, 5, 120, 35, 78, 79, 80, 81, 82, 83, 84, 85, 86, 87, 1024, 1025, 1026, 1027, 1028, 1029, 1030, 1031, 1032, 1033, 1034] (by decide +kernel) (by decide +kernel)
set_option maxRecDepth 20000 in
theorem gL_law_X3_rank : GoodIn wsL_law (wsV RL 143 RX3 yX3_rank wsX3_rank) := goodIn_app (goodIn_of _ (by decide +kernel)) ggL_law_X3_rank
set_option maxRecDepth 20000 in
theorem ggL_law_L_goal : GoodIn wsL_law wsL_goal := goodIn_ca (goodIn_r _ [151, 49, 152, 153, 154, 2, 155, 18, 56, 156, 157, 158, 159, 160, 161, 162, 17, 163, 26, 57, 58, 59, 60, 61, 1035, 1036, 1017, 1018, 1019, 1020, 1021, 1022, 1023, 1037, 1038, 1039, 1040, 1041, 1042] (by decide +kernel) (by decide +kernel)) (goodIn_sub (fun _ h => List.mem_append_left _ (List.mem_append_right _ h)) (by decide +kernel))
set_option maxRecDepth 20000 in
theorem gL_law_L_goal : GoodIn wsL_law (va_wsS RL 144 yL_goal wsL_goal) := goodIn_app (goodIn_of _ (by decide +kernel)) ggL_law_L_goal
set_option maxRecDepth 20000 in
theorem ggL_law_X3_goal : GoodIn wsL_law wsX3_goal := goodIn_r _ [167, 37, 168, 169, 170, 5, 171, 35, 74, 75, 76, 77, 78, 79, 80, 81, 82, 83, 84, 85, 86, 87, 1024, 1025, 1026, 1027, 1028, 1029, 1030, 1031, 1032, 1033, 1034] (by decide +kernel) (by decide +kernel)
set_option maxRecDepth 20000 in
theorem gL_law_X3_goal : GoodIn wsL_law (wsV RL 146 RX3 yX3_goal wsX3_goal) := goodIn_app (goodIn_of _ (by decide +kernel)) ggL_law_X3_goal
set_option maxRecDepth 20000 in
theorem ggL_law_L_way : GoodIn wsL_law wsL_way := goodIn_ca (goodIn_r _ [174, 91, 175, 176, 177, 2, 178, 18, 56, 96, 97, 98, 99, 100, 101, 179, 180, 181, 17, 182, 25, 183, 139, 140, 184, 185, 186, 187, 26, 188, 189, 190, 191, 192, 193, 194, 195, 196, 197, 198, 199, 200, 201, 202, 203, 204, 205, 206, 207, 208, 1035, 1036, 1017, 1018, 1019, 1020, 1021, 1022, 1023, 1037, 1038, 1039, 1040, 1041, 1042] (by decide +kernel) (by decide +kernel)) (goodIn_sub (fun _ h => List.mem_append_right _ h) (by decide +kernel))
set_option maxRecDepth 20000 in
theorem gL_law_L_way : GoodIn wsL_law (va_wsS RL 147 yL_way wsL_way) := goodIn_app (goodIn_of _ (by decide +kernel)) ggL_law_L_way
set_option maxRecDepth 20000 in
theorem ggL_law_X3_way : GoodIn wsL_law wsX3_way := goodIn_r _ [212, 39, 117, 118, 119, 5, 120, 35, 74, 75, 76, 77, 78, 79, 80, 81, 82, 213, 214, 215, 83, 84, 85, 86, 87, 216, 217, 218, 219, 220, 190, 191, 192, 193, 194, 195, 221, 222, 223, 224, 225, 1024, 1025, 1026, 1027, 1028, 1029, 1030, 1031, 1032, 1033, 1034] (by decide +kernel) (by decide +kernel)
set_option maxRecDepth 20000 in
theorem gL_law_X3_way : GoodIn wsL_law (wsV RL 149 RX3 yX3_way wsX3_way) := goodIn_app (goodIn_of _ (by decide +kernel)) ggL_law_X3_way
set_option maxRecDepth 20000 in
theorem ggL_law_L_lose : GoodIn wsL_law wsL_lose := goodIn_ca (goodIn_r _ [228, 91, 229, 230, 231, 2, 232, 18, 56, 96, 97, 98, 99, 100, 101, 179, 180, 181, 17, 182, 25, 183, 139, 140, 233, 234, 235, 236, 188, 205, 206, 207, 208, 1035, 1036, 1017, 1018, 1019, 1020, 1021, 1022, 1023, 1037, 1038, 1039, 1040, 1041, 1042] (by decide +kernel) (by decide +kernel)) (goodIn_sub (fun _ h => List.mem_append_right _ h) (by decide +kernel))
set_option maxRecDepth 20000 in
theorem gL_law_L_lose : GoodIn wsL_law (va_wsS RL 150 yL_lose wsL_lose) := goodIn_app (goodIn_of _ (by decide +kernel)) ggL_law_L_lose
set_option maxRecDepth 20000 in
theorem ggL_law_X3_lose : GoodIn wsL_law wsX3_lose := goodIn_r _ [240, 39, 117, 118, 119, 5, 120, 35, 74, 75, 76, 77, 78, 79, 80, 81, 82, 213, 214, 215, 83, 84, 85, 86, 87, 1024, 1025, 1026, 1027, 1028, 1029, 1030, 1031, 1032, 1033, 1034] (by decide +kernel) (by decide +kernel)
set_option maxRecDepth 20000 in
theorem gL_law_X3_lose : GoodIn wsL_law (wsV RL 152 RX3 yX3_lose wsX3_lose) := goodIn_app (goodIn_of _ (by decide +kernel)) ggL_law_X3_lose
set_option maxRecDepth 20000 in
theorem ggL_law_L_circle : GoodIn wsL_law wsL_circle := goodIn_ca (goodIn_r _ [243, 49, 244, 245, 246, 2, 247, 18, 19, 56, 57, 58, 59, 60, 61, 184, 185, 186, 17, 187, 26, 188, 180, 181, 182, 25, 189, 190, 191, 192, 193, 194, 195, 248, 249, 250, 251, 66, 67, 68, 69, 252, 253, 254, 255, 201, 202, 203, 204, 205, 206, 207, 208, 196, 197, 198, 199, 200, 1035, 1036, 1017, 1018, 1019, 1020, 1021, 1022, 1023, 1037, 1038, 1039, 1040, 1041, 1042] (by decide +kernel) (by decide +kernel)) (goodIn_sub (fun _ h => List.mem_append_left _ (List.mem_append_right _ h)) (by decide +kernel))
set_option maxRecDepth 20000 in
theorem gL_law_L_circle : GoodIn wsL_law (va_wsS RL 153 yL_circle wsL_circle) := goodIn_app (goodIn_of _ (by decide +kernel)) ggL_law_L_circle
set_option maxRecDepth 20000 in
theorem ggL_law_X3_circle : GoodIn wsL_law wsX3_circle := goodIn_r _ [259, 35, 39, 74, 75, 76, 5, 77, 78, 79, 80, 81, 82, 213, 214, 215, 216, 217, 218, 219, 220, 190, 191, 192, 193, 194, 195, 221, 222, 223, 224, 225, 83, 84, 85, 86, 87, 1024, 1025, 1026, 1027, 1028, 1029, 1030, 1031, 1032, 1033, 1034] (by decide +kernel) (by decide +kernel)
set_option maxRecDepth 20000 in
theorem gL_law_X3_circle : GoodIn wsL_law (wsV RL 155 RX3 yX3_circle wsX3_circle) := goodIn_app (goodIn_of _ (by decide +kernel)) ggL_law_X3_circle
set_option maxRecDepth 20000 in
theorem ggL_law_L_strew : GoodIn wsL_law wsL_strew := goodIn_ca (goodIn_r _ [262, 49, 263, 264, 265, 2, 266, 18, 56, 57, 58, 59, 60, 61, 62, 63, 64, 17, 65, 26, 66, 67, 68, 69, 25, 109, 110, 111, 112, 141, 142, 143, 144, 252, 253, 254, 255, 201, 202, 203, 204, 188, 180, 181, 182, 205, 206, 207, 208, 184, 185, 186, 187, 189, 190, 191, 192, 193, 194, 195, 1035, 1036, 1017, 1018, 1019, 1020, 1021, 1022, 1023, 1037, 1038, 1039, 1040, 1041, 1042] (by decide +kernel) (by decide +kernel)) (goodIn_sub (fun _ h => List.mem_append_left _ (List.mem_append_right _ h)) (by decide +kernel))
set_option maxRecDepth 20000 in
theorem gL_law_L_strew : GoodIn wsL_law (va_wsS RL 156 yL_strew wsL_strew) := goodIn_app (goodIn_of _ (by decide +kernel)) ggL_law_L_strew
set_option maxRecDepth 20000 in
theorem ggL_law_X3_strew : GoodIn wsL_law wsX3_strew := goodIn_r _ [270, 36, 37, 35, 38, 39, 74, 75, 76, 5, 77, 78, 79, 80, 81, 82, 216, 217, 218, 219, 220, 190, 191, 192, 193, 194, 195, 83, 84, 85, 86, 87, 1024, 1025, 1026, 1027, 1028, 1029, 1030, 1031, 1032, 1033, 1034] (by decide +kernel) (by decide +kernel)
set_option maxRecDepth 20000 in
theorem gL_law_X3_strew : GoodIn wsL_law (wsV RL 158 RX3 yX3_strew wsX3_strew) := goodIn_app (goodIn_of _ (by decide +kernel)) ggL_law_X3_strew
set_option maxRecDepth 20000 in
theorem ggL_law_X1_change : GoodIn wsL_law wsX1_change := goodIn_r _ [274, 18, 56, 160, 161, 162, 17, 163, 26, 275, 276, 277, 278, 66, 279, 280, 190, 191, 192, 193, 194, 195, 1017, 1018, 1019, 1020, 1021, 1022, 1023, 1037, 1038, 1039, 1040, 1041, 1042] (by decide +kernel) (by decide +kernel)
set_option maxRecDepth 20000 in
theorem gL_law_X1_change : GoodIn wsL_law (wsV RL 159 RX1 yX1_change wsX1_change) := goodIn_app (goodIn_of _ (by decide +kernel)) ggL_law_X1_change
set_option maxRecDepth 20000 in
theorem ggL_law_X3_change : GoodIn wsL_law wsX3_change := goodIn_r _ [284, 82, 36, 35, 168, 169, 170, 5, 171, 220, 190, 191, 192, 193, 194, 195, 83, 84, 85, 86, 87, 1024, 1025, 1026, 1027, 1028, 1029, 1030, 1031, 1032, 1033, 1034] (by decide +kernel) (by decide +kernel)
set_option maxRecDepth 20000 in
theorem gL_law_X3_change : GoodIn wsL_law (wsV RL 163 RX3 yX3_change wsX3_change) := goodIn_app (goodIn_of _ (by decide +kernel)) ggL_law_X3_change
set_option maxRecDepth 20000 in
theorem ggL_law_L_stand : GoodIn wsL_law wsL_stand := goodIn_ca (goodIn_r _ [287, 91, 288, 289, 290, 2, 291, 54, 55, 56, 96, 97, 98, 99, 100, 101, 18, 1035, 1036, 1017, 1018, 1019, 1020, 1021, 1022, 1023, 1037, 1038, 1039, 1040, 1041, 1042] (by decide +kernel) (by decide +kernel)) (goodIn_sub (fun _ h => List.mem_append_right _ h) (by decide +kernel))
set_option maxRecDepth 20000 in
theorem gL_law_L_stand : GoodIn wsL_law (va_wsS RL 164 yL_stand wsL_stand) := goodIn_app (goodIn_of _ (by decide +kernel)) ggL_law_L_stand
set_option maxRecDepth 20000 in
theorem ggL_law_X3_stand : GoodIn wsL_law wsX3_stand := goodIn_r _ [295, 40, 41, 117, 118, 119, 5, 120, 35, 74, 75, 76, 77, 78, 79, 80, 81, 82, 83, 84, 85, 86, 87, 1024, 1025, 1026, 1027, 1028, 1029, 1030, 1031, 1032, 1033, 1034] (by decide +kernel) (by decide +kernel)
set_option maxRecDepth 20000 in
theorem gL_law_X3_stand : GoodIn wsL_law (wsV RL 166 RX3 yX3_stand wsX3_stand) := goodIn_app (goodIn_of _ (by decide +kernel)) ggL_law_X3_stand
set_option maxRecDepth 20000 in
theorem ggL_law_L_go : GoodIn wsL_law wsL_go := goodIn_ca (goodIn_r _ [298, 91, 299, 300, 301, 2, 302, 18, 54, 55, 96, 97, 98, 99, 100, 101, 179, 180, 181, 17, 182, 25, 183, 139, 140, 196, 197, 198, 199, 200, 303, 304, 305, 306, 56, 1035, 1036, 1017, 1018, 1019, 1020, 1021, 1022, 1023, 1037, 1038, 1039, 1040, 1041, 1042] (by decide +kernel) (by decide +kernel)) (goodIn_sub (fun _ h => List.mem_append_right _ h) (by decide +kernel))
set_option maxRecDepth 20000 in
theorem gL_law_L_go : GoodIn wsL_law (va_wsS RL 167 yL_go wsL_go) := goodIn_app (goodIn_of _ (by decide +kernel)) ggL_law_L_go
set_option maxRecDepth 20000 in
theorem ggL_law_X3_go : GoodIn wsL_law wsX3_go := goodIn_r _ [310, 39, 40, 41, 117, 118, 119, 5, 120, 35, 74, 75, 76, 77, 78, 79, 80, 81, 82, 213, 214, 215, 221, 222, 223, 224, 225, 83, 84, 85, 86, 87, 1024, 1025, 1026, 1027, 1028, 1029, 1030, 1031, 1032, 1033, 1034] (by decide +kernel) (by decide +kernel)
set_option maxRecDepth 20000 in
theorem gL_law_X3_go : GoodIn wsL_law (wsV RL 169 RX3 yX3_go wsX3_go) := goodIn_app (goodIn_of _ (by decide +kernel)) ggL_law_X3_go
set_option maxRecDepth 20000 in
theorem ggL_law_L_follow : GoodIn wsL_law wsL_follow := goodIn_ca (goodIn_r _ [313, 49, 314, 315, 316, 2, 317, 18, 54, 57, 58, 59, 60, 61, 105, 106, 107, 17, 108, 66, 318, 319, 320, 321, 322, 323, 324, 325, 67, 326, 327, 328, 329, 330, 331, 332, 333, 26, 25, 279, 161, 162, 163, 334, 335, 336, 337, 338, 339, 340, 341, 68, 69, 342, 343, 344, 345, 346, 347, 348, 349, 350, 276, 277, 278, 139, 140, 188, 180, 181, 182, 351, 352, 353, 354, 355, 183, 356, 357, 358, 359, 196, 197, 198, 199, 200, 303, 304, 305, 306, 55, 56, 1035, 1036, 1017, 1018, 1019, 1020, 1021, 1022, 1023, 1037, 1038, 1039, 1040, 1041, 1042] (by decide +kernel) (by decide +kernel)) (goodIn_sub (fun _ h => List.mem_append_left _ (List.mem_append_right _ h)) (by decide +kernel))
set_option maxRecDepth 20000 in
theorem gL_law_L_follow : GoodIn wsL_law (va_wsS RL 170 yL_follow wsL_follow) := goodIn_app (goodIn_of _ (by decide +kernel)) ggL_law_L_follow
set_option maxRecDepth 20000 in
theorem ggL_law_X3_follow : GoodIn wsL_law wsX3_follow := goodIn_r _ [363, 40, 41, 74, 75, 76, 5, 77, 78, 79, 80, 81, 82, 124, 125, 126, 127, 36, 364, 365, 366, 367, 37, 35, 39, 368, 369, 370, 371, 372, 373, 374, 375, 376, 377, 378, 379, 380, 381, 382, 383, 384, 385, 386, 387, 168, 169, 170, 171, 388, 389, 390, 391, 392, 393, 394, 395, 396, 397, 398, 399, 400, 401, 402, 403, 38, 213, 214, 215, 404, 405, 406, 407, 221, 222, 223, 224, 225, 83, 84, 85, 86, 87, 1024, 1025, 1026, 1027, 1028, 1029, 1030, 1031, 1032, 1033, 1034] (by decide +kernel) (by decide +kernel)
set_option maxRecDepth 20000 in
theorem gL_law_X3_follow : GoodIn wsL_law (wsV RL 172 RX3 yX3_follow wsX3_follow) := goodIn_app (goodIn_of _ (by decide +kernel)) ggL_law_X3_follow
set_option maxRecDepth 20000 in
theorem ggL_law_L_told : GoodIn wsL_law wsL_told := goodIn_ca (goodIn_r _ [410, 49, 411, 412, 413, 2, 414, 18, 54, 55, 57, 58, 59, 60, 61, 184, 185, 186, 17, 187, 26, 188, 180, 181, 182, 25, 189, 190, 191, 192, 193, 194, 195, 275, 276, 277, 278, 66, 279, 161, 162, 163, 415, 416, 417, 418, 1035, 1036, 1017, 1018, 1019, 1020, 1021, 1022, 1023, 1037, 1038, 1039, 1040, 1041, 1042] (by decide +kernel) (by decide +kernel)) (goodIn_sub (fun _ h => List.mem_append_left _ (List.mem_append_right _ h)) (by decide +kernel))
set_option maxRecDepth 20000 in
theorem gL_law_L_told : GoodIn wsL_law (va_wsS RL 173 yL_told wsL_told) := goodIn_app (goodIn_of _ (by decide +kernel)) ggL_law_L_told
set_option maxRecDepth 20000 in
theorem ggL_law_X3_told : GoodIn wsL_law wsX3_told := goodIn_r _ [422, 74, 75, 76, 5, 77, 78, 79, 80, 81, 82, 423, 424, 425, 426, 35, 37, 36, 40, 41, 216, 217, 218, 219, 39, 220, 190, 191, 192, 193, 194, 195, 427, 428, 429, 430, 1024, 1025, 1026, 1027, 1028, 1029, 1030, 1031, 1032, 1033, 1034] (by decide +kernel) (by decide +kernel)
set_option maxRecDepth 20000 in
theorem gL_law_X3_told : GoodIn wsL_law (wsV RL 175 RX3 yX3_told wsX3_told) := goodIn_app (goodIn_of _ (by decide +kernel)) ggL_law_X3_told
set_option maxRecDepth 20000 in
theorem ggL_law_L_ofPlace : GoodIn wsL_law wsL_ofPlace := goodIn_ca (goodIn_ca (goodIn_r _ [433, 91, 49, 434, 435, 436, 2, 437, 18, 96, 97, 98, 99, 100, 101, 57, 58, 59, 60, 61, 105, 106, 107, 17, 108, 66, 135, 136, 137, 138, 68, 69, 139, 140, 183, 179, 180, 181, 182, 25, 438, 439, 440, 441, 26, 188, 1035, 1036, 1017, 1018, 1019, 1020, 1021, 1022, 1023, 1037, 1038, 1039, 1040, 1041, 1042] (by decide +kernel) (by decide +kernel)) (goodIn_sub (fun _ h => List.mem_append_right _ h) (by decide +kernel))) (goodIn_sub (fun _ h => List.mem_append_left _ (List.mem_append_right _ h)) (by decide +kernel))
set_option maxRecDepth 20000 in
theorem gL_law_L_ofPlace : GoodIn wsL_law (va_wsS RL 176 yL_ofPlace wsL_ofPlace) := goodIn_app (goodIn_of _ (by decide +kernel)) ggL_law_L_ofPlace
set_option maxRecDepth 20000 in
theorem ggL_law_X3_ofPlace : GoodIn wsL_law wsX3_ofPlace := goodIn_r _ [445, 117, 118, 119, 5, 120, 35, 78, 79, 80, 81, 82, 446, 447, 448, 449, 38, 37, 39, 124, 125, 126, 127, 36, 213, 214, 215, 1024, 1025, 1026, 1027, 1028, 1029, 1030, 1031, 1032, 1033, 1034] (by decide +kernel) (by decide +kernel)
set_option maxRecDepth 20000 in
theorem gL_law_X3_ofPlace : GoodIn wsL_law (wsV RL 178 RX3 yX3_ofPlace wsX3_ofPlace) := goodIn_app (goodIn_of _ (by decide +kernel)) ggL_law_X3_ofPlace
set_option maxRecDepth 20000 in
theorem ggL_law_L_isWay : GoodIn wsL_law wsL_isWay := goodIn_ca (goodIn_r _ [452, 91, 453, 454, 455, 2, 456, 18, 96, 97, 98, 99, 100, 101, 179, 180, 181, 17, 182, 25, 183, 139, 140, 1035, 1036, 1017, 1018, 1019, 1020, 1021, 1022, 1023, 1037, 1038, 1039, 1040, 1041, 1042] (by decide +kernel) (by decide +kernel)) (goodIn_sub (fun _ h => List.mem_append_right _ h) (by decide +kernel))
set_option maxRecDepth 20000 in
theorem gL_law_L_isWay : GoodIn wsL_law (va_wsS RL 179 yL_isWay wsL_isWay) := goodIn_app (goodIn_of _ (by decide +kernel)) ggL_law_L_isWay
set_option maxRecDepth 20000 in
theorem ggL_law_X3_isWay : GoodIn wsL_law wsX3_isWay := goodIn_r _ [460, 39, 117, 118, 119, 5, 120, 35, 74, 75, 76, 77, 78, 79, 80, 81, 82, 213, 214, 215, 1024, 1025, 1026, 1027, 1028, 1029, 1030, 1031, 1032, 1033, 1034] (by decide +kernel) (by decide +kernel)
set_option maxRecDepth 20000 in
theorem gL_law_X3_isWay : GoodIn wsL_law (wsV RL 181 RX3 yX3_isWay wsX3_isWay) := goodIn_app (goodIn_of _ (by decide +kernel)) ggL_law_X3_isWay
set_option maxRecDepth 20000 in
theorem ggL_law_L_ways : GoodIn wsL_law wsL_ways := goodIn_ca (goodIn_r _ [463, 91, 464, 465, 466, 2, 467, 18, 468, 469, 470, 96, 97, 98, 99, 100, 101, 179, 180, 181, 17, 182, 25, 471, 472, 473, 474, 475, 476, 477, 478, 13, 14, 479, 480, 481, 482, 483, 484, 485, 486, 487, 488, 489, 490, 183, 139, 140, 491, 492, 493, 494, 495, 496, 497, 498, 499, 500, 501, 502, 503, 504, 505, 506, 507, 508, 509, 510, 511, 512, 513, 514, 515, 516, 517, 518, 519, 520, 521, 522, 523, 524, 525, 526, 527, 528, 529, 530, 531, 532, 533, 534, 535, 536, 537, 538, 539, 540, 541, 542, 543, 544, 545, 546, 547, 548, 549, 550, 551, 552, 553, 554, 555, 556, 557, 558, 559, 560, 561, 562, 563, 564, 565, 566, 567, 568, 569, 570, 571, 572, 573, 574, 575, 576, 577, 578, 579, 580, 581, 582, 583, 584, 585, 586, 587, 588, 589, 590, 591, 592, 593, 594, 595, 596, 597, 598, 599, 600, 601, 602, 603, 604, 605, 606, 607, 608, 609, 610, 611, 191, 612, 613, 614, 615, 616, 617, 618, 619, 620, 621, 622, 623, 624, 625, 626, 627, 628, 629, 630, 631, 632, 633, 634, 635, 636, 637, 638, 639, 640, 641, 642, 643, 644, 645, 646, 647, 648, 649, 650, 651, 652, 653, 654, 655, 656, 657, 658, 659, 660, 661, 662, 663, 664, 665, 666, 667, 668, 669, 670, 671, 672, 673, 674, 675, 676, 677, 678, 679, 680, 681, 682, 683, 1035, 1036, 1017, 1018, 1019, 1020, 1021, 1022, 1023, 1043, 1044, 1045, 1046, 1037, 1038, 1039, 1040, 1041, 1042, 1047, 1048, 1049, 1050] (by decide +kernel) (by decide +kernel)) (goodIn_sub (fun _ h => List.mem_append_right _ h) (by decide +kernel))
set_option maxRecDepth 20000 in
theorem gL_law_L_ways : GoodIn wsL_law (va_wsS RL 182 yL_ways wsL_ways) := goodIn_app (goodIn_of _ (by decide +kernel)) ggL_law_L_ways
set_option maxRecDepth 20000 in
theorem ggL_law_X3_ways : GoodIn wsL_law wsX3_ways := goodIn_r _ [687, 688, 469, 470, 35, 39, 117, 118, 119, 5, 120, 74, 75, 76, 77, 78, 79, 80, 81, 82, 689, 472, 473, 474, 475, 476, 477, 478, 13, 14, 479, 480, 481, 482, 483, 484, 485, 486, 487, 488, 489, 490, 213, 214, 215, 690, 492, 493, 494, 495, 496, 497, 498, 499, 500, 691, 692, 693, 694, 695, 696, 697, 698, 699, 700, 701, 702, 703, 509, 510, 511, 512, 513, 514, 515, 516, 517, 518, 519, 520, 521, 522, 523, 524, 525, 526, 527, 528, 529, 530, 531, 532, 533, 534, 535, 536, 537, 538, 539, 540, 541, 542, 543, 544, 545, 546, 547, 548, 549, 550, 551, 552, 553, 704, 705, 706, 587, 621, 622, 623, 572, 573, 574, 624, 625, 577, 626, 579, 627, 628, 582, 629, 584, 585, 586, 588, 589, 707, 708, 709, 710, 649, 711, 712, 713, 714, 650, 648, 715, 716, 717, 718, 719, 720, 721, 722, 723, 724, 725, 558, 559, 560, 561, 562, 563, 564, 556, 565, 566, 567, 568, 569, 570, 571, 575, 576, 578, 580, 581, 583, 726, 727, 728, 729, 730, 731, 732, 603, 604, 605, 606, 607, 608, 609, 610, 611, 191, 612, 613, 614, 615, 616, 617, 618, 619, 620, 630, 631, 632, 633, 634, 733, 636, 637, 638, 639, 640, 641, 642, 643, 644, 645, 646, 647, 651, 652, 653, 654, 655, 656, 657, 658, 659, 660, 661, 662, 663, 664, 665, 666, 667, 668, 669, 670, 671, 672, 673, 674, 675, 676, 677, 678, 679, 680, 681, 682, 683, 1043, 1044, 1045, 1046, 1024, 1025, 1026, 1027, 1028, 1029, 1030, 1031, 1032, 1033, 1034, 1047, 1048, 1049, 1050] (by decide +kernel) (by decide +kernel)
set_option maxRecDepth 20000 in
theorem gL_law_X3_ways : GoodIn wsL_law (wsV RL 184 RX3 yX3_ways wsX3_ways) := goodIn_app (goodIn_of _ (by decide +kernel)) ggL_law_X3_ways
set_option maxRecDepth 20000 in
theorem ggL_law_L_ahead : GoodIn wsL_law wsL_ahead := goodIn_ca (goodIn_r _ [736, 49, 737, 738, 739, 2, 740, 18, 156, 157, 158, 159, 160, 161, 162, 17, 163, 26, 57, 58, 59, 60, 61, 102, 103, 104, 741, 331, 332, 333, 25, 66, 1035, 1036, 1017, 1018, 1019, 1020, 1021, 1022, 1023, 1037, 1038, 1039, 1040, 1041, 1042] (by decide +kernel) (by decide +kernel)) (goodIn_sub (fun _ h => List.mem_append_left _ (List.mem_append_right _ h)) (by decide +kernel))
set_option maxRecDepth 20000 in
theorem gL_law_L_ahead : GoodIn wsL_law (va_wsS RL 185 yL_ahead wsL_ahead) := goodIn_app (goodIn_of _ (by decide +kernel)) ggL_law_L_ahead
set_option maxRecDepth 20000 in
theorem ggL_law_X3_ahead : GoodIn wsL_law wsX3_ahead := goodIn_r _ [745, 168, 169, 170, 5, 171, 35, 121, 122, 123, 74, 75, 76, 77, 78, 79, 80, 81, 82, 380, 381, 382, 383, 39, 124, 125, 126, 127, 36, 1024, 1025, 1026, 1027, 1028, 1029, 1030, 1031, 1032, 1033, 1034] (by decide +kernel) (by decide +kernel)
set_option maxRecDepth 20000 in
theorem gL_law_X3_ahead : GoodIn wsL_law (wsV RL 187 RX3 yX3_ahead wsX3_ahead) := goodIn_app (goodIn_of _ (by decide +kernel)) ggL_law_X3_ahead
set_option maxRecDepth 20000 in
theorem ggL_law_L_coming : GoodIn wsL_law wsL_coming := goodIn_ca (goodIn_r _ [748, 49, 749, 750, 751, 2, 752, 18, 102, 103, 104, 57, 58, 59, 60, 61, 753, 323, 324, 17, 325, 67, 326, 327, 328, 329, 330, 331, 332, 333, 26, 25, 66, 279, 161, 162, 163, 334, 335, 336, 337, 338, 339, 340, 341, 68, 69, 342, 343, 344, 345, 1035, 1036, 1017, 1018, 1019, 1020, 1021, 1022, 1023, 1037, 1038, 1039, 1040, 1041, 1042] (by decide +kernel) (by decide +kernel)) (goodIn_sub (fun _ h => List.mem_append_left _ (List.mem_append_right _ h)) (by decide +kernel))
set_option maxRecDepth 20000 in
theorem gL_law_L_coming : GoodIn wsL_law (va_wsS RL 188 yL_coming wsL_coming) := goodIn_app (goodIn_of _ (by decide +kernel)) ggL_law_L_coming
set_option maxRecDepth 20000 in
theorem ggL_law_X3_coming : GoodIn wsL_law wsX3_coming := goodIn_r _ [757, 121, 122, 5, 123, 74, 75, 76, 77, 78, 79, 80, 81, 82, 372, 373, 374, 375, 37, 376, 377, 378, 379, 380, 381, 382, 383, 35, 39, 124, 125, 126, 127, 36, 1024, 1025, 1026, 1027, 1028, 1029, 1030, 1031, 1032, 1033, 1034] (by decide +kernel) (by decide +kernel)
set_option maxRecDepth 20000 in
theorem gL_law_X3_coming : GoodIn wsL_law (wsV RL 190 RX3 yX3_coming wsX3_coming) := goodIn_app (goodIn_of _ (by decide +kernel)) ggL_law_X3_coming
set_option maxRecDepth 20000 in
theorem ggL_law_L_keeping : GoodIn wsL_law wsL_keeping := goodIn_ca (goodIn_r _ [760, 49, 761, 762, 763, 2, 764, 18, 102, 103, 104, 57, 58, 59, 60, 61, 753, 323, 324, 17, 325, 67, 326, 327, 328, 329, 330, 331, 332, 333, 26, 25, 66, 279, 161, 162, 163, 334, 335, 336, 337, 338, 339, 340, 341, 68, 69, 342, 343, 344, 345, 1035, 1036, 1017, 1018, 1019, 1020, 1021, 1022, 1023, 1037, 1038, 1039, 1040, 1041, 1042] (by decide +kernel) (by decide +kernel)) (goodIn_sub (fun _ h => List.mem_append_left _ (List.mem_append_right _ h)) (by decide +kernel))
set_option maxRecDepth 20000 in
theorem gL_law_L_keeping : GoodIn wsL_law (va_wsS RL 191 yL_keeping wsL_keeping) := goodIn_app (goodIn_of _ (by decide +kernel)) ggL_law_L_keeping
set_option maxRecDepth 20000 in
theorem ggL_law_X3_keeping : GoodIn wsL_law wsX3_keeping := goodIn_r _ [768, 121, 122, 5, 123, 74, 75, 76, 77, 78, 79, 80, 81, 82, 384, 385, 386, 387, 168, 169, 170, 171, 35, 372, 373, 374, 375, 37, 376, 377, 378, 379, 380, 381, 382, 383, 39, 124, 125, 126, 127, 36, 1024, 1025, 1026, 1027, 1028, 1029, 1030, 1031, 1032, 1033, 1034] (by decide +kernel) (by decide +kernel)
set_option maxRecDepth 20000 in
theorem gL_law_X3_keeping : GoodIn wsL_law (wsV RL 193 RX3 yX3_keeping wsX3_keeping) := goodIn_app (goodIn_of _ (by decide +kernel)) ggL_law_X3_keeping
set_option maxRecDepth 20000 in
theorem ggL_law_L_again : GoodIn wsL_law wsL_again := goodIn_ca (goodIn_r _ [771, 49, 772, 773, 774, 2, 775, 18, 102, 103, 104, 57, 58, 59, 60, 61, 753, 323, 324, 17, 325, 67, 326, 327, 328, 329, 330, 331, 332, 333, 26, 25, 66, 279, 161, 162, 163, 334, 335, 336, 337, 338, 339, 340, 341, 68, 69, 342, 343, 344, 345, 1035, 1036, 1017, 1018, 1019, 1020, 1021, 1022, 1023, 1037, 1038, 1039, 1040, 1041, 1042] (by decide +kernel) (by decide +kernel)) (goodIn_sub (fun _ h => List.mem_append_left _ (List.mem_append_right _ h)) (by decide +kernel))
set_option maxRecDepth 20000 in
theorem gL_law_L_again : GoodIn wsL_law (va_wsS RL 194 yL_again wsL_again) := goodIn_app (goodIn_of _ (by decide +kernel)) ggL_law_L_again
set_option maxRecDepth 20000 in
theorem ggL_law_X3_again : GoodIn wsL_law wsX3_again := goodIn_r _ [779, 121, 122, 5, 123, 74, 75, 76, 77, 78, 79, 80, 81, 82, 388, 389, 390, 391, 168, 169, 170, 171, 35, 392, 393, 394, 395, 37, 380, 381, 382, 383, 39, 124, 125, 126, 127, 36, 376, 377, 378, 379, 1024, 1025, 1026, 1027, 1028, 1029, 1030, 1031, 1032, 1033, 1034] (by decide +kernel) (by decide +kernel)
set_option maxRecDepth 20000 in
theorem gL_law_X3_again : GoodIn wsL_law (wsV RL 196 RX3 yX3_again wsX3_again) := goodIn_app (goodIn_of _ (by decide +kernel)) ggL_law_X3_again
set_option maxRecDepth 20000 in
theorem ggL_law_L_ranked : GoodIn wsL_law wsL_ranked := goodIn_ca (goodIn_r _ [782, 49, 783, 784, 785, 2, 786, 18, 102, 103, 104, 57, 58, 59, 60, 61, 753, 323, 324, 17, 325, 67, 326, 327, 328, 329, 330, 331, 332, 333, 26, 25, 66, 279, 161, 162, 163, 334, 335, 336, 337, 338, 339, 340, 341, 68, 69, 342, 343, 344, 345, 1035, 1036, 1017, 1018, 1019, 1020, 1021, 1022, 1023, 1037, 1038, 1039, 1040, 1041, 1042] (by decide +kernel) (by decide +kernel)) (goodIn_sub (fun _ h => List.mem_append_left _ (List.mem_append_right _ h)) (by decide +kernel))
set_option maxRecDepth 20000 in
theorem gL_law_L_ranked : GoodIn wsL_law (va_wsS RL 197 yL_ranked wsL_ranked) := goodIn_app (goodIn_of _ (by decide +kernel)) ggL_law_L_ranked
set_option maxRecDepth 20000 in
theorem ggL_law_X3_ranked : GoodIn wsL_law wsX3_ranked := goodIn_r _ [790, 121, 122, 5, 123, 74, 75, 76, 77, 78, 79, 80, 81, 82, 368, 369, 370, 371, 372, 373, 374, 375, 37, 376, 377, 378, 379, 380, 381, 382, 383, 35, 39, 124, 125, 126, 127, 36, 384, 385, 386, 387, 168, 169, 170, 171, 388, 389, 390, 391, 392, 393, 394, 395, 396, 397, 398, 399, 400, 401, 402, 403, 38, 1024, 1025, 1026, 1027, 1028, 1029, 1030, 1031, 1032, 1033, 1034] (by decide +kernel) (by decide +kernel)
set_option maxRecDepth 20000 in
theorem gL_law_X3_ranked : GoodIn wsL_law (wsV RL 199 RX3 yX3_ranked wsX3_ranked) := goodIn_app (goodIn_of _ (by decide +kernel)) ggL_law_X3_ranked
set_option maxRecDepth 20000 in
theorem ggL_law_L_winner : GoodIn wsL_law wsL_winner := goodIn_ca (goodIn_ca (goodIn_r _ [793, 91, 49, 794, 795, 796, 2, 797, 18, 96, 97, 98, 99, 100, 101, 57, 58, 59, 60, 61, 753, 323, 324, 17, 325, 67, 326, 327, 328, 329, 330, 331, 332, 333, 26, 25, 66, 279, 161, 162, 163, 334, 335, 336, 337, 338, 339, 340, 341, 68, 69, 342, 343, 344, 345, 183, 139, 140, 1035, 1036, 1017, 1018, 1019, 1020, 1021, 1022, 1023, 1037, 1038, 1039, 1040, 1041, 1042] (by decide +kernel) (by decide +kernel)) (goodIn_sub (fun _ h => List.mem_append_right _ h) (by decide +kernel))) (goodIn_sub (fun _ h => List.mem_append_left _ (List.mem_append_right _ h)) (by decide +kernel))
set_option maxRecDepth 20000 in
theorem gL_law_L_winner : GoodIn wsL_law (va_wsS RL 200 yL_winner wsL_winner) := goodIn_app (goodIn_of _ (by decide +kernel)) ggL_law_L_winner
set_option maxRecDepth 20000 in
theorem ggL_law_X3_winner : GoodIn wsL_law wsX3_winner := goodIn_r _ [801, 117, 118, 119, 5, 120, 35, 78, 79, 80, 81, 82, 368, 369, 370, 371, 372, 373, 374, 375, 37, 376, 377, 378, 379, 380, 381, 382, 383, 39, 124, 125, 126, 127, 36, 384, 385, 386, 387, 168, 169, 170, 171, 388, 389, 390, 391, 392, 393, 394, 395, 396, 397, 398, 399, 400, 401, 402, 403, 38, 213, 214, 215, 1024, 1025, 1026, 1027, 1028, 1029, 1030, 1031, 1032, 1033, 1034] (by decide +kernel) (by decide +kernel)
set_option maxRecDepth 20000 in
theorem gL_law_X3_winner : GoodIn wsL_law (wsV RL 202 RX3 yX3_winner wsX3_winner) := goodIn_app (goodIn_of _ (by decide +kernel)) ggL_law_X3_winner
set_option maxRecDepth 20000 in
theorem ggL_law_L_rounds : GoodIn wsL_law wsL_rounds := goodIn_ca (goodIn_ca (goodIn_r _ [804, 91, 49, 805, 806, 807, 2, 808, 18, 96, 97, 98, 99, 100, 101, 102, 103, 104, 57, 58, 59, 60, 61, 809, 810, 811, 17, 812, 330, 331, 332, 333, 26, 25, 66, 139, 140, 1035, 1036, 1017, 1018, 1019, 1020, 1021, 1022, 1023, 1037, 1038, 1039, 1040, 1041, 1042] (by decide +kernel) (by decide +kernel)) (goodIn_sub (fun _ h => List.mem_append_right _ h) (by decide +kernel))) (goodIn_sub (fun _ h => List.mem_append_left _ (List.mem_append_right _ h)) (by decide +kernel))
set_option maxRecDepth 20000 in
theorem gL_law_L_rounds : GoodIn wsL_law (va_wsS RL 203 yL_rounds wsL_rounds) := goodIn_app (goodIn_of _ (by decide +kernel)) ggL_law_L_rounds
set_option maxRecDepth 20000 in
theorem ggL_law_X3_rounds : GoodIn wsL_law wsX3_rounds := goodIn_r _ [816, 117, 118, 119, 5, 120, 35, 121, 122, 123, 78, 79, 80, 81, 82, 372, 373, 374, 375, 37, 376, 377, 378, 379, 380, 381, 382, 383, 39, 124, 125, 126, 127, 36, 404, 405, 406, 407, 213, 214, 215, 1024, 1025, 1026, 1027, 1028, 1029, 1030, 1031, 1032, 1033, 1034] (by decide +kernel) (by decide +kernel)
set_option maxRecDepth 20000 in
theorem gL_law_X3_rounds : GoodIn wsL_law (wsV RL 205 RX3 yX3_rounds wsX3_rounds) := goodIn_app (goodIn_of _ (by decide +kernel)) ggL_law_X3_rounds
set_option maxRecDepth 20000 in
theorem ggL_law_L_againRounds : GoodIn wsL_law wsL_againRounds := goodIn_ca (goodIn_ca (goodIn_r _ [819, 91, 49, 820, 821, 822, 2, 823, 18, 96, 97, 98, 99, 100, 101, 102, 103, 104, 57, 58, 59, 60, 61, 753, 323, 324, 17, 325, 67, 326, 327, 328, 329, 330, 331, 332, 333, 26, 25, 66, 279, 161, 162, 163, 334, 335, 336, 337, 338, 339, 340, 341, 68, 69, 342, 343, 344, 345, 809, 810, 811, 812, 139, 140, 1035, 1036, 1017, 1018, 1019, 1020, 1021, 1022, 1023, 1037, 1038, 1039, 1040, 1041, 1042] (by decide +kernel) (by decide +kernel)) (goodIn_sub (fun _ h => List.mem_append_right _ h) (by decide +kernel))) (goodIn_sub (fun _ h => List.mem_append_left _ (List.mem_append_right _ h)) (by decide +kernel))
set_option maxRecDepth 20000 in
theorem gL_law_L_againRounds : GoodIn wsL_law (va_wsS RL 206 yL_againRounds wsL_againRounds) := goodIn_app (goodIn_of _ (by decide +kernel)) ggL_law_L_againRounds
set_option maxRecDepth 20000 in
theorem ggL_law_X3_againRounds : GoodIn wsL_law wsX3_againRounds := goodIn_r _ [827, 117, 118, 119, 5, 120, 35, 121, 122, 123, 78, 79, 80, 81, 82, 388, 389, 390, 391, 168, 169, 170, 171, 392, 393, 394, 395, 37, 380, 381, 382, 383, 39, 124, 125, 126, 127, 36, 376, 377, 378, 379, 404, 405, 406, 407, 213, 214, 215, 1024, 1025, 1026, 1027, 1028, 1029, 1030, 1031, 1032, 1033, 1034] (by decide +kernel) (by decide +kernel)
set_option maxRecDepth 20000 in
theorem gL_law_X3_againRounds : GoodIn wsL_law (wsV RL 208 RX3 yX3_againRounds wsX3_againRounds) := goodIn_app (goodIn_of _ (by decide +kernel)) ggL_law_X3_againRounds
set_option maxRecDepth 20000 in
theorem ggL_law_L_falls : GoodIn wsL_law wsL_falls := goodIn_ca (goodIn_r _ [830, 49, 831, 832, 833, 2, 834, 18, 102, 103, 104, 57, 58, 59, 60, 61, 160, 161, 162, 17, 163, 26, 741, 331, 332, 333, 25, 66, 835, 327, 328, 329, 330, 1035, 1036, 1017, 1018, 1019, 1020, 1021, 1022, 1023, 1037, 1038, 1039, 1040, 1041, 1042] (by decide +kernel) (by decide +kernel)) (goodIn_sub (fun _ h => List.mem_append_left _ (List.mem_append_right _ h)) (by decide +kernel))
set_option maxRecDepth 20000 in
theorem gL_law_L_falls : GoodIn wsL_law (va_wsS RL 209 yL_falls wsL_falls) := goodIn_app (goodIn_of _ (by decide +kernel)) ggL_law_L_falls
set_option maxRecDepth 20000 in
theorem ggL_law_X3_falls : GoodIn wsL_law wsX3_falls := goodIn_r _ [839, 121, 122, 5, 123, 74, 75, 76, 77, 78, 79, 80, 81, 82, 840, 841, 842, 843, 168, 169, 170, 171, 35, 392, 393, 394, 395, 37, 380, 381, 382, 383, 39, 124, 125, 126, 127, 36, 376, 377, 378, 379, 1024, 1025, 1026, 1027, 1028, 1029, 1030, 1031, 1032, 1033, 1034] (by decide +kernel) (by decide +kernel)
set_option maxRecDepth 20000 in
theorem gL_law_X3_falls : GoodIn wsL_law (wsV RL 211 RX3 yX3_falls wsX3_falls) := goodIn_app (goodIn_of _ (by decide +kernel)) ggL_law_X3_falls
set_option maxRecDepth 20000 in
theorem ggL_law_L_choice : GoodIn wsL_law wsL_choice := goodIn_ca (goodIn_ca (goodIn_r _ [846, 91, 49, 847, 848, 849, 2, 850, 18, 96, 97, 98, 99, 100, 101, 57, 58, 59, 60, 61, 102, 103, 104, 318, 319, 320, 17, 321, 322, 323, 324, 325, 67, 326, 327, 328, 329, 330, 331, 332, 333, 26, 25, 66, 279, 161, 162, 163, 334, 335, 336, 337, 338, 339, 340, 341, 68, 69, 342, 343, 344, 345, 346, 347, 348, 349, 350, 276, 277, 278, 139, 140, 188, 180, 181, 182, 351, 352, 353, 354, 355, 183, 356, 357, 358, 359, 1035, 1036, 1017, 1018, 1019, 1020, 1021, 1022, 1023, 1037, 1038, 1039, 1040, 1041, 1042] (by decide +kernel) (by decide +kernel)) (goodIn_sub (fun _ h => List.mem_append_right _ h) (by decide +kernel))) (goodIn_sub (fun _ h => List.mem_append_left _ (List.mem_append_right _ h)) (by decide +kernel))
set_option maxRecDepth 20000 in
theorem gL_law_L_choice : GoodIn wsL_law (va_wsS RL 212 yL_choice wsL_choice) := goodIn_app (goodIn_of _ (by decide +kernel)) ggL_law_L_choice
set_option maxRecDepth 20000 in
theorem ggL_law_X3_choice : GoodIn wsL_law wsX3_choice := goodIn_r _ [854, 117, 118, 119, 5, 120, 35, 121, 122, 123, 78, 79, 80, 81, 82, 364, 365, 366, 367, 37, 39, 368, 369, 370, 371, 372, 373, 374, 375, 376, 377, 378, 379, 380, 381, 382, 383, 124, 125, 126, 127, 36, 384, 385, 386, 387, 168, 169, 170, 171, 388, 389, 390, 391, 392, 393, 394, 395, 396, 397, 398, 399, 400, 401, 402, 403, 38, 213, 214, 215, 404, 405, 406, 407, 1024, 1025, 1026, 1027, 1028, 1029, 1030, 1031, 1032, 1033, 1034] (by decide +kernel) (by decide +kernel)
set_option maxRecDepth 20000 in
theorem gL_law_X3_choice : GoodIn wsL_law (wsV RL 215 RX3 yX3_choice wsX3_choice) := goodIn_app (goodIn_of _ (by decide +kernel)) ggL_law_X3_choice
set_option maxRecDepth 20000 in
theorem ggL_law_L_isSure : GoodIn wsL_law wsL_isSure := goodIn_ca (goodIn_r _ [857, 49, 858, 859, 860, 2, 861, 57, 58, 59, 60, 61, 102, 103, 104, 862, 863, 864, 865, 19, 18, 248, 249, 250, 17, 251, 26, 66, 67, 68, 69, 25, 188, 180, 181, 182, 753, 323, 324, 325, 326, 327, 328, 329, 330, 331, 332, 333, 279, 161, 162, 163, 334, 335, 336, 337, 338, 339, 340, 341, 342, 343, 344, 345, 866, 347, 348, 349, 350, 276, 277, 278, 139, 140, 351, 352, 353, 354, 355, 183, 356, 357, 358, 359, 867, 206, 207, 208, 1035, 1036, 1017, 1018, 1019, 1020, 1021, 1022, 1023, 1037, 1038, 1039, 1040, 1041, 1042] (by decide +kernel) (by decide +kernel)) (goodIn_sub (fun _ h => List.mem_append_left _ (List.mem_append_right _ h)) (by decide +kernel))
set_option maxRecDepth 20000 in
theorem gL_law_L_isSure : GoodIn wsL_law (va_wsS RL 216 yL_isSure wsL_isSure) := goodIn_app (goodIn_of _ (by decide +kernel)) ggL_law_L_isSure
set_option maxRecDepth 20000 in
theorem ggL_law_X3_isSure : GoodIn wsL_law wsX3_isSure := goodIn_r _ [871, 121, 122, 5, 123, 74, 75, 76, 77, 78, 79, 80, 81, 82, 1024, 1025, 1026, 1027, 1028, 1029, 1030, 1031, 1032, 1033, 1034] (by decide +kernel) (by decide +kernel)
set_option maxRecDepth 20000 in
theorem gL_law_X3_isSure : GoodIn wsL_law (wsV RL 218 RX3 yX3_isSure wsX3_isSure) := goodIn_app (goodIn_of _ (by decide +kernel)) ggL_law_X3_isSure
set_option maxRecDepth 20000 in
theorem ggL_law_L_play : GoodIn wsL_law wsL_play := goodIn_ca (goodIn_ca (goodIn_r _ [874, 91, 49, 875, 876, 877, 2, 878, 468, 469, 470, 18, 96, 97, 98, 99, 100, 101, 102, 103, 104, 57, 58, 59, 60, 61, 471, 472, 473, 474, 475, 476, 477, 478, 13, 14, 479, 480, 481, 482, 483, 484, 485, 486, 487, 488, 489, 490, 602, 603, 604, 605, 606, 607, 497, 608, 609, 500, 610, 611, 191, 612, 509, 510, 511, 512, 513, 514, 515, 516, 517, 518, 519, 520, 521, 522, 523, 524, 525, 526, 527, 528, 529, 530, 531, 532, 533, 534, 535, 536, 537, 538, 539, 540, 541, 542, 543, 544, 545, 546, 547, 548, 549, 550, 551, 552, 553, 613, 614, 615, 616, 617, 618, 619, 620, 587, 621, 622, 623, 572, 573, 574, 624, 625, 577, 626, 579, 627, 628, 582, 629, 630, 631, 632, 633, 634, 584, 585, 586, 588, 589, 183, 139, 140, 179, 180, 181, 17, 182, 25, 879, 880, 881, 882, 105, 106, 107, 108, 66, 318, 319, 320, 321, 322, 323, 324, 325, 67, 326, 327, 328, 329, 330, 331, 332, 333, 26, 279, 161, 162, 163, 334, 335, 336, 337, 338, 339, 340, 341, 68, 69, 342, 343, 344, 345, 346, 347, 348, 349, 350, 276, 277, 278, 188, 351, 352, 353, 354, 355, 356, 357, 358, 359, 883, 501, 502, 503, 504, 505, 506, 507, 508, 554, 555, 556, 557, 558, 559, 560, 561, 562, 563, 564, 565, 566, 567, 568, 569, 570, 571, 575, 576, 578, 580, 581, 583, 590, 591, 592, 593, 594, 595, 596, 597, 598, 599, 600, 601, 635, 636, 637, 638, 639, 640, 641, 642, 643, 644, 645, 646, 647, 648, 649, 650, 651, 652, 653, 654, 655, 656, 657, 496, 658, 659, 492, 494, 495, 498, 499, 660, 661, 662, 663, 664, 665, 666, 667, 668, 669, 670, 671, 672, 673, 674, 675, 676, 677, 678, 679, 680, 681, 682, 683, 1035, 1036, 1043, 1044, 1045, 1046, 1017, 1018, 1019, 1020, 1021, 1022, 1023, 1037, 1038, 1039, 1040, 1041, 1042, 1047, 1048, 1049, 1050] (by decide +kernel) (by decide +kernel)) (goodIn_sub (fun _ h => List.mem_append_right _ h) (by decide +kernel))) (goodIn_sub (fun _ h => List.mem_append_left _ (List.mem_append_right _ h)) (by decide +kernel))
set_option maxRecDepth 20000 in
theorem gL_law_L_play : GoodIn wsL_law (va_wsS RL 219 yL_play wsL_play) := goodIn_app (goodIn_of _ (by decide +kernel)) ggL_law_L_play
set_option maxRecDepth 20000 in
theorem ggL_law_X3_play : GoodIn wsL_law wsX3_play := goodIn_r _ [887, 688, 469, 470, 39, 117, 118, 119, 5, 120, 35, 121, 122, 123, 78, 79, 80, 81, 82, 689, 472, 473, 474, 475, 476, 477, 478, 13, 14, 479, 480, 481, 482, 483, 484, 485, 486, 487, 488, 489, 490, 732, 603, 604, 605, 606, 607, 497, 608, 609, 500, 610, 611, 191, 612, 509, 510, 511, 512, 513, 514, 515, 516, 517, 518, 519, 520, 521, 522, 523, 524, 525, 526, 527, 528, 529, 530, 531, 532, 533, 534, 535, 536, 537, 538, 539, 540, 541, 542, 543, 544, 545, 546, 547, 548, 549, 550, 551, 552, 553, 613, 614, 615, 616, 617, 618, 619, 620, 587, 621, 622, 623, 572, 573, 574, 624, 625, 577, 626, 579, 627, 628, 582, 629, 630, 631, 632, 633, 634, 584, 585, 586, 588, 589, 124, 125, 126, 127, 36, 364, 365, 366, 367, 37, 368, 369, 370, 371, 372, 373, 374, 375, 376, 377, 378, 379, 380, 381, 382, 383, 384, 385, 386, 387, 168, 169, 170, 171, 388, 389, 390, 391, 392, 393, 394, 395, 396, 397, 398, 399, 400, 401, 402, 403, 38, 213, 214, 215, 404, 405, 406, 407, 888, 889, 890, 891, 691, 692, 693, 694, 695, 696, 697, 698, 699, 700, 701, 702, 703, 704, 705, 706, 707, 708, 709, 710, 649, 711, 712, 713, 714, 650, 648, 715, 716, 717, 718, 719, 720, 721, 722, 723, 724, 725, 558, 559, 560, 561, 562, 563, 564, 556, 565, 566, 567, 568, 569, 570, 571, 575, 576, 578, 580, 581, 583, 726, 727, 728, 729, 730, 731, 733, 636, 637, 638, 639, 640, 641, 642, 643, 644, 645, 646, 647, 651, 652, 653, 654, 655, 656, 657, 496, 658, 659, 492, 494, 495, 498, 499, 660, 661, 662, 663, 664, 665, 666, 667, 668, 669, 670, 671, 672, 673, 674, 675, 676, 677, 678, 679, 680, 681, 682, 683, 1043, 1044, 1045, 1046, 1024, 1025, 1026, 1027, 1028, 1029, 1030, 1031, 1032, 1033, 1034, 1047, 1048, 1049, 1050] (by decide +kernel) (by decide +kernel)
