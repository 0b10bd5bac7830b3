theorem dJ3_checkFromIndexSize_8c36e_10 : decode cJ3_checkFromIndexSize_8c36e 10 = .ok (.iload_n 0, 1) := by decide +kernel
theorem dJ3_checkFromIndexSize_8c36e_11 : decode cJ3_checkFromIndexSize_8c36e 11 = .ok (.isub, 1) := by decide +kernel
theorem dJ3_checkFromIndexSize_8c36e_12 : decode cJ3_checkFromIndexSize_8c36e 12 = .ok (.if_icmp .le 11, 3) := by decide +kernel
theorem dJ3_checkFromIndexSize_8c36e_15 : decode cJ3_checkFromIndexSize_8c36e 15 = .ok (.aload_n 3, 1) := by decide +kernel
theorem dJ3_checkFromIndexSize_8c36e_16 : decode cJ3_checkFromIndexSize_8c36e 16 = .ok (.iload_n 0, 1) := by decide +kernel
theorem dJ3_checkFromIndexSize_8c36e_17 : decode cJ3_checkFromIndexSize_8c36e 17 = .ok (.iload_n 1, 1) := by decide +kernel
theorem dJ3_checkFromIndexSize_8c36e_18 : decode cJ3_checkFromIndexSize_8c36e 18 = .ok (.iload_n 2, 1) := by decide +kernel
theorem dJ3_checkFromIndexSize_8c36e_19 : decode cJ3_checkFromIndexSize_8c36e 19 = .ok (.invokestatic 103, 3) := by decide +kernel
theorem dJ3_checkFromIndexSize_8c36e_22 : decode cJ3_checkFromIndexSize_8c36e 22 = .ok (.athrow, 1) := by decide +kernel
theorem dJ3_checkFromIndexSize_8c36e_23 : decode cJ3_checkFromIndexSize_8c36e 23 = .ok (.iload_n 0, 1) := by decide +kernel
theorem dJ3_checkFromIndexSize_8c36e_24 : decode cJ3_checkFromIndexSize_8c36e 24 = .ok (.ireturn, 1) := by decide +kernel
set_option maxRecDepth 20000 in
theorem ggL_places_X1_places : GoodIn wsL_places wsX1_places := goodIn_ca (goodIn_r _ [6, 7, 8, 9, 10, 11, 12, 5, 13, 14, 15, 16, 17, 18, 19, 20, 21, 22, 23, 24, 25, 26, 29, 30, 31, 32, 33, 34, 35, 36, 37, 38, 39, 40, 41] (by decide +kernel) (by decide +kernel)) (goodIn_sub (fun _ h => List.mem_cons_of_mem _ (List.mem_append_right _ h)) (by decide +kernel))
set_option maxRecDepth 20000 in
theorem gL_places_X1_places : GoodIn wsL_places (wsV RL 7 RX1 yX1_places wsX1_places) := goodIn_app (goodIn_of _ (by decide +kernel)) ggL_places_X1_places
theorem dL_places_0 : decode cL_places 0 = .ok (.aload_n 2, 1) := by decide +kernel
theorem dL_places_1 : decode cL_places 1 = .ok (.aload_n 0, 1) := by decide +kernel
theorem dL_places_2 : decode cL_places 2 = .ok (.iload_n 1, 1) := by decide +kernel
theorem dL_places_3 : decode cL_places 3 = .ok (.invokevirtual 7, 3) := by decide +kernel
theorem dL_places_6 : decode cL_places 6 = .ok (.i2l, 1) := by decide +kernel
theorem dL_places_7 : decode cL_places 7 = .ok (.putfield 13, 3) := by decide +kernel
theorem dL_places_10 : decode cL_places 10 = .ok (.goto 6, 3) := by decide +kernel
theorem dL_places_13 : decode cL_places 13 = .ok (.astore_n 3, 1) := by decide +kernel
theorem dL_places_14 : decode cL_places 14 = .ok (.iconst 1, 1) := by decide +kernel
theorem dL_places_15 : decode cL_places 15 = .ok (.ireturn, 1) := by decide +kernel
theorem dL_places_16 : decode cL_places 16 = .ok (.iconst 0, 1) := by decide +kernel
theorem dL_places_17 : decode cL_places 17 = .ok (.ireturn, 1) := by decide +kernel
set_option maxRecDepth 20000 in
theorem ggL_give_X1_give : GoodIn wsL_give wsX1_give := goodIn_ca (goodIn_ca (goodIn_r _ [7, 8, 9, 10, 11, 12, 6, 13, 14, 15, 16, 17, 18, 19, 20, 21, 22, 23, 24, 25, 26, 27, 28, 29, 30, 31, 32, 33, 36, 37, 38, 39, 40, 41, 42, 43, 44, 45, 46, 47, 48] (by decide +kernel) (by decide +kernel)) (goodIn_sub (fun _ h => List.mem_cons_of_mem _ (List.mem_append_left _ (List.mem_append_right _ h))) (by decide +kernel))) (goodIn_sub (fun _ h => List.mem_cons_of_mem _ (List.mem_append_right _ h)) (by decide +kernel))
set_option maxRecDepth 20000 in
theorem gL_give_X1_give : GoodIn wsL_give (wsV RL 21 RX1 yX1_give wsX1_give) := goodIn_app (goodIn_of _ (by decide +kernel)) ggL_give_X1_give
theorem dL_give_0 : decode cL_give 0 = .ok (.aload_n 3, 1) := by decide +kernel
theorem dL_give_1 : decode cL_give 1 = .ok (.aload_n 0, 1) := by decide +kernel
theorem dL_give_2 : decode cL_give 2 = .ok (.iload_n 1, 1) := by decide +kernel
theorem dL_give_3 : decode cL_give 3 = .ok (.iload_n 2, 1) := by decide +kernel
theorem dL_give_4 : decode cL_give 4 = .ok (.invokevirtual 21, 3) := by decide +kernel
theorem dL_give_7 : decode cL_give 7 = .ok (.i2l, 1) := by decide +kernel
theorem dL_give_8 : decode cL_give 8 = .ok (.putfield 13, 3) := by decide +kernel
theorem dL_give_11 : decode cL_give 11 = .ok (.goto 11, 3) := by decide +kernel
theorem dL_give_14 : decode cL_give 14 = .ok (.astore 4, 2) := by decide +kernel
theorem dL_give_16 : decode cL_give 16 = .ok (.iconst 1, 1) := by decide +kernel
theorem dL_give_17 : decode cL_give 17 = .ok (.ireturn, 1) := by decide +kernel
theorem dL_give_18 : decode cL_give 18 = .ok (.astore 4, 2) := by decide +kernel
theorem dL_give_20 : decode cL_give 20 = .ok (.iconst 2, 1) := by decide +kernel
theorem dL_give_21 : decode cL_give 21 = .ok (.ireturn, 1) := by decide +kernel
theorem dL_give_22 : decode cL_give 22 = .ok (.iconst 0, 1) := by decide +kernel
theorem dL_give_23 : decode cL_give 23 = .ok (.ireturn, 1) := by decide +kernel
set_option maxRecDepth 20000 in
theorem ggL_rank_X1_rank : GoodIn wsL_rank wsX1_rank := goodIn_ca (goodIn_ca (goodIn_r _ [7, 8, 9, 10, 11, 12, 6, 13, 14, 15, 16, 17, 18, 19, 20, 21, 22, 23, 24, 25, 26, 27, 28, 29, 30, 31, 32, 33, 36, 37, 38, 39, 40, 41, 42, 43, 44, 45, 46, 47, 48] (by decide +kernel) (by decide +kernel)) (goodIn_sub (fun _ h => List.mem_cons_of_mem _ (List.mem_append_left _ (List.mem_append_right _ h))) (by decide +kernel))) (goodIn_sub (fun _ h => List.mem_cons_of_mem _ (List.mem_append_right _ h)) (by decide +kernel))
set_option maxRecDepth 20000 in
theorem gL_rank_X1_rank : GoodIn wsL_rank (wsV RL 27 RX1 yX1_rank wsX1_rank) := goodIn_app (goodIn_of _ (by decide +kernel)) ggL_rank_X1_rank
theorem dL_rank_0 : decode cL_rank 0 = .ok (.aload_n 3, 1) := by decide +kernel
theorem dL_rank_1 : decode cL_rank 1 = .ok (.aload_n 0, 1) := by decide +kernel
theorem dL_rank_2 : decode cL_rank 2 = .ok (.iload_n 1, 1) := by decide +kernel
theorem dL_rank_3 : decode cL_rank 3 = .ok (.iload_n 2, 1) := by decide +kernel
theorem dL_rank_4 : decode cL_rank 4 = .ok (.invokevirtual 27, 3) := by decide +kernel
theorem dL_rank_7 : decode cL_rank 7 = .ok (.i2l, 1) := by decide +kernel
theorem dL_rank_8 : decode cL_rank 8 = .ok (.putfield 13, 3) := by decide +kernel
theorem dL_rank_11 : decode cL_rank 11 = .ok (.goto 11, 3) := by decide +kernel
theorem dL_rank_14 : decode cL_rank 14 = .ok (.astore 4, 2) := by decide +kernel
theorem dL_rank_16 : decode cL_rank 16 = .ok (.iconst 1, 1) := by decide +kernel
theorem dL_rank_17 : decode cL_rank 17 = .ok (.ireturn, 1) := by decide +kernel
theorem dL_rank_18 : decode cL_rank 18 = .ok (.astore 4, 2) := by decide +kernel
theorem dL_rank_20 : decode cL_rank 20 = .ok (.iconst 2, 1) := by decide +kernel
theorem dL_rank_21 : decode cL_rank 21 = .ok (.ireturn, 1) := by decide +kernel
theorem dL_rank_22 : decode cL_rank 22 = .ok (.iconst 0, 1) := by decide +kernel
theorem dL_rank_23 : decode cL_rank 23 = .ok (.ireturn, 1) := by decide +kernel
set_option maxRecDepth 20000 in
theorem ggL_goal_X1_goal : GoodIn wsL_goal wsX1_goal := goodIn_ca (goodIn_r _ [6, 7, 8, 9, 10, 11, 5, 12, 13, 14, 15, 16, 17, 18, 19, 20, 21, 22, 23, 26, 27, 28, 29, 30, 31, 32, 33, 34, 35, 36, 37, 38] (by decide +kernel) (by decide +kernel)) (goodIn_sub (fun _ h => List.mem_cons_of_mem _ (List.mem_append_right _ h)) (by decide +kernel))
set_option maxRecDepth 20000 in
theorem gL_goal_X1_goal : GoodIn wsL_goal (wsV RL 30 RX1 yX1_goal wsX1_goal) := goodIn_app (goodIn_of _ (by decide +kernel)) ggL_goal_X1_goal
theorem dL_goal_0 : decode cL_goal 0 = .ok (.aload_n 2, 1) := by decide +kernel
theorem dL_goal_1 : decode cL_goal 1 = .ok (.aload_n 0, 1) := by decide +kernel
theorem dL_goal_2 : decode cL_goal 2 = .ok (.iload_n 1, 1) := by decide +kernel
theorem dL_goal_3 : decode cL_goal 3 = .ok (.invokevirtual 30, 3) := by decide +kernel
theorem dL_goal_6 : decode cL_goal 6 = .ok (.i2l, 1) := by decide +kernel
theorem dL_goal_7 : decode cL_goal 7 = .ok (.putfield 13, 3) := by decide +kernel
theorem dL_goal_10 : decode cL_goal 10 = .ok (.goto 6, 3) := by decide +kernel
theorem dL_goal_13 : decode cL_goal 13 = .ok (.astore_n 3, 1) := by decide +kernel
theorem dL_goal_14 : decode cL_goal 14 = .ok (.iconst 1, 1) := by decide +kernel
theorem dL_goal_15 : decode cL_goal 15 = .ok (.ireturn, 1) := by decide +kernel
theorem dL_goal_16 : decode cL_goal 16 = .ok (.iconst 0, 1) := by decide +kernel
theorem dL_goal_17 : decode cL_goal 17 = .ok (.ireturn, 1) := by decide +kernel
set_option maxRecDepth 20000 in
theorem ggL_way_X1_way : GoodIn wsL_way wsX1_way := goodIn_ca (goodIn_r _ [6, 7, 8, 9, 10, 11, 5, 12, 13, 14, 15, 16, 17, 18, 19, 20, 21, 22, 23, 24, 25, 26, 27, 28, 29, 30, 31, 32, 33, 34, 35, 36, 37, 38, 39, 40, 41, 42, 43, 44, 45, 46, 47, 48, 49, 52, 53, 54, 55, 56, 57, 58, 59, 60, 61, 62, 63, 64] (by decide +kernel) (by decide +kernel)) (goodIn_sub (fun _ h => List.mem_cons_of_mem _ (List.mem_append_right _ h)) (by decide +kernel))
set_option maxRecDepth 20000 in
theorem gL_way_X1_way : GoodIn wsL_way (wsV RL 33 RX1 yX1_way wsX1_way) := goodIn_app (goodIn_of _ (by decide +kernel)) ggL_way_X1_way
theorem dL_way_0 : decode cL_way 0 = .ok (.aload_n 3, 1) := by decide +kernel
theorem dL_way_1 : decode cL_way 1 = .ok (.aload_n 0, 1) := by decide +kernel
theorem dL_way_2 : decode cL_way 2 = .ok (.iload_n 1, 1) := by decide +kernel
theorem dL_way_3 : decode cL_way 3 = .ok (.iload_n 2, 1) := by decide +kernel
theorem dL_way_4 : decode cL_way 4 = .ok (.invokevirtual 33, 3) := by decide +kernel
theorem dL_way_7 : decode cL_way 7 = .ok (.i2l, 1) := by decide +kernel
theorem dL_way_8 : decode cL_way 8 = .ok (.putfield 13, 3) := by decide +kernel
theorem dL_way_11 : decode cL_way 11 = .ok (.goto 7, 3) := by decide +kernel
theorem dL_way_14 : decode cL_way 14 = .ok (.astore 4, 2) := by decide +kernel
theorem dL_way_16 : decode cL_way 16 = .ok (.iconst 1, 1) := by decide +kernel
theorem dL_way_17 : decode cL_way 17 = .ok (.ireturn, 1) := by decide +kernel
theorem dL_way_18 : decode cL_way 18 = .ok (.iconst 0, 1) := by decide +kernel
theorem dL_way_19 : decode cL_way 19 = .ok (.ireturn, 1) := by decide +kernel
set_option maxRecDepth 20000 in
theorem ggL_lose_X1_lose : GoodIn wsL_lose wsX1_lose := goodIn_ca (goodIn_r _ [6, 7, 8, 9, 10, 11, 5, 12, 13, 14, 15, 16, 17, 18, 19, 20, 21, 22, 23, 24, 25, 26, 27, 28, 29, 30, 31, 32, 35, 36, 37, 38, 39, 40, 41, 42, 43, 44, 45, 46, 47] (by decide +kernel) (by decide +kernel)) (goodIn_sub (fun _ h => List.mem_cons_of_mem _ (List.mem_append_right _ h)) (by decide +kernel))
set_option maxRecDepth 20000 in
theorem gL_lose_X1_lose : GoodIn wsL_lose (wsV RL 36 RX1 yX1_lose wsX1_lose) := goodIn_app (goodIn_of _ (by decide +kernel)) ggL_lose_X1_lose
theorem dL_lose_0 : decode cL_lose 0 = .ok (.aload_n 3, 1) := by decide +kernel
theorem dL_lose_1 : decode cL_lose 1 = .ok (.aload_n 0, 1) := by decide +kernel
theorem dL_lose_2 : decode cL_lose 2 = .ok (.iload_n 1, 1) := by decide +kernel
theorem dL_lose_3 : decode cL_lose 3 = .ok (.iload_n 2, 1) := by decide +kernel
theorem dL_lose_4 : decode cL_lose 4 = .ok (.invokevirtual 36, 3) := by decide +kernel
theorem dL_lose_7 : decode cL_lose 7 = .ok (.i2l, 1) := by decide +kernel
theorem dL_lose_8 : decode cL_lose 8 = .ok (.putfield 13, 3) := by decide +kernel
theorem dL_lose_11 : decode cL_lose 11 = .ok (.goto 7, 3) := by decide +kernel
theorem dL_lose_14 : decode cL_lose 14 = .ok (.astore 4, 2) := by decide +kernel
theorem dL_lose_16 : decode cL_lose 16 = .ok (.iconst 1, 1) := by decide +kernel
theorem dL_lose_17 : decode cL_lose 17 = .ok (.ireturn, 1) := by decide +kernel
theorem dL_lose_18 : decode cL_lose 18 = .ok (.iconst 0, 1) := by decide +kernel
theorem dL_lose_19 : decode cL_lose 19 = .ok (.ireturn, 1) := by decide +kernel
set_option maxRecDepth 20000 in
theorem ggL_circle_X1_circle : GoodIn wsL_circle wsX1_circle := goodIn_ca (goodIn_r _ [6, 7, 8, 9, 10, 11, 5, 12, 13, 14, 15, 16, 17, 18, 19, 20, 21, 22, 23, 24, 25, 26, 27, 28, 29, 30, 31, 32, 33, 34, 35, 36, 37, 38, 39, 40, 41, 42, 43, 44, 45, 46, 47, 48, 49, 50, 51, 52, 53, 54, 55, 56, 57, 60, 61, 62, 63, 64, 65, 66, 67, 68, 69, 70, 71, 72] (by decide +kernel) (by decide +kernel)) (goodIn_sub (fun _ h => List.mem_cons_of_mem _ (List.mem_append_right _ h)) (by decide +kernel))
set_option maxRecDepth 20000 in
theorem gL_circle_X1_circle : GoodIn wsL_circle (wsV RL 39 RX1 yX1_circle wsX1_circle) := goodIn_app (goodIn_of _ (by decide +kernel)) ggL_circle_X1_circle
theorem dL_circle_0 : decode cL_circle 0 = .ok (.aload_n 2, 1) := by decide +kernel
theorem dL_circle_1 : decode cL_circle 1 = .ok (.aload_n 0, 1) := by decide +kernel
theorem dL_circle_2 : decode cL_circle 2 = .ok (.iload_n 1, 1) := by decide +kernel
theorem dL_circle_3 : decode cL_circle 3 = .ok (.invokevirtual 39, 3) := by decide +kernel
theorem dL_circle_6 : decode cL_circle 6 = .ok (.i2l, 1) := by decide +kernel
theorem dL_circle_7 : decode cL_circle 7 = .ok (.putfield 13, 3) := by decide +kernel
theorem dL_circle_10 : decode cL_circle 10 = .ok (.goto 6, 3) := by decide +kernel
theorem dL_circle_13 : decode cL_circle 13 = .ok (.astore_n 3, 1) := by decide +kernel
theorem dL_circle_14 : decode cL_circle 14 = .ok (.iconst 1, 1) := by decide +kernel
theorem dL_circle_15 : decode cL_circle 15 = .ok (.ireturn, 1) := by decide +kernel
theorem dL_circle_16 : decode cL_circle 16 = .ok (.iconst 0, 1) := by decide +kernel
theorem dL_circle_17 : decode cL_circle 17 = .ok (.ireturn, 1) := by decide +kernel
set_option maxRecDepth 20000 in
theorem ggL_strew_X1_strew : GoodIn wsL_strew wsX1_strew := goodIn_ca (goodIn_r _ [6, 7, 8, 9, 10, 5, 11, 12, 13, 14, 15, 16, 17, 18, 19, 20, 21, 22, 23, 24, 25, 26, 27, 28, 29, 30, 31, 32, 33, 34, 35, 36, 37, 38, 39, 40, 41, 42, 43, 44, 45, 46, 47, 48, 49, 50, 51, 52, 53, 54, 55, 56, 57, 58, 59, 62, 63, 64, 65, 66, 67, 68, 69, 70, 71, 72, 73, 74] (by decide +kernel) (by decide +kernel)) (goodIn_sub (fun _ h => List.mem_cons_of_mem _ (List.mem_append_right _ h)) (by decide +kernel))
set_option maxRecDepth 20000 in
theorem gL_strew_X1_strew : GoodIn wsL_strew (wsV RL 42 RX1 yX1_strew wsX1_strew) := goodIn_app (goodIn_of _ (by decide +kernel)) ggL_strew_X1_strew
theorem dL_strew_0 : decode cL_strew 0 = .ok (.aload_n 2, 1) := by decide +kernel
theorem dL_strew_1 : decode cL_strew 1 = .ok (.aload_n 0, 1) := by decide +kernel
theorem dL_strew_2 : decode cL_strew 2 = .ok (.iload_n 1, 1) := by decide +kernel
theorem dL_strew_3 : decode cL_strew 3 = .ok (.invokevirtual 42, 3) := by decide +kernel
theorem dL_strew_6 : decode cL_strew 6 = .ok (.i2l, 1) := by decide +kernel
theorem dL_strew_7 : decode cL_strew 7 = .ok (.putfield 13, 3) := by decide +kernel
theorem dL_strew_10 : decode cL_strew 10 = .ok (.goto 6, 3) := by decide +kernel
theorem dL_strew_13 : decode cL_strew 13 = .ok (.astore_n 3, 1) := by decide +kernel
theorem dL_strew_14 : decode cL_strew 14 = .ok (.iconst 1, 1) := by decide +kernel
theorem dL_strew_15 : decode cL_strew 15 = .ok (.ireturn, 1) := by decide +kernel
theorem dL_strew_16 : decode cL_strew 16 = .ok (.iconst 0, 1) := by decide +kernel
theorem dL_strew_17 : decode cL_strew 17 = .ok (.ireturn, 1) := by decide +kernel
set_option maxRecDepth 20000 in
theorem ggL_stand_X1_stand : GoodIn wsL_stand wsX1_stand := goodIn_ca (goodIn_r _ [6, 7, 8, 9, 10, 11, 12, 5, 13, 14, 15, 16, 19, 20, 21, 22, 23, 24, 25, 26, 27, 28, 29, 30, 31] (by decide +kernel) (by decide +kernel)) (goodIn_sub (fun _ h => List.mem_cons_of_mem _ (List.mem_append_right _ h)) (by decide +kernel))
set_option maxRecDepth 20000 in
theorem gL_stand_X1_stand : GoodIn wsL_stand (wsV RL 45 RX1 yX1_stand wsX1_stand) := goodIn_app (goodIn_of _ (by decide +kernel)) ggL_stand_X1_stand
theorem dL_stand_0 : decode cL_stand 0 = .ok (.aload_n 2, 1) := by decide +kernel
theorem dL_stand_1 : decode cL_stand 1 = .ok (.aload_n 0, 1) := by decide +kernel
theorem dL_stand_2 : decode cL_stand 2 = .ok (.iload_n 1, 1) := by decide +kernel
theorem dL_stand_3 : decode cL_stand 3 = .ok (.invokevirtual 45, 3) := by decide +kernel
theorem dL_stand_6 : decode cL_stand 6 = .ok (.i2l, 1) := by decide +kernel
theorem dL_stand_7 : decode cL_stand 7 = .ok (.putfield 13, 3) := by decide +kernel
theorem dL_stand_10 : decode cL_stand 10 = .ok (.goto 6, 3) := by decide +kernel
theorem dL_stand_13 : decode cL_stand 13 = .ok (.astore_n 3, 1) := by decide +kernel
theorem dL_stand_14 : decode cL_stand 14 = .ok (.iconst 1, 1) := by decide +kernel
theorem dL_stand_15 : decode cL_stand 15 = .ok (.ireturn, 1) := by decide +kernel
theorem dL_stand_16 : decode cL_stand 16 = .ok (.iconst 0, 1) := by decide +kernel
theorem dL_stand_17 : decode cL_stand 17 = .ok (.ireturn, 1) := by decide +kernel
set_option maxRecDepth 20000 in
theorem ggL_go_X1_go : GoodIn wsL_go wsX1_go := goodIn_ca (goodIn_r _ [6, 7, 8, 9, 10, 11, 12, 5, 13, 14, 15, 16, 17, 18, 19, 20, 21, 22, 23, 24, 25, 26, 27, 28, 29, 30, 31, 32, 33, 34, 37, 38, 39, 40, 41, 42, 43, 44, 45, 46, 47, 48, 49] (by decide +kernel) (by decide +kernel)) (goodIn_sub (fun _ h => List.mem_cons_of_mem _ (List.mem_append_right _ h)) (by decide +kernel))
set_option maxRecDepth 20000 in
theorem gL_go_X1_go : GoodIn wsL_go (wsV RL 48 RX1 yX1_go wsX1_go) := goodIn_app (goodIn_of _ (by decide +kernel)) ggL_go_X1_go
theorem dL_go_0 : decode cL_go 0 = .ok (.aload_n 2, 1) := by decide +kernel
theorem dL_go_1 : decode cL_go 1 = .ok (.aload_n 0, 1) := by decide +kernel
theorem dL_go_2 : decode cL_go 2 = .ok (.iload_n 1, 1) := by decide +kernel
theorem dL_go_3 : decode cL_go 3 = .ok (.invokevirtual 48, 3) := by decide +kernel
theorem dL_go_6 : decode cL_go 6 = .ok (.i2l, 1) := by decide +kernel
theorem dL_go_7 : decode cL_go 7 = .ok (.putfield 13, 3) := by decide +kernel
theorem dL_go_10 : decode cL_go 10 = .ok (.goto 6, 3) := by decide +kernel
theorem dL_go_13 : decode cL_go 13 = .ok (.astore_n 3, 1) := by decide +kernel
theorem dL_go_14 : decode cL_go 14 = .ok (.iconst 1, 1) := by decide +kernel
theorem dL_go_15 : decode cL_go 15 = .ok (.ireturn, 1) := by decide +kernel
theorem dL_go_16 : decode cL_go 16 = .ok (.iconst 0, 1) := by decide +kernel
theorem dL_go_17 : decode cL_go 17 = .ok (.ireturn, 1) := by decide +kernel
set_option maxRecDepth 20000 in
theorem ggL_follow_X1_follow : GoodIn wsL_follow wsX1_follow := goodIn_ca (goodIn_r _ [6, 7, 8, 9, 10, 5, 11, 12, 13, 14, 15, 16, 17, 18, 19, 20, 21, 22, 23, 24, 25, 26, 27, 28, 29, 30, 31, 32, 33, 34, 35, 36, 37, 38, 39, 40, 41, 42, 43, 44, 45, 46, 47, 48, 49, 50, 51, 52, 53, 54, 55, 56, 57, 58, 59, 60, 61, 62, 63, 64, 65, 66, 67, 68, 69, 70, 71, 72, 73, 74, 75, 76, 77, 78, 79, 80, 81, 82, 83, 84, 85, 86, 87, 88, 89, 90, 91, 94, 95, 96, 97, 98, 99, 100, 101, 102, 103, 104, 105, 106] (by decide +kernel) (by decide +kernel)) (goodIn_sub (fun _ h => List.mem_cons_of_mem _ (List.mem_append_right _ h)) (by decide +kernel))
set_option maxRecDepth 20000 in
theorem gL_follow_X1_follow : GoodIn wsL_follow (wsV RL 51 RX1 yX1_follow wsX1_follow) := goodIn_app (goodIn_of _ (by decide +kernel)) ggL_follow_X1_follow
theorem dL_follow_0 : decode cL_follow 0 = .ok (.aload_n 2, 1) := by decide +kernel
theorem dL_follow_1 : decode cL_follow 1 = .ok (.aload_n 0, 1) := by decide +kernel
theorem dL_follow_2 : decode cL_follow 2 = .ok (.iload_n 1, 1) := by decide +kernel
theorem dL_follow_3 : decode cL_follow 3 = .ok (.invokevirtual 51, 3) := by decide +kernel
theorem dL_follow_6 : decode cL_follow 6 = .ok (.i2l, 1) := by decide +kernel
theorem dL_follow_7 : decode cL_follow 7 = .ok (.putfield 13, 3) := by decide +kernel
theorem dL_follow_10 : decode cL_follow 10 = .ok (.goto 6, 3) := by decide +kernel
theorem dL_follow_13 : decode cL_follow 13 = .ok (.astore_n 3, 1) := by decide +kernel
theorem dL_follow_14 : decode cL_follow 14 = .ok (.iconst 1, 1) := by decide +kernel
theorem dL_follow_15 : decode cL_follow 15 = .ok (.ireturn, 1) := by decide +kernel
theorem dL_follow_16 : decode cL_follow 16 = .ok (.iconst 0, 1) := by decide +kernel
theorem dL_follow_17 : decode cL_follow 17 = .ok (.ireturn, 1) := by decide +kernel
set_option maxRecDepth 20000 in
theorem ggL_told_X1_told : GoodIn wsL_told wsX1_told := goodIn_ca (goodIn_r _ [6, 7, 8, 9, 10, 11, 5, 12, 13, 14, 15, 16, 17, 18, 19, 20, 21, 22, 23, 24, 25, 26, 27, 28, 29, 30, 31, 32, 33, 34, 35, 36, 37, 38, 39, 40, 41, 42, 43, 44, 45, 48, 49, 50, 51, 52, 53, 54, 55, 56, 57, 58, 59, 60] (by decide +kernel) (by decide +kernel)) (goodIn_sub (fun _ h => List.mem_cons_of_mem _ (List.mem_append_right _ h)) (by decide +kernel))
set_option maxRecDepth 20000 in
theorem gL_told_X1_told : GoodIn wsL_told (wsV RL 54 RX1 yX1_told wsX1_told) := goodIn_app (goodIn_of _ (by decide +kernel)) ggL_told_X1_told
theorem dL_told_0 : decode cL_told 0 = .ok (.aload_n 2, 1) := by decide +kernel
theorem dL_told_1 : decode cL_told 1 = .ok (.aload_n 0, 1) := by decide +kernel
theorem dL_told_2 : decode cL_told 2 = .ok (.iload_n 1, 1) := by decide +kernel
theorem dL_told_3 : decode cL_told 3 = .ok (.invokevirtual 54, 3) := by decide +kernel
theorem dL_told_6 : decode cL_told 6 = .ok (.i2l, 1) := by decide +kernel
theorem dL_told_7 : decode cL_told 7 = .ok (.putfield 13, 3) := by decide +kernel
theorem dL_told_10 : decode cL_told 10 = .ok (.goto 6, 3) := by decide +kernel
theorem dL_told_13 : decode cL_told 13 = .ok (.astore_n 3, 1) := by decide +kernel
theorem dL_told_14 : decode cL_told 14 = .ok (.iconst 1, 1) := by decide +kernel
theorem dL_told_15 : decode cL_told 15 = .ok (.ireturn, 1) := by decide +kernel
theorem dL_told_16 : decode cL_told 16 = .ok (.iconst 0, 1) := by decide +kernel
theorem dL_told_17 : decode cL_told 17 = .ok (.ireturn, 1) := by decide +kernel
set_option maxRecDepth 20000 in
theorem ggL_ofPlace_X1_ofPlace : GoodIn wsL_ofPlace wsX1_ofPlace := goodIn_ca (goodIn_ca (goodIn_r _ [7, 8, 9, 10, 11, 6, 12, 13, 14, 15, 16, 17, 18, 19, 20, 21, 22, 23, 24, 25, 26, 27, 28, 29, 30, 31, 32, 33, 34, 35, 36, 37, 38, 39, 40, 41, 42, 43, 44, 45, 48, 49, 50, 51, 52, 53, 54, 55, 56, 57, 58, 59, 60] (by decide +kernel) (by decide +kernel)) (goodIn_sub (fun _ h => List.mem_cons_of_mem _ (List.mem_append_left _ (List.mem_append_right _ h))) (by decide +kernel))) (goodIn_sub (fun _ h => List.mem_cons_of_mem _ (List.mem_append_right _ h)) (by decide +kernel))
set_option maxRecDepth 20000 in
theorem gL_ofPlace_X1_ofPlace : GoodIn wsL_ofPlace (wsV RL 57 RX1 yX1_ofPlace wsX1_ofPlace) := goodIn_app (goodIn_of _ (by decide +kernel)) ggL_ofPlace_X1_ofPlace
theorem dL_ofPlace_0 : decode cL_ofPlace 0 = .ok (.aload_n 3, 1) := by decide +kernel
theorem dL_ofPlace_1 : decode cL_ofPlace 1 = .ok (.aload_n 0, 1) := by decide +kernel
theorem dL_ofPlace_2 : decode cL_ofPlace 2 = .ok (.iload_n 1, 1) := by decide +kernel
theorem dL_ofPlace_3 : decode cL_ofPlace 3 = .ok (.iload_n 2, 1) := by decide +kernel
theorem dL_ofPlace_4 : decode cL_ofPlace 4 = .ok (.invokevirtual 57, 3) := by decide +kernel
theorem dL_ofPlace_7 : decode cL_ofPlace 7 = .ok (.i2l, 1) := by decide +kernel
theorem dL_ofPlace_8 : decode cL_ofPlace 8 = .ok (.putfield 13, 3) := by decide +kernel
theorem dL_ofPlace_11 : decode cL_ofPlace 11 = .ok (.goto 11, 3) := by decide +kernel
theorem dL_ofPlace_14 : decode cL_ofPlace 14 = .ok (.astore 4, 2) := by decide +kernel
theorem dL_ofPlace_16 : decode cL_ofPlace 16 = .ok (.iconst 1, 1) := by decide +kernel
theorem dL_ofPlace_17 : decode cL_ofPlace 17 = .ok (.ireturn, 1) := by decide +kernel
theorem dL_ofPlace_18 : decode cL_ofPlace 18 = .ok (.astore 4, 2) := by decide +kernel
theorem dL_ofPlace_20 : decode cL_ofPlace 20 = .ok (.iconst 2, 1) := by decide +kernel
theorem dL_ofPlace_21 : decode cL_ofPlace 21 = .ok (.ireturn, 1) := by decide +kernel
theorem dL_ofPlace_22 : decode cL_ofPlace 22 = .ok (.iconst 0, 1) := by decide +kernel
theorem dL_ofPlace_23 : decode cL_ofPlace 23 = .ok (.ireturn, 1) := by decide +kernel
set_option maxRecDepth 20000 in
theorem ggL_isWay_X1_isWay : GoodIn wsL_isWay wsX1_isWay := goodIn_ca (goodIn_r _ [6, 7, 8, 9, 10, 5, 11, 12, 13, 14, 15, 16, 17, 18, 19, 20, 21, 22, 25, 26, 27, 28, 29, 30, 31, 32, 33, 34, 35, 36, 37] (by decide +kernel) (by decide +kernel)) (goodIn_sub (fun _ h => List.mem_cons_of_mem _ (List.mem_append_right _ h)) (by decide +kernel))
set_option maxRecDepth 20000 in
theorem gL_isWay_X1_isWay : GoodIn wsL_isWay (wsV RL 60 RX1 yX1_isWay wsX1_isWay) := goodIn_app (goodIn_of _ (by decide +kernel)) ggL_isWay_X1_isWay
theorem dL_isWay_0 : decode cL_isWay 0 = .ok (.aload_n 3, 1) := by decide +kernel
theorem dL_isWay_1 : decode cL_isWay 1 = .ok (.aload_n 0, 1) := by decide +kernel
theorem dL_isWay_2 : decode cL_isWay 2 = .ok (.iload_n 1, 1) := by decide +kernel
theorem dL_isWay_3 : decode cL_isWay 3 = .ok (.iload_n 2, 1) := by decide +kernel
theorem dL_isWay_4 : decode cL_isWay 4 = .ok (.invokevirtual 60, 3) := by decide +kernel
theorem dL_isWay_7 : decode cL_isWay 7 = .ok (.ifCond .eq 7, 3) := by decide +kernel
theorem dL_isWay_10 : decode cL_isWay 10 = .ok (.lconst 1, 1) := by decide +kernel
theorem dL_isWay_11 : decode cL_isWay 11 = .ok (.goto 4, 3) := by decide +kernel
theorem dL_isWay_14 : decode cL_isWay 14 = .ok (.lconst 0, 1) := by decide +kernel
theorem dL_isWay_15 : decode cL_isWay 15 = .ok (.putfield 13, 3) := by decide +kernel
theorem dL_isWay_18 : decode cL_isWay 18 = .ok (.goto 7, 3) := by decide +kernel
theorem dL_isWay_21 : decode cL_isWay 21 = .ok (.astore 4, 2) := by decide +kernel
theorem dL_isWay_23 : decode cL_isWay 23 = .ok (.iconst 1, 1) := by decide +kernel
theorem dL_isWay_24 : decode cL_isWay 24 = .ok (.ireturn, 1) := by decide +kernel
theorem dL_isWay_25 : decode cL_isWay 25 = .ok (.iconst 0, 1) := by decide +kernel
theorem dL_isWay_26 : decode cL_isWay 26 = .ok (.ireturn, 1) := by decide +kernel
set_option maxRecDepth 20000 in
theorem ggL_ways_X1_ways : GoodIn wsL_ways wsX1_ways := goodIn_ca (goodIn_r _ [6, 7, 8, 9, 10, 11, 12, 13, 5, 14, 15, 16, 17, 18, 19, 20, 21, 22, 23, 24, 25, 26, 27, 28, 29, 30, 31, 32, 33, 34, 35, 36, 37, 38, 39, 40, 41, 42, 43, 44, 45, 46, 47, 48, 49, 50, 51, 52, 53, 54, 55, 56, 57, 58, 59, 60, 61, 62, 63, 64, 65, 66, 67, 68, 69, 70, 71, 72, 73, 74, 75, 76, 77, 78, 79, 80, 81, 82, 83, 84, 85, 86, 87, 88, 89, 90, 91, 92, 93, 94, 95, 96, 97, 98, 99, 100, 101, 102, 103, 104, 105, 106, 107, 108, 109, 110, 111, 112, 113, 114, 115, 116, 117, 118, 119, 120, 121, 122, 123, 124, 125, 126, 127, 128, 129, 130, 131, 132, 133, 134, 135, 136, 137, 138, 139, 140, 141, 142, 143, 144, 145, 146, 147, 148, 149, 150, 151, 152, 153, 154, 155, 156, 157, 158, 159, 160, 161, 162, 163, 164, 165, 166, 167, 168, 169, 170, 171, 172, 173, 174, 175, 176, 177, 178, 179, 180, 181, 182, 183, 184, 185, 186, 187, 188, 189, 190, 191, 192, 193, 194, 195, 196, 197, 198, 199, 200, 201, 202, 203, 204, 205, 206, 207, 208, 209, 210, 211, 212, 213, 214, 215, 216, 217, 218, 219, 220, 221, 222, 223, 224, 225, 226, 227, 228, 229, 230, 231, 232, 233, 234, 235, 236, 237, 238, 239, 240, 241, 244, 245, 246, 247, 248, 249, 250, 251, 252, 253, 254, 255, 256, 257, 258, 259, 260, 261, 262, 263, 264] (by decide +kernel) (by decide +kernel)) (goodIn_sub (fun _ h => List.mem_cons_of_mem _ (List.mem_append_right _ h)) (by decide +kernel))
set_option maxRecDepth 20000 in
theorem gL_ways_X1_ways : GoodIn wsL_ways (wsV RL 64 RX1 yX1_ways wsX1_ways) := goodIn_app (goodIn_of _ (by decide +kernel)) ggL_ways_X1_ways
theorem dL_ways_0 : decode cL_ways 0 = .ok (.aload_n 2, 1) := by decide +kernel
theorem dL_ways_1 : decode cL_ways 1 = .ok (.aload_n 0, 1) := by decide +kernel
theorem dL_ways_2 : decode cL_ways 2 = .ok (.iload_n 1, 1) := by decide +kernel
theorem dL_ways_3 : decode cL_ways 3 = .ok (.invokevirtual 64, 3) := by decide +kernel
theorem dL_ways_6 : decode cL_ways 6 = .ok (.putfield 68, 3) := by decide +kernel
theorem dL_ways_9 : decode cL_ways 9 = .ok (.goto 6, 3) := by decide +kernel
theorem dL_ways_12 : decode cL_ways 12 = .ok (.astore_n 3, 1) := by decide +kernel
theorem dL_ways_13 : decode cL_ways 13 = .ok (.iconst 1, 1) := by decide +kernel
theorem dL_ways_14 : decode cL_ways 14 = .ok (.ireturn, 1) := by decide +kernel
theorem dL_ways_15 : decode cL_ways 15 = .ok (.iconst 0, 1) := by decide +kernel
theorem dL_ways_16 : decode cL_ways 16 = .ok (.ireturn, 1) := by decide +kernel
set_option maxRecDepth 20000 in
theorem ggL_ahead_X1_ahead : GoodIn wsL_ahead wsX1_ahead := goodIn_ca (goodIn_r _ [6, 7, 8, 9, 10, 5, 11, 12, 13, 14, 15, 16, 17, 18, 19, 20, 21, 22, 23, 24, 25, 26, 27, 28, 29, 30, 31, 34, 35, 36, 37, 38, 39, 40, 41, 42, 43, 44, 45, 46] (by decide +kernel) (by decide +kernel)) (goodIn_sub (fun _ h => List.mem_cons_of_mem _ (List.mem_append_right _ h)) (by decide +kernel))
set_option maxRecDepth 20000 in
theorem gL_ahead_X1_ahead : GoodIn wsL_ahead (wsV RL 72 RX1 yX1_ahead wsX1_ahead) := goodIn_app (goodIn_of _ (by decide +kernel)) ggL_ahead_X1_ahead
theorem dL_ahead_0 : decode cL_ahead 0 = .ok (.aload_n 3, 1) := by decide +kernel
theorem dL_ahead_1 : decode cL_ahead 1 = .ok (.aload_n 0, 1) := by decide +kernel
theorem dL_ahead_2 : decode cL_ahead 2 = .ok (.iload_n 1, 1) := by decide +kernel
theorem dL_ahead_3 : decode cL_ahead 3 = .ok (.iload_n 2, 1) := by decide +kernel
theorem dL_ahead_4 : decode cL_ahead 4 = .ok (.invokevirtual 72, 3) := by decide +kernel
theorem dL_ahead_7 : decode cL_ahead 7 = .ok (.i2l, 1) := by decide +kernel
theorem dL_ahead_8 : decode cL_ahead 8 = .ok (.putfield 13, 3) := by decide +kernel
theorem dL_ahead_11 : decode cL_ahead 11 = .ok (.goto 7, 3) := by decide +kernel
theorem dL_ahead_14 : decode cL_ahead 14 = .ok (.astore 4, 2) := by decide +kernel
theorem dL_ahead_16 : decode cL_ahead 16 = .ok (.iconst 1, 1) := by decide +kernel
theorem dL_ahead_17 : decode cL_ahead 17 = .ok (.ireturn, 1) := by decide +kernel
theorem dL_ahead_18 : decode cL_ahead 18 = .ok (.iconst 0, 1) := by decide +kernel
theorem dL_ahead_19 : decode cL_ahead 19 = .ok (.ireturn, 1) := by decide +kernel
set_option maxRecDepth 20000 in
theorem ggL_coming_X1_coming : GoodIn wsL_coming wsX1_coming := goodIn_ca (goodIn_r _ [6, 7, 8, 9, 5, 10, 11, 12, 13, 14, 15, 16, 17, 18, 19, 20, 21, 22, 23, 24, 25, 26, 27, 28, 29, 30, 31, 32, 33, 34, 35, 36, 37, 38, 39, 40, 41, 42, 43, 44, 45, 46, 47, 48, 49, 50, 53, 54, 55, 56, 57, 58, 59, 60, 61, 62, 63, 64, 65] (by decide +kernel) (by decide +kernel)) (goodIn_sub (fun _ h => List.mem_cons_of_mem _ (List.mem_append_right _ h)) (by decide +kernel))
set_option maxRecDepth 20000 in
theorem gL_coming_X1_coming : GoodIn wsL_coming (wsV RL 75 RX1 yX1_coming wsX1_coming) := goodIn_app (goodIn_of _ (by decide +kernel)) ggL_coming_X1_coming
theorem dL_coming_0 : decode cL_coming 0 = .ok (.aload_n 2, 1) := by decide +kernel
theorem dL_coming_1 : decode cL_coming 1 = .ok (.aload_n 0, 1) := by decide +kernel
theorem dL_coming_2 : decode cL_coming 2 = .ok (.iload_n 1, 1) := by decide +kernel
theorem dL_coming_3 : decode cL_coming 3 = .ok (.invokevirtual 75, 3) := by decide +kernel
theorem dL_coming_6 : decode cL_coming 6 = .ok (.i2l, 1) := by decide +kernel
theorem dL_coming_7 : decode cL_coming 7 = .ok (.putfield 13, 3) := by decide +kernel
theorem dL_coming_10 : decode cL_coming 10 = .ok (.goto 6, 3) := by decide +kernel
theorem dL_coming_13 : decode cL_coming 13 = .ok (.astore_n 3, 1) := by decide +kernel
theorem dL_coming_14 : decode cL_coming 14 = .ok (.iconst 1, 1) := by decide +kernel
theorem dL_coming_15 : decode cL_coming 15 = .ok (.ireturn, 1) := by decide +kernel
theorem dL_coming_16 : decode cL_coming 16 = .ok (.iconst 0, 1) := by decide +kernel
theorem dL_coming_17 : decode cL_coming 17 = .ok (.ireturn, 1) := by decide +kernel
set_option maxRecDepth 20000 in
theorem ggL_keeping_X1_keeping : GoodIn wsL_keeping wsX1_keeping := goodIn_ca (goodIn_r _ [6, 7, 8, 9, 5, 10, 11, 12, 13, 14, 15, 16, 17, 18, 19, 20, 21, 22, 23, 24, 25, 26, 27, 28, 29, 30, 31, 32, 33, 34, 35, 36, 37, 38, 39, 40, 41, 42, 43, 44, 45, 46, 47, 48, 49, 50, 53, 54, 55, 56, 57, 58, 59, 60, 61, 62, 63, 64, 65] (by decide +kernel) (by decide +kernel)) (goodIn_sub (fun _ h => List.mem_cons_of_mem _ (List.mem_append_right _ h)) (by decide +kernel))
set_option maxRecDepth 20000 in
theorem gL_keeping_X1_keeping : GoodIn wsL_keeping (wsV RL 78 RX1 yX1_keeping wsX1_keeping) := goodIn_app (goodIn_of _ (by decide +kernel)) ggL_keeping_X1_keeping
theorem dL_keeping_0 : decode cL_keeping 0 = .ok (.aload_n 2, 1) := by decide +kernel
theorem dL_keeping_1 : decode cL_keeping 1 = .ok (.aload_n 0, 1) := by decide +kernel
theorem dL_keeping_2 : decode cL_keeping 2 = .ok (.iload_n 1, 1) := by decide +kernel
theorem dL_keeping_3 : decode cL_keeping 3 = .ok (.invokevirtual 78, 3) := by decide +kernel
theorem dL_keeping_6 : decode cL_keeping 6 = .ok (.i2l, 1) := by decide +kernel
theorem dL_keeping_7 : decode cL_keeping 7 = .ok (.putfield 13, 3) := by decide +kernel
theorem dL_keeping_10 : decode cL_keeping 10 = .ok (.goto 6, 3) := by decide +kernel
theorem dL_keeping_13 : decode cL_keeping 13 = .ok (.astore_n 3, 1) := by decide +kernel
theorem dL_keeping_14 : decode cL_keeping 14 = .ok (.iconst 1, 1) := by decide +kernel
theorem dL_keeping_15 : decode cL_keeping 15 = .ok (.ireturn, 1) := by decide +kernel
theorem dL_keeping_16 : decode cL_keeping 16 = .ok (.iconst 0, 1) := by decide +kernel
theorem dL_keeping_17 : decode cL_keeping 17 = .ok (.ireturn, 1) := by decide +kernel
set_option maxRecDepth 20000 in
theorem ggL_again_X1_again : GoodIn wsL_again wsX1_again := goodIn_ca (goodIn_r _ [6, 7, 8, 9, 5, 10, 11, 12, 13, 14, 15, 16, 17, 18, 19, 20, 21, 22, 23, 24, 25, 26, 27, 28, 29, 30, 31, 32, 33, 34, 35, 36, 37, 38, 39, 40, 41, 42, 43, 44, 45, 46, 47, 48, 49, 50, 53, 54, 55, 56, 57, 58, 59, 60, 61, 62, 63, 64, 65] (by decide +kernel) (by decide +kernel)) (goodIn_sub (fun _ h => List.mem_cons_of_mem _ (List.mem_append_right _ h)) (by decide +kernel))
set_option maxRecDepth 20000 in
theorem gL_again_X1_again : GoodIn wsL_again (wsV RL 81 RX1 yX1_again wsX1_again) := goodIn_app (goodIn_of _ (by decide +kernel)) ggL_again_X1_again
theorem dL_again_0 : decode cL_again 0 = .ok (.aload_n 2, 1) := by decide +kernel
theorem dL_again_1 : decode cL_again 1 = .ok (.aload_n 0, 1) := by decide +kernel
theorem dL_again_2 : decode cL_again 2 = .ok (.iload_n 1, 1) := by decide +kernel
theorem dL_again_3 : decode cL_again 3 = .ok (.invokevirtual 81, 3) := by decide +kernel
theorem dL_again_6 : decode cL_again 6 = .ok (.i2l, 1) := by decide +kernel
theorem dL_again_7 : decode cL_again 7 = .ok (.putfield 13, 3) := by decide +kernel
theorem dL_again_10 : decode cL_again 10 = .ok (.goto 6, 3) := by decide +kernel
theorem dL_again_13 : decode cL_again 13 = .ok (.astore_n 3, 1) := by decide +kernel
theorem dL_again_14 : decode cL_again 14 = .ok (.iconst 1, 1) := by decide +kernel
theorem dL_again_15 : decode cL_again 15 = .ok (.ireturn, 1) := by decide +kernel
theorem dL_again_16 : decode cL_again 16 = .ok (.iconst 0, 1) := by decide +kernel
theorem dL_again_17 : decode cL_again 17 = .ok (.ireturn, 1) := by decide +kernel
set_option maxRecDepth 20000 in
theorem ggL_ranked_X1_ranked : GoodIn wsL_ranked wsX1_ranked := goodIn_ca (goodIn_r _ [6, 7, 8, 9, 5, 10, 11, 12, 13, 14, 15, 16, 17, 18, 19, 20, 21, 22, 23, 24, 25, 26, 27, 28, 29, 30, 31, 32, 33, 34, 35, 36, 37, 38, 39, 40, 41, 42, 43, 44, 45, 46, 47, 48, 49, 50, 53, 54, 55, 56, 57, 58, 59, 60, 61, 62, 63, 64, 65] (by decide +kernel) (by decide +kernel)) (goodIn_sub (fun _ h => List.mem_cons_of_mem _ (List.mem_append_right _ h)) (by decide +kernel))
set_option maxRecDepth 20000 in
theorem gL_ranked_X1_ranked : GoodIn wsL_ranked (wsV RL 84 RX1 yX1_ranked wsX1_ranked) := goodIn_app (goodIn_of _ (by decide +kernel)) ggL_ranked_X1_ranked
theorem dL_ranked_0 : decode cL_ranked 0 = .ok (.aload_n 2, 1) := by decide +kernel
theorem dL_ranked_1 : decode cL_ranked 1 = .ok (.aload_n 0, 1) := by decide +kernel
theorem dL_ranked_2 : decode cL_ranked 2 = .ok (.iload_n 1, 1) := by decide +kernel
theorem dL_ranked_3 : decode cL_ranked 3 = .ok (.invokevirtual 84, 3) := by decide +kernel
theorem dL_ranked_6 : decode cL_ranked 6 = .ok (.i2l, 1) := by decide +kernel
theorem dL_ranked_7 : decode cL_ranked 7 = .ok (.putfield 13, 3) := by decide +kernel
theorem dL_ranked_10 : decode cL_ranked 10 = .ok (.goto 6, 3) := by decide +kernel
theorem dL_ranked_13 : decode cL_ranked 13 = .ok (.astore_n 3, 1) := by decide +kernel
theorem dL_ranked_14 : decode cL_ranked 14 = .ok (.iconst 1, 1) := by decide +kernel
theorem dL_ranked_15 : decode cL_ranked 15 = .ok (.ireturn, 1) := by decide +kernel
theorem dL_ranked_16 : decode cL_ranked 16 = .ok (.iconst 0, 1) := by decide +kernel
theorem dL_ranked_17 : decode cL_ranked 17 = .ok (.ireturn, 1) := by decide +kernel
set_option maxRecDepth 20000 in
theorem ggL_winner_X1_winner : GoodIn wsL_winner wsX1_winner := goodIn_ca (goodIn_ca (goodIn_r _ [7, 8, 9, 10, 11, 6, 12, 13, 14, 15, 16, 17, 18, 19, 20, 21, 22, 23, 24, 25, 26, 27, 28, 29, 30, 31, 32, 33, 34, 35, 36, 37, 38, 39, 40, 41, 42, 43, 44, 45, 46, 47, 48, 49, 50, 51, 52, 53, 54, 55, 56, 57, 60, 61, 62, 63, 64, 65, 66, 67, 68, 69, 70, 71, 72] (by decide +kernel) (by decide +kernel)) (goodIn_sub (fun _ h => List.mem_cons_of_mem _ (List.mem_append_left _ (List.mem_append_right _ h))) (by decide +kernel))) (goodIn_sub (fun _ h => List.mem_cons_of_mem _ (List.mem_append_right _ h)) (by decide +kernel))
set_option maxRecDepth 20000 in
theorem gL_winner_X1_winner : GoodIn wsL_winner (wsV RL 87 RX1 yX1_winner wsX1_winner) := goodIn_app (goodIn_of _ (by decide +kernel)) ggL_winner_X1_winner
theorem dL_winner_0 : decode cL_winner 0 = .ok (.aload_n 3, 1) := by decide +kernel
theorem dL_winner_1 : decode cL_winner 1 = .ok (.aload_n 0, 1) := by decide +kernel
theorem dL_winner_2 : decode cL_winner 2 = .ok (.iload_n 1, 1) := by decide +kernel
theorem dL_winner_3 : decode cL_winner 3 = .ok (.iload_n 2, 1) := by decide +kernel
theorem dL_winner_4 : decode cL_winner 4 = .ok (.invokevirtual 87, 3) := by decide +kernel
theorem dL_winner_7 : decode cL_winner 7 = .ok (.i2l, 1) := by decide +kernel
theorem dL_winner_8 : decode cL_winner 8 = .ok (.putfield 13, 3) := by decide +kernel
theorem dL_winner_11 : decode cL_winner 11 = .ok (.goto 11, 3) := by decide +kernel
theorem dL_winner_14 : decode cL_winner 14 = .ok (.astore 4, 2) := by decide +kernel
theorem dL_winner_16 : decode cL_winner 16 = .ok (.iconst 1, 1) := by decide +kernel
theorem dL_winner_17 : decode cL_winner 17 = .ok (.ireturn, 1) := by decide +kernel
theorem dL_winner_18 : decode cL_winner 18 = .ok (.astore 4, 2) := by decide +kernel
theorem dL_winner_20 : decode cL_winner 20 = .ok (.iconst 2, 1) := by decide +kernel
theorem dL_winner_21 : decode cL_winner 21 = .ok (.ireturn, 1) := by decide +kernel
theorem dL_winner_22 : decode cL_winner 22 = .ok (.iconst 0, 1) := by decide +kernel
theorem dL_winner_23 : decode cL_winner 23 = .ok (.ireturn, 1) := by decide +kernel
set_option maxRecDepth 20000 in
theorem ggL_rounds_X1_rounds : GoodIn wsL_rounds wsX1_rounds := goodIn_ca (goodIn_ca (goodIn_r _ [7, 8, 9, 10, 11, 6, 12, 13, 14, 15, 16, 17, 18, 19, 20, 21, 22, 23, 24, 25, 26, 27, 28, 29, 30, 31, 32, 33, 34, 35, 36, 39, 40, 41, 42, 43, 44, 45, 46, 47, 48, 49, 50, 51] (by decide +kernel) (by decide +kernel)) (goodIn_sub (fun _ h => List.mem_cons_of_mem _ (List.mem_append_left _ (List.mem_append_right _ h))) (by decide +kernel))) (goodIn_sub (fun _ h => List.mem_cons_of_mem _ (List.mem_append_right _ h)) (by decide +kernel))
set_option maxRecDepth 20000 in
theorem gL_rounds_X1_rounds : GoodIn wsL_rounds (wsV RL 90 RX1 yX1_rounds wsX1_rounds) := goodIn_app (goodIn_of _ (by decide +kernel)) ggL_rounds_X1_rounds
theorem dL_rounds_0 : decode cL_rounds 0 = .ok (.aload_n 3, 1) := by decide +kernel
theorem dL_rounds_1 : decode cL_rounds 1 = .ok (.aload_n 0, 1) := by decide +kernel
theorem dL_rounds_2 : decode cL_rounds 2 = .ok (.iload_n 1, 1) := by decide +kernel
theorem dL_rounds_3 : decode cL_rounds 3 = .ok (.iload_n 2, 1) := by decide +kernel
theorem dL_rounds_4 : decode cL_rounds 4 = .ok (.invokevirtual 90, 3) := by decide +kernel
theorem dL_rounds_7 : decode cL_rounds 7 = .ok (.i2l, 1) := by decide +kernel
theorem dL_rounds_8 : decode cL_rounds 8 = .ok (.putfield 13, 3) := by decide +kernel
theorem dL_rounds_11 : decode cL_rounds 11 = .ok (.goto 11, 3) := by decide +kernel
theorem dL_rounds_14 : decode cL_rounds 14 = .ok (.astore 4, 2) := by decide +kernel
theorem dL_rounds_16 : decode cL_rounds 16 = .ok (.iconst 1, 1) := by decide +kernel
theorem dL_rounds_17 : decode cL_rounds 17 = .ok (.ireturn, 1) := by decide +kernel
theorem dL_rounds_18 : decode cL_rounds 18 = .ok (.astore 4, 2) := by decide +kernel
theorem dL_rounds_20 : decode cL_rounds 20 = .ok (.iconst 2, 1) := by decide +kernel
theorem dL_rounds_21 : decode cL_rounds 21 = .ok (.ireturn, 1) := by decide +kernel
theorem dL_rounds_22 : decode cL_rounds 22 = .ok (.iconst 0, 1) := by decide +kernel
theorem dL_rounds_23 : decode cL_rounds 23 = .ok (.ireturn, 1) := by decide +kernel
set_option maxRecDepth 20000 in
theorem ggL_againRounds_X1_againRounds : GoodIn wsL_againRounds wsX1_againRounds := goodIn_ca (goodIn_ca (goodIn_r _ [7, 8, 9, 10, 11, 6, 12, 13, 14, 15, 16, 17, 18, 19, 20, 21, 22, 23, 24, 25, 26, 27, 28, 29, 30, 31, 32, 33, 34, 35, 36, 37, 38, 39, 40, 41, 42, 43, 44, 45, 46, 47, 48, 49, 50, 51, 52, 53, 54, 55, 56, 57, 58, 59, 60, 61, 62, 63, 66, 67, 68, 69, 70, 71, 72, 73, 74, 75, 76, 77, 78] (by decide +kernel) (by decide +kernel)) (goodIn_sub (fun _ h => List.mem_cons_of_mem _ (List.mem_append_left _ (List.mem_append_right _ h))) (by decide +kernel))) (goodIn_sub (fun _ h => List.mem_cons_of_mem _ (List.mem_append_right _ h)) (by decide +kernel))
set_option maxRecDepth 20000 in
theorem gL_againRounds_X1_againRounds : GoodIn wsL_againRounds (wsV RL 93 RX1 yX1_againRounds wsX1_againRounds) := goodIn_app (goodIn_of _ (by decide +kernel)) ggL_againRounds_X1_againRounds
theorem dL_againRounds_0 : decode cL_againRounds 0 = .ok (.aload_n 3, 1) := by decide +kernel
theorem dL_againRounds_1 : decode cL_againRounds 1 = .ok (.aload_n 0, 1) := by decide +kernel
theorem dL_againRounds_2 : decode cL_againRounds 2 = .ok (.iload_n 1, 1) := by decide +kernel
theorem dL_againRounds_3 : decode cL_againRounds 3 = .ok (.iload_n 2, 1) := by decide +kernel
theorem dL_againRounds_4 : decode cL_againRounds 4 = .ok (.invokevirtual 93, 3) := by decide +kernel
theorem dL_againRounds_7 : decode cL_againRounds 7 = .ok (.i2l, 1) := by decide +kernel
theorem dL_againRounds_8 : decode cL_againRounds 8 = .ok (.putfield 13, 3) := by decide +kernel
theorem dL_againRounds_11 : decode cL_againRounds 11 = .ok (.goto 11, 3) := by decide +kernel
theorem dL_againRounds_14 : decode cL_againRounds 14 = .ok (.astore 4, 2) := by decide +kernel
theorem dL_againRounds_16 : decode cL_againRounds 16 = .ok (.iconst 1, 1) := by decide +kernel
theorem dL_againRounds_17 : decode cL_againRounds 17 = .ok (.ireturn, 1) := by decide +kernel
theorem dL_againRounds_18 : decode cL_againRounds 18 = .ok (.astore 4, 2) := by decide +kernel
theorem dL_againRounds_20 : decode cL_againRounds 20 = .ok (.iconst 2, 1) := by decide +kernel
theorem dL_againRounds_21 : decode cL_againRounds 21 = .ok (.ireturn, 1) := by decide +kernel
theorem dL_againRounds_22 : decode cL_againRounds 22 = .ok (.iconst 0, 1) := by decide +kernel
theorem dL_againRounds_23 : decode cL_againRounds 23 = .ok (.ireturn, 1) := by decide +kernel
set_option maxRecDepth 20000 in
theorem ggL_falls_X1_falls : GoodIn wsL_falls wsX1_falls := goodIn_ca (goodIn_r _ [6, 7, 8, 9, 5, 10, 11, 12, 13, 14, 15, 16, 17, 18, 19, 20, 21, 22, 23, 24, 25, 26, 27, 28, 29, 30, 31, 32, 35, 36, 37, 38, 39, 40, 41, 42, 43, 44, 45, 46, 47] (by decide +kernel) (by decide +kernel)) (goodIn_sub (fun _ h => List.mem_cons_of_mem _ (List.mem_append_right _ h)) (by decide +kernel))
set_option maxRecDepth 20000 in
theorem gL_falls_X1_falls : GoodIn wsL_falls (wsV RL 96 RX1 yX1_falls wsX1_falls) := goodIn_app (goodIn_of _ (by decide +kernel)) ggL_falls_X1_falls
theorem dL_falls_0 : decode cL_falls 0 = .ok (.aload_n 2, 1) := by decide +kernel
theorem dL_falls_1 : decode cL_falls 1 = .ok (.aload_n 0, 1) := by decide +kernel
theorem dL_falls_2 : decode cL_falls 2 = .ok (.iload_n 1, 1) := by decide +kernel
theorem dL_falls_3 : decode cL_falls 3 = .ok (.invokevirtual 96, 3) := by decide +kernel
theorem dL_falls_6 : decode cL_falls 6 = .ok (.i2l, 1) := by decide +kernel
theorem dL_falls_7 : decode cL_falls 7 = .ok (.putfield 13, 3) := by decide +kernel
theorem dL_falls_10 : decode cL_falls 10 = .ok (.goto 6, 3) := by decide +kernel
theorem dL_falls_13 : decode cL_falls 13 = .ok (.astore_n 3, 1) := by decide +kernel
theorem dL_falls_14 : decode cL_falls 14 = .ok (.iconst 1, 1) := by decide +kernel
theorem dL_falls_15 : decode cL_falls 15 = .ok (.ireturn, 1) := by decide +kernel
theorem dL_falls_16 : decode cL_falls 16 = .ok (.iconst 0, 1) := by decide +kernel
theorem dL_falls_17 : decode cL_falls 17 = .ok (.ireturn, 1) := by decide +kernel
set_option maxRecDepth 20000 in
theorem ggL_choice_X1_choice : GoodIn wsL_choice wsX1_choice := goodIn_ca (goodIn_ca (goodIn_r _ [7, 8, 9, 10, 11, 6, 12, 13, 14, 15, 16, 17, 18, 19, 20, 21, 22, 23, 24, 25, 26, 27, 28, 29, 30, 31, 32, 33, 34, 35, 36, 37, 38, 39, 40, 41, 42, 43, 44, 45, 46, 47, 48, 49, 50, 51, 52, 53, 54, 55, 56, 57, 58, 59, 60, 61, 62, 63, 64, 65, 66, 67, 68, 69, 70, 71, 72, 73, 74, 75, 76, 77, 78, 79, 80, 81, 82, 83, 84, 85, 88, 89, 90, 91, 92, 93, 94, 95, 96, 97, 98, 99, 100] (by decide +kernel) (by decide +kernel)) (goodIn_sub (fun _ h => List.mem_cons_of_mem _ (List.mem_append_left _ (List.mem_append_right _ h))) (by decide +kernel))) (goodIn_sub (fun _ h => List.mem_cons_of_mem _ (List.mem_append_right _ h)) (by decide +kernel))
set_option maxRecDepth 20000 in
theorem gL_choice_X1_choice : GoodIn wsL_choice (wsV RL 99 RX1 yX1_choice wsX1_choice) := goodIn_app (goodIn_of _ (by decide +kernel)) ggL_choice_X1_choice
theorem dL_choice_0 : decode cL_choice 0 = .ok (.aload 4, 2) := by decide +kernel
theorem dL_choice_2 : decode cL_choice 2 = .ok (.aload_n 0, 1) := by decide +kernel
theorem dL_choice_3 : decode cL_choice 3 = .ok (.iload_n 1, 1) := by decide +kernel
theorem dL_choice_4 : decode cL_choice 4 = .ok (.iload_n 2, 1) := by decide +kernel
theorem dL_choice_5 : decode cL_choice 5 = .ok (.iload_n 3, 1) := by decide +kernel
theorem dL_choice_6 : decode cL_choice 6 = .ok (.invokevirtual 99, 3) := by decide +kernel
theorem dL_choice_9 : decode cL_choice 9 = .ok (.i2l, 1) := by decide +kernel
theorem dL_choice_10 : decode cL_choice 10 = .ok (.putfield 13, 3) := by decide +kernel
theorem dL_choice_13 : decode cL_choice 13 = .ok (.goto 11, 3) := by decide +kernel
theorem dL_choice_16 : decode cL_choice 16 = .ok (.astore 5, 2) := by decide +kernel
theorem dL_choice_18 : decode cL_choice 18 = .ok (.iconst 1, 1) := by decide +kernel
theorem dL_choice_19 : decode cL_choice 19 = .ok (.ireturn, 1) := by decide +kernel
theorem dL_choice_20 : decode cL_choice 20 = .ok (.astore 5, 2) := by decide +kernel
theorem dL_choice_22 : decode cL_choice 22 = .ok (.iconst 2, 1) := by decide +kernel
theorem dL_choice_23 : decode cL_choice 23 = .ok (.ireturn, 1) := by decide +kernel
theorem dL_choice_24 : decode cL_choice 24 = .ok (.iconst 0, 1) := by decide +kernel
theorem dL_choice_25 : decode cL_choice 25 = .ok (.ireturn, 1) := by decide +kernel
set_option maxRecDepth 20000 in
theorem ggL_isSure_X1_isSure : GoodIn wsL_isSure wsX1_isSure := goodIn_ca (goodIn_r _ [6, 7, 8, 5, 9, 10, 11, 12, 13, 14, 15, 16, 17, 18, 19, 20, 21, 22, 23, 24, 25, 26, 27, 28, 29, 30, 31, 32, 33, 34, 35, 36, 37, 38, 39, 40, 41, 42, 43, 44, 45, 46, 47, 48, 49, 50, 51, 52, 53, 54, 55, 56, 57, 58, 59, 60, 61, 62, 63, 64, 65, 66, 67, 68, 69, 70, 71, 72, 73, 74, 75, 76, 77, 78, 79, 80, 81, 82, 83, 84, 85, 86, 87, 90, 91, 92, 93, 94, 95, 96, 97, 98, 99, 100, 101, 102] (by decide +kernel) (by decide +kernel)) (goodIn_sub (fun _ h => List.mem_cons_of_mem _ (List.mem_append_right _ h)) (by decide +kernel))
set_option maxRecDepth 20000 in
theorem gL_isSure_X1_isSure : GoodIn wsL_isSure (wsV RL 103 RX1 yX1_isSure wsX1_isSure) := goodIn_app (goodIn_of _ (by decide +kernel)) ggL_isSure_X1_isSure
theorem dL_isSure_0 : decode cL_isSure 0 = .ok (.aload_n 3, 1) := by decide +kernel
theorem dL_isSure_1 : decode cL_isSure 1 = .ok (.aload_n 0, 1) := by decide +kernel
theorem dL_isSure_2 : decode cL_isSure 2 = .ok (.iload_n 1, 1) := by decide +kernel
theorem dL_isSure_3 : decode cL_isSure 3 = .ok (.iload_n 2, 1) := by decide +kernel
theorem dL_isSure_4 : decode cL_isSure 4 = .ok (.invokevirtual 103, 3) := by decide +kernel
theorem dL_isSure_7 : decode cL_isSure 7 = .ok (.ifCond .eq 7, 3) := by decide +kernel
theorem dL_isSure_10 : decode cL_isSure 10 = .ok (.lconst 1, 1) := by decide +kernel
theorem dL_isSure_11 : decode cL_isSure 11 = .ok (.goto 4, 3) := by decide +kernel
theorem dL_isSure_14 : decode cL_isSure 14 = .ok (.lconst 0, 1) := by decide +kernel
theorem dL_isSure_15 : decode cL_isSure 15 = .ok (.putfield 13, 3) := by decide +kernel
theorem dL_isSure_18 : decode cL_isSure 18 = .ok (.goto 7, 3) := by decide +kernel
theorem dL_isSure_21 : decode cL_isSure 21 = .ok (.astore 4, 2) := by decide +kernel
theorem dL_isSure_23 : decode cL_isSure 23 = .ok (.iconst 1, 1) := by decide +kernel
theorem dL_isSure_24 : decode cL_isSure 24 = .ok (.ireturn, 1) := by decide +kernel
theorem dL_isSure_25 : decode cL_isSure 25 = .ok (.iconst 0, 1) := by decide +kernel
theorem dL_isSure_26 : decode cL_isSure 26 = .ok (.ireturn, 1) := by decide +kernel
set_option maxRecDepth 20000 in
theorem ggL_play_X1_play : GoodIn wsL_play wsX1_play := goodIn_ca (goodIn_ca (goodIn_r _ [7, 8, 9, 10, 11, 12, 13, 14, 6, 15, 16, 17, 18, 19, 20, 21, 22, 23, 24, 25, 26, 27, 28, 29, 30, 31, 32, 33, 34, 35, 36, 37, 38, 39, 40, 41, 42, 43, 44, 45, 46, 47, 48, 49, 50, 51, 52, 53, 54, 55, 56, 57, 58, 59, 60, 61, 62, 63, 64, 65, 66, 67, 68, 69, 70, 71, 72, 73, 74, 75, 76, 77, 78, 79, 80, 81, 82, 83, 84, 85, 86, 87, 88, 89, 90, 91, 92, 93, 94, 95, 96, 97, 98, 99, 100, 101, 102, 103, 104, 105, 106, 107, 108, 109, 110, 111, 112, 113, 114, 115, 116, 117, 118, 119, 120, 121, 122, 123, 124, 125, 126, 127, 128, 129, 130, 131, 132, 133, 134, 135, 136, 137, 138, 139, 140, 141, 142, 143, 144, 145, 146, 147, 148, 149, 150, 151, 152, 153, 154, 155, 156, 157, 158, 159, 160, 161, 162, 163, 164, 165, 166, 167, 168, 169, 170, 171, 172, 173, 174, 175, 176, 177, 178, 179, 180, 181, 182, 183, 184, 185, 186, 187, 188, 189, 190, 191, 192, 193, 194, 195, 196, 197, 198, 199, 200, 201, 202, 203, 204, 205, 206, 207, 208, 209, 210, 211, 212, 213, 214, 215, 216, 217, 218, 219, 220, 221, 222, 223, 224, 225, 226, 227, 228, 229, 230, 231, 232, 233, 234, 235, 236, 237, 238, 239, 240, 241, 242, 243, 244, 245, 246, 247, 248, 249, 250, 251, 252, 253, 254, 255, 256, 257, 258, 259, 260, 261, 262, 263, 264, 265, 266, 267, 268, 269, 270, 271, 272, 273, 274, 275, 276, 277, 278, 279, 280, 281, 282, 283, 284, 285, 286, 287, 288, 289, 290, 291, 292, 293, 294, 295, 296, 297, 298, 299, 300, 301, 302, 303, 304, 305, 306, 307, 308, 309, 310, 311, 312, 315, 316, 317, 318, 319, 320, 321, 322, 323, 324, 325, 326, 327, 328, 329, 330, 331, 332, 333, 334, 335] (by decide +kernel) (by decide +kernel)) (goodIn_sub (fun _ h => List.mem_cons_of_mem _ (List.mem_append_left _ (List.mem_append_right _ h))) (by decide +kernel))) (goodIn_sub (fun _ h => List.mem_cons_of_mem _ (List.mem_append_right _ h)) (by decide +kernel))
set_option maxRecDepth 20000 in
theorem gL_play_X1_play : GoodIn wsL_play (wsV RL 106 RX1 yX1_play wsX1_play) := goodIn_app (goodIn_of _ (by decide +kernel)) ggL_play_X1_play
theorem dL_play_0 : decode cL_play 0 = .ok (.aload_n 3, 1) := by decide +kernel
theorem dL_play_1 : decode cL_play 1 = .ok (.aload_n 0, 1) := by decide +kernel
theorem dL_play_2 : decode cL_play 2 = .ok (.iload_n 1, 1) := by decide +kernel
theorem dL_play_3 : decode cL_play 3 = .ok (.iload_n 2, 1) := by decide +kernel
theorem dL_play_4 : decode cL_play 4 = .ok (.invokevirtual 106, 3) := by decide +kernel
theorem dL_play_7 : decode cL_play 7 = .ok (.putfield 68, 3) := by decide +kernel
theorem dL_play_10 : decode cL_play 10 = .ok (.goto 11, 3) := by decide +kernel
theorem dL_play_13 : decode cL_play 13 = .ok (.astore 4, 2) := by decide +kernel
theorem dL_play_15 : decode cL_play 15 = .ok (.iconst 1, 1) := by decide +kernel
theorem dL_play_16 : decode cL_play 16 = .ok (.ireturn, 1) := by decide +kernel
theorem dL_play_17 : decode cL_play 17 = .ok (.astore 4, 2) := by decide +kernel
theorem dL_play_19 : decode cL_play 19 = .ok (.iconst 2, 1) := by decide +kernel
theorem dL_play_20 : decode cL_play 20 = .ok (.ireturn, 1) := by decide +kernel
theorem dL_play_21 : decode cL_play 21 = .ok (.iconst 0, 1) := by decide +kernel
theorem dL_play_22 : decode cL_play 22 = .ok (.ireturn, 1) := by decide +kernel
set_option maxRecDepth 20000 in
theorem ggL_choices_X1_choices : GoodIn wsL_choices wsX1_choices := goodIn_ca (goodIn_r _ [6, 7, 8, 9, 5, 10, 11, 12, 13, 14, 15, 16, 17, 18, 19, 20, 21, 22, 23, 24, 25, 26, 27, 28, 29, 30, 31, 32, 33, 34, 35, 36, 37, 38, 41, 42, 43, 44, 45, 46, 47, 48, 49, 50, 51, 52, 53] (by decide +kernel) (by decide +kernel)) (goodIn_sub (fun _ h => List.mem_cons_of_mem _ (List.mem_append_right _ h)) (by decide +kernel))
set_option maxRecDepth 20000 in
theorem gL_choices_X1_choices : GoodIn wsL_choices (wsV RL 110 RX1 yX1_choices wsX1_choices) := goodIn_app (goodIn_of _ (by decide +kernel)) ggL_choices_X1_choices
theorem dL_choices_0 : decode cL_choices 0 = .ok (.aload_n 2, 1) := by decide +kernel
theorem dL_choices_1 : decode cL_choices 1 = .ok (.aload_n 0, 1) := by decide +kernel
theorem dL_choices_2 : decode cL_choices 2 = .ok (.iload_n 1, 1) := by decide +kernel
theorem dL_choices_3 : decode cL_choices 3 = .ok (.invokevirtual 110, 3) := by decide +kernel
theorem dL_choices_6 : decode cL_choices 6 = .ok (.i2l, 1) := by decide +kernel
theorem dL_choices_7 : decode cL_choices 7 = .ok (.putfield 13, 3) := by decide +kernel
theorem dL_choices_10 : decode cL_choices 10 = .ok (.goto 6, 3) := by decide +kernel
theorem dL_choices_13 : decode cL_choices 13 = .ok (.astore_n 3, 1) := by decide +kernel
theorem dL_choices_14 : decode cL_choices 14 = .ok (.iconst 1, 1) := by decide +kernel
theorem dL_choices_15 : decode cL_choices 15 = .ok (.ireturn, 1) := by decide +kernel
theorem dL_choices_16 : decode cL_choices 16 = .ok (.iconst 0, 1) := by decide +kernel
theorem dL_choices_17 : decode cL_choices 17 = .ok (.ireturn, 1) := by decide +kernel
set_option maxRecDepth 20000 in
theorem ggL_tried_X1_tried : GoodIn wsL_tried wsX1_tried := goodIn_ca (goodIn_r _ [6, 7, 8, 9, 10, 5, 11, 12, 13, 14, 15, 16, 17, 18, 19, 20, 21, 22, 23, 24, 25, 26, 27, 28, 29, 30, 31, 32, 33, 34, 35, 36, 37, 38, 39, 40, 41, 42, 43, 44, 45, 46, 47, 48, 49, 50, 51, 52, 53, 54, 55, 56, 57, 58, 59, 60, 61, 62, 63, 64, 65, 66, 67, 68, 69, 70, 71, 72, 73, 74, 75, 76, 77, 78, 79, 80, 81, 82, 83, 84, 85, 86, 87, 88, 89, 90, 91, 94, 95, 96, 97, 98, 99, 100, 101, 102, 103, 104, 105, 106] (by decide +kernel) (by decide +kernel)) (goodIn_sub (fun _ h => List.mem_cons_of_mem _ (List.mem_append_right _ h)) (by decide +kernel))
set_option maxRecDepth 20000 in
theorem gL_tried_X1_tried : GoodIn wsL_tried (wsV RL 113 RX1 yX1_tried wsX1_tried) := goodIn_app (goodIn_of _ (by decide +kernel)) ggL_tried_X1_tried
theorem dL_tried_0 : decode cL_tried 0 = .ok (.aload_n 3, 1) := by decide +kernel
theorem dL_tried_1 : decode cL_tried 1 = .ok (.aload_n 0, 1) := by decide +kernel
theorem dL_tried_2 : decode cL_tried 2 = .ok (.iload_n 1, 1) := by decide +kernel
theorem dL_tried_3 : decode cL_tried 3 = .ok (.iload_n 2, 1) := by decide +kernel
theorem dL_tried_4 : decode cL_tried 4 = .ok (.invokevirtual 113, 3) := by decide +kernel
theorem dL_tried_7 : decode cL_tried 7 = .ok (.i2l, 1) := by decide +kernel
theorem dL_tried_8 : decode cL_tried 8 = .ok (.putfield 13, 3) := by decide +kernel
theorem dL_tried_11 : decode cL_tried 11 = .ok (.goto 7, 3) := by decide +kernel
theorem dL_tried_14 : decode cL_tried 14 = .ok (.astore 4, 2) := by decide +kernel
theorem dL_tried_16 : decode cL_tried 16 = .ok (.iconst 1, 1) := by decide +kernel
theorem dL_tried_17 : decode cL_tried 17 = .ok (.ireturn, 1) := by decide +kernel
theorem dL_tried_18 : decode cL_tried 18 = .ok (.iconst 0, 1) := by decide +kernel
theorem dL_tried_19 : decode cL_tried 19 = .ok (.ireturn, 1) := by decide +kernel
set_option maxRecDepth 20000 in
theorem ggL_withGoal_X1_withGoal : GoodIn wsL_withGoal wsX1_withGoal := goodIn_ca (goodIn_ca (goodIn_r _ [7, 8, 9, 10, 11, 12, 6, 13, 14, 15, 16, 17, 18, 19, 20, 21, 22, 23, 24, 25, 26, 27, 28, 29, 30, 31, 32, 33, 34, 35, 36, 37, 38, 39, 40, 41, 42, 43, 44, 45, 46, 47, 48, 49, 50, 51, 52, 53, 54, 55, 56, 57, 58, 59, 60, 61, 62, 63, 64, 65, 66, 69, 70, 71, 72, 73, 74, 75, 76, 77, 78, 79, 80, 81] (by decide +kernel) (by decide +kernel)) (goodIn_sub (fun _ h => List.mem_cons_of_mem _ (List.mem_append_left _ (List.mem_append_right _ h))) (by decide +kernel))) (goodIn_sub (fun _ h => List.mem_cons_of_mem _ (List.mem_append_right _ h)) (by decide +kernel))
set_option maxRecDepth 20000 in
theorem gL_withGoal_X1_withGoal : GoodIn wsL_withGoal (wsV RL 116 RX1 yX1_withGoal wsX1_withGoal) := goodIn_app (goodIn_of _ (by decide +kernel)) ggL_withGoal_X1_withGoal
theorem dL_withGoal_0 : decode cL_withGoal 0 = .ok (.aload 4, 2) := by decide +kernel
theorem dL_withGoal_2 : decode cL_withGoal 2 = .ok (.aload_n 0, 1) := by decide +kernel
theorem dL_withGoal_3 : decode cL_withGoal 3 = .ok (.iload_n 1, 1) := by decide +kernel
theorem dL_withGoal_4 : decode cL_withGoal 4 = .ok (.iload_n 2, 1) := by decide +kernel
theorem dL_withGoal_5 : decode cL_withGoal 5 = .ok (.iload_n 3, 1) := by decide +kernel
theorem dL_withGoal_6 : decode cL_withGoal 6 = .ok (.invokevirtual 116, 3) := by decide +kernel
theorem dL_withGoal_9 : decode cL_withGoal 9 = .ok (.i2l, 1) := by decide +kernel
theorem dL_withGoal_10 : decode cL_withGoal 10 = .ok (.putfield 13, 3) := by decide +kernel
theorem dL_withGoal_13 : decode cL_withGoal 13 = .ok (.goto 11, 3) := by decide +kernel
theorem dL_withGoal_16 : decode cL_withGoal 16 = .ok (.astore 5, 2) := by decide +kernel
theorem dL_withGoal_18 : decode cL_withGoal 18 = .ok (.iconst 1, 1) := by decide +kernel
theorem dL_withGoal_19 : decode cL_withGoal 19 = .ok (.ireturn, 1) := by decide +kernel
theorem dL_withGoal_20 : decode cL_withGoal 20 = .ok (.astore 5, 2) := by decide +kernel
theorem dL_withGoal_22 : decode cL_withGoal 22 = .ok (.iconst 2, 1) := by decide +kernel
theorem dL_withGoal_23 : decode cL_withGoal 23 = .ok (.ireturn, 1) := by decide +kernel
theorem dL_withGoal_24 : decode cL_withGoal 24 = .ok (.iconst 0, 1) := by decide +kernel
theorem dL_withGoal_25 : decode cL_withGoal 25 = .ok (.ireturn, 1) := by decide +kernel
set_option maxRecDepth 20000 in
theorem ggL_withWay_X1_withWay : GoodIn wsL_withWay wsX1_withWay := goodIn_ca (goodIn_ca (goodIn_r _ [7, 8, 9, 10, 11, 12, 6, 13, 14, 15, 16, 17, 18, 19, 20, 21, 22, 23, 24, 25, 26, 27, 28, 29, 30, 31, 32, 33, 34, 35, 36, 37, 38, 39, 40, 41, 42, 43, 44, 45, 46, 47, 48, 49, 50, 51, 52, 53, 54, 55, 56, 57, 58, 59, 60, 61, 62, 63, 64, 65, 66, 67, 68, 69, 70, 71, 72, 73, 74, 77, 78, 79, 80, 81, 82, 83, 84, 85, 86, 87, 88, 89] (by decide +kernel) (by decide +kernel)) (goodIn_sub (fun _ h => List.mem_cons_of_mem _ (List.mem_append_left _ (List.mem_append_right _ h))) (by decide +kernel))) (goodIn_sub (fun _ h => List.mem_cons_of_mem _ (List.mem_append_right _ h)) (by decide +kernel))
set_option maxRecDepth 20000 in
theorem gL_withWay_X1_withWay : GoodIn wsL_withWay (wsV RL 119 RX1 yX1_withWay wsX1_withWay) := goodIn_app (goodIn_of _ (by decide +kernel)) ggL_withWay_X1_withWay
theorem dL_withWay_0 : decode cL_withWay 0 = .ok (.aload 5, 2) := by decide +kernel
theorem dL_withWay_2 : decode cL_withWay 2 = .ok (.aload_n 0, 1) := by decide +kernel
theorem dL_withWay_3 : decode cL_withWay 3 = .ok (.iload_n 1, 1) := by decide +kernel
theorem dL_withWay_4 : decode cL_withWay 4 = .ok (.iload_n 2, 1) := by decide +kernel
theorem dL_withWay_5 : decode cL_withWay 5 = .ok (.iload_n 3, 1) := by decide +kernel
theorem dL_withWay_6 : decode cL_withWay 6 = .ok (.iload 4, 2) := by decide +kernel
theorem dL_withWay_8 : decode cL_withWay 8 = .ok (.invokevirtual 119, 3) := by decide +kernel
theorem dL_withWay_11 : decode cL_withWay 11 = .ok (.i2l, 1) := by decide +kernel
theorem dL_withWay_12 : decode cL_withWay 12 = .ok (.putfield 13, 3) := by decide +kernel
theorem dL_withWay_15 : decode cL_withWay 15 = .ok (.goto 11, 3) := by decide +kernel
theorem dL_withWay_18 : decode cL_withWay 18 = .ok (.astore 6, 2) := by decide +kernel
theorem dL_withWay_20 : decode cL_withWay 20 = .ok (.iconst 1, 1) := by decide +kernel
theorem dL_withWay_21 : decode cL_withWay 21 = .ok (.ireturn, 1) := by decide +kernel
theorem dL_withWay_22 : decode cL_withWay 22 = .ok (.astore 6, 2) := by decide +kernel
theorem dL_withWay_24 : decode cL_withWay 24 = .ok (.iconst 2, 1) := by decide +kernel
theorem dL_withWay_25 : decode cL_withWay 25 = .ok (.ireturn, 1) := by decide +kernel
theorem dL_withWay_26 : decode cL_withWay 26 = .ok (.iconst 0, 1) := by decide +kernel
theorem dL_withWay_27 : decode cL_withWay 27 = .ok (.ireturn, 1) := by decide +kernel
set_option maxRecDepth 20000 in
theorem ggL_house_X1_house : GoodIn wsL_house wsX1_house := goodIn_ca (goodIn_r _ [6, 7, 8, 9, 10, 11, 5, 12, 13, 14, 17, 18, 19, 20, 21, 22, 23] (by decide +kernel) (by decide +kernel)) (goodIn_sub (fun _ h => List.mem_cons_of_mem _ (List.mem_append_right _ h)) (by decide +kernel))
set_option maxRecDepth 20000 in
theorem gL_house_X1_house : GoodIn wsL_house (wsV RL 123 RX1 yX1_house wsX1_house) := goodIn_app (goodIn_of _ (by decide +kernel)) ggL_house_X1_house
theorem dL_house_0 : decode cL_house 0 = .ok (.aload_n 2, 1) := by decide +kernel
theorem dL_house_1 : decode cL_house 1 = .ok (.aload_n 0, 1) := by decide +kernel
theorem dL_house_2 : decode cL_house 2 = .ok (.iload_n 1, 1) := by decide +kernel
theorem dL_house_3 : decode cL_house 3 = .ok (.invokevirtual 123, 3) := by decide +kernel
theorem dL_house_6 : decode cL_house 6 = .ok (.i2l, 1) := by decide +kernel
theorem dL_house_7 : decode cL_house 7 = .ok (.putfield 13, 3) := by decide +kernel
theorem dL_house_10 : decode cL_house 10 = .ok (.goto 6, 3) := by decide +kernel
theorem dL_house_13 : decode cL_house 13 = .ok (.astore_n 3, 1) := by decide +kernel
theorem dL_house_14 : decode cL_house 14 = .ok (.iconst 1, 1) := by decide +kernel
theorem dL_house_15 : decode cL_house 15 = .ok (.ireturn, 1) := by decide +kernel
theorem dL_house_16 : decode cL_house 16 = .ok (.iconst 0, 1) := by decide +kernel
theorem dL_house_17 : decode cL_house 17 = .ok (.ireturn, 1) := by decide +kernel
set_option maxRecDepth 20000 in
theorem ggL_law_X1_init : GoodIn wsL_law wsX1_init := goodIn_r _ [11, 12, 13, 14, 15, 16, 17, 18, 19, 20, 21, 22, 23, 24, 25, 26, 1037, 1038, 1039, 1040, 1041, 1042, 1017, 1018, 1019, 1020, 1021, 1022, 1023] (by decide +kernel) (by decide +kernel)
set_option maxRecDepth 20000 in
theorem gL_law_X1_init : GoodIn wsL_law (wsX1_init) := ggL_law_X1_init
set_option maxRecDepth 20000 in
theorem ggL_law_X3_init : GoodIn wsL_law wsX3_init := goodIn_r _ [29, 30, 13, 14, 31, 32, 33, 5, 34, 35, 36, 37, 24, 38, 39, 40, 41, 1024, 1025, 1026, 1027, 1028, 1029, 1030, 1031, 1032, 1033, 1034] (by decide +kernel) (by decide +kernel)
set_option maxRecDepth 20000 in
theorem gL_law_X3_init : GoodIn wsL_law (wsX3_init) := ggL_law_X3_init
set_option maxRecDepth 20000 in
theorem ggL_law_X2_init : GoodIn wsL_law wsX2_init := goodIn_r _ [43, 44, 13, 14] (by decide +kernel) (by decide +kernel)
set_option maxRecDepth 20000 in
theorem gL_law_X2_init_n130 : GoodIn wsL_law (wsX2_init) := ggL_law_X2_init
set_option maxRecDepth 20000 in
theorem ggL_law_L_places : GoodIn wsL_law wsL_places := goodIn_ca (goodIn_r _ [48, 49, 50, 51, 52, 2, 53, 18, 54, 55, 56, 57, 58, 59, 60, 61, 62, 63, 64, 17, 65, 26, 66, 67, 68, 69, 25, 1035, 1036, 1017, 1018, 1019, 1020, 1021, 1022, 1023, 1037, 1038, 1039, 1040, 1041, 1042] (by decide +kernel) (by decide +kernel)) (goodIn_sub (fun _ h => List.mem_append_left _ (List.mem_append_right _ h)) (by decide +kernel))
set_option maxRecDepth 20000 in
theorem gL_law_L_places : GoodIn wsL_law (va_wsS RL 131 yL_places wsL_places) := goodIn_app (goodIn_of _ (by decide +kernel)) ggL_law_L_places
set_option maxRecDepth 20000 in
theorem ggL_law_X3_places : GoodIn wsL_law wsX3_places := goodIn_r _ [73, 35, 74, 75, 76, 5, 77, 78, 79, 80, 81, 82, 31, 32, 33, 34, 36, 37, 24, 38, 39, 40, 41, 83, 84, 85, 86, 87, 1024, 1025, 1026, 1027, 1028, 1029, 1030, 1031, 1032, 1033, 1034] (by decide +kernel) (by decide +kernel)
set_option maxRecDepth 20000 in
theorem gL_law_X3_places : GoodIn wsL_law (wsV RL 136 RX3 yX3_places wsX3_places) := goodIn_app (goodIn_of _ (by decide +kernel)) ggL_law_X3_places
set_option maxRecDepth 20000 in
theorem ggL_law_L_give : GoodIn wsL_law wsL_give := goodIn_ca (goodIn_ca (goodIn_r _ [90, 91, 49, 92, 93, 94, 2, 95, 18, 56, 96, 97, 98, 99, 100, 101, 102, 103, 104, 57, 58, 59, 60, 61, 105, 106, 107, 17, 108, 66, 109, 110, 111, 112, 1035, 1036, 1017, 1018, 1019, 1020, 1021, 1022, 1023, 1037, 1038, 1039, 1040, 1041, 1042] (by decide +kernel) (by decide +kernel)) (goodIn_sub (fun _ h => List.mem_append_right _ h) (by decide +kernel))) (goodIn_sub (fun _ h => List.mem_append_left _ (List.mem_append_right _ h)) (by decide +kernel))
set_option maxRecDepth 20000 in
theorem gL_law_L_give : GoodIn wsL_law (va_wsS RL 137 yL_give wsL_give) := goodIn_app (goodIn_of _ (by decide +kernel)) ggL_law_L_give
set_option maxRecDepth 20000 in
theorem ggL_law_X3_give : GoodIn wsL_law wsX3_give := goodIn_r _ [116, 36, 117, 118, 119, 5, 120, 35, 121, 122, 123, 78, 79, 80, 81, 82, 124, 125, 126, 127, 83, 84, 85, 86, 87, 1024, 1025, 1026, 1027, 1028, 1029, 1030, 1031, 1032, 1033, 1034] (by decide +kernel) (by decide +kernel)
set_option maxRecDepth 20000 in
theorem gL_law_X3_give : GoodIn wsL_law (wsV RL 140 RX3 yX3_give wsX3_give) := goodIn_app (goodIn_of _ (by decide +kernel)) ggL_law_X3_give
set_option maxRecDepth 20000 in
theorem ggL_law_L_rank : GoodIn wsL_law wsL_rank := goodIn_ca (goodIn_ca (goodIn_r _ [130, 91, 49, 131, 132, 133, 2, 134, 18, 56, 96, 97, 98, 99, 100, 101, 57, 58, 59, 60, 61, 135, 136, 137, 17, 138, 68, 69, 139, 140, 141, 142, 143, 144, 1035, 1036, 1017, 1018, 1019, 1020, 1021, 1022, 1023, 1037, 1038, 1039, 1040, 1041, 1042] (by decide +kernel) (by decide +kernel)) (goodIn_sub (fun _ h => List.mem_append_right _ h) (by decide +kernel))) (goodIn_sub (fun _ h => List.mem_append_left _ (List.mem_append_right _ h)) (by decide +kernel))
set_option maxRecDepth 20000 in
theorem gL_law_L_rank : GoodIn wsL_law (va_wsS RL 141 yL_rank wsL_rank) := goodIn_app (goodIn_of _ (by decide +kernel)) ggL_law_L_rank
set_option maxRecDepth 20000 in
theorem ggL_law_X3_rank : GoodIn wsL_law wsX3_rank := goodIn_r _ [148, 38, 117, 118, 119, 5, 120, 35, 78, 79, 80, 81, 82, 83, 84, 85, 86, 87, 1024, 1025, 1026, 1027, 1028, 1029, 1030, 1031, 1032, 1033, 1034] (by decide +kernel) (by decide +kernel)
set_option maxRecDepth 20000 in
theorem gL_law_X3_rank : GoodIn wsL_law (wsV RL 143 RX3 yX3_rank wsX3_rank) := goodIn_app (goodIn_of _ (by decide +kernel)) ggL_law_X3_rank
set_option maxRecDepth 20000 in
theorem ggL_law_L_goal : GoodIn wsL_law wsL_goal := goodIn_ca (goodIn_r _ [151, 49, 152, 153, 154, 2, 155, 18, 56, 156, 157, 158, 159, 160, 161, 162, 17, 163, 26, 57, 58, 59, 60, 61, 1035, 1036, 1017, 1018, 1019, 1020, 1021, 1022, 1023, 1037, 1038, 1039, 1040, 1041, 1042] (by decide +kernel) (by decide +kernel)) (goodIn_sub (fun _ h => List.mem_append_left _ (List.mem_append_right _ h)) (by decide +kernel))
set_option maxRecDepth 20000 in
theorem gL_law_L_goal : GoodIn wsL_law (va_wsS RL 144 yL_goal wsL_goal) := goodIn_app (goodIn_of _ (by decide +kernel)) ggL_law_L_goal
set_option maxRecDepth 20000 in
theorem ggL_law_X3_goal : GoodIn wsL_law wsX3_goal := goodIn_r _ [167, 37, 168, 169, 170, 5, 171, 35, 74, 75, 76, 77, 78, 79, 80, 81, 82, 83, 84, 85, 86, 87, 1024, 1025, 1026, 1027, 1028, 1029, 1030, 1031, 1032, 1033, 1034] (by decide +kernel) (by decide +kernel)
set_option maxRecDepth 20000 in
theorem gL_law_X3_goal : GoodIn wsL_law (wsV RL 146 RX3 yX3_goal wsX3_goal) := goodIn_app (goodIn_of _ (by decide +kernel)) ggL_law_X3_goal
set_option maxRecDepth 20000 in
theorem ggL_law_L_way : GoodIn wsL_law wsL_way := goodIn_ca (goodIn_r _ [174, 91, 175, 176, 177, 2, 178, 18, 56, 96, 97, 98, 99, 100, 101, 179, 180, 181, 17, 182, 25, 183, 139, 140, 184, 185, 186, 187, 26, 188, 189, 190, 191, 192, 193, 194, 195, 196, 197, 198, 199, 200, 201, 202, 203, 204, 205, 206, 207, 208, 1035, 1036, 1017, 1018, 1019, 1020, 1021, 1022, 1023, 1037, 1038, 1039, 1040, 1041, 1042] (by decide +kernel) (by decide +kernel)) (goodIn_sub (fun _ h => List.mem_append_right _ h) (by decide +kernel))
set_option maxRecDepth 20000 in
theorem gL_law_L_way : GoodIn wsL_law (va_wsS RL 147 yL_way wsL_way) := goodIn_app (goodIn_of _ (by decide +kernel)) ggL_law_L_way
set_option maxRecDepth 20000 in
theorem ggL_law_X3_way : GoodIn wsL_law wsX3_way := goodIn_r _ [212, 39, 117, 118, 119, 5, 120, 35, 74, 75, 76, 77, 78, 79, 80, 81, 82, 213, 214, 215, 83, 84, 85, 86, 87, 216, 217, 218, 219, 220, 190, 191, 192, 193, 194, 195, 221, 222, 223, 224, 225, 1024, 1025, 1026, 1027, 1028, 1029, 1030, 1031, 1032, 1033, 1034] (by decide +kernel) (by decide +kernel)
set_option maxRecDepth 20000 in
theorem gL_law_X3_way : GoodIn wsL_law (wsV RL 149 RX3 yX3_way wsX3_way) := goodIn_app (goodIn_of _ (by decide +kernel)) ggL_law_X3_way
set_option maxRecDepth 20000 in
theorem ggL_law_L_lose : GoodIn wsL_law wsL_lose := goodIn_ca (goodIn_r _ [228, 91, 229, 230, 231, 2, 232, 18, 56, 96, 97, 98, 99, 100, 101, 179, 180, 181, 17, 182, 25, 183, 139, 140, 233, 234, 235, 236, 188, 205, 206, 207, 208, 1035, 1036, 1017, 1018, 1019, 1020, 1021, 1022, 1023, 1037, 1038, 1039, 1040, 1041, 1042] (by decide +kernel) (by decide +kernel)) (goodIn_sub (fun _ h => List.mem_append_right _ h) (by decide +kernel))
set_option maxRecDepth 20000 in
theorem gL_law_L_lose : GoodIn wsL_law (va_wsS RL 150 yL_lose wsL_lose) := goodIn_app (goodIn_of _ (by decide +kernel)) ggL_law_L_lose
set_option maxRecDepth 20000 in
theorem ggL_law_X3_lose : GoodIn wsL_law wsX3_lose := goodIn_r _ [240, 39, 117, 118, 119, 5, 120, 35, 74, 75, 76, 77, 78, 79, 80, 81, 82, 213, 214, 215, 83, 84, 85, 86, 87, 1024, 1025, 1026, 1027, 1028, 1029, 1030, 1031, 1032, 1033, 1034] (by decide +kernel) (by decide +kernel)
set_option maxRecDepth 20000 in
theorem gL_law_X3_lose : GoodIn wsL_law (wsV RL 152 RX3 yX3_lose wsX3_lose) := goodIn_app (goodIn_of _ (by decide +kernel)) ggL_law_X3_lose
set_option maxRecDepth 20000 in
theorem ggL_law_L_circle : GoodIn wsL_law wsL_circle := goodIn_ca (goodIn_r _ [243, 49, 244, 245, 246, 2, 247, 18, 19, 56, 57, 58, 59, 60, 61, 184, 185, 186, 17, 187, 26, 188, 180, 181, 182, 25, 189, 190, 191, 192, 193, 194, 195, 248, 249, 250, 251, 66, 67, 68, 69, 252, 253, 254, 255, 201, 202, 203, 204, 205, 206, 207, 208, 196, 197, 198, 199, 200, 1035, 1036, 1017, 1018, 1019, 1020, 1021, 1022, 1023, 1037, 1038, 1039, 1040, 1041, 1042] (by decide +kernel) (by decide +kernel)) (goodIn_sub (fun _ h => List.mem_append_left _ (List.mem_append_right _ h)) (by decide +kernel))
set_option maxRecDepth 20000 in
theorem gL_law_L_circle : GoodIn wsL_law (va_wsS RL 153 yL_circle wsL_circle) := goodIn_app (goodIn_of _ (by decide +kernel)) ggL_law_L_circle
set_option maxRecDepth 20000 in
theorem ggL_law_X3_circle : GoodIn wsL_law wsX3_circle := goodIn_r _ [259, 35, 39, 74, 75, 76, 5, 77, 78, 79, 80, 81, 82, 213, 214, 215, 216, 217, 218, 219, 220, 190, 191, 192, 193, 194, 195, 221, 222, 223, 224, 225, 83, 84, 85, 86, 87, 1024, 1025, 1026, 1027, 1028, 1029, 1030, 1031, 1032, 1033, 1034] (by decide +kernel) (by decide +kernel)
set_option maxRecDepth 20000 in
theorem gL_law_X3_circle : GoodIn wsL_law (wsV RL 155 RX3 yX3_circle wsX3_circle) := goodIn_app (goodIn_of _ (by decide +kernel)) ggL_law_X3_circle
set_option maxRecDepth 20000 in
theorem ggL_law_L_strew : GoodIn wsL_law wsL_strew := goodIn_ca (goodIn_r _ [262, 49, 263, 264, 265, 2, 266, 18, 56, 57, 58, 59, 60, 61, 62, 63, 64, 17, 65, 26, 66, 67, 68, 69, 25, 109, 110, 111, 112, 141, 142, 143, 144, 252, 253, 254, 255, 201, 202, 203, 204, 188, 180, 181, 182, 205, 206, 207, 208, 184, 185, 186, 187, 189, 190, 191, 192, 193, 194, 195, 1035, 1036, 1017, 1018, 1019, 1020, 1021, 1022, 1023, 1037, 1038, 1039, 1040, 1041, 1042] (by decide +kernel) (by decide +kernel)) (goodIn_sub (fun _ h => List.mem_append_left _ (List.mem_append_right _ h)) (by decide +kernel))
set_option maxRecDepth 20000 in
theorem gL_law_L_strew : GoodIn wsL_law (va_wsS RL 156 yL_strew wsL_strew) := goodIn_app (goodIn_of _ (by decide +kernel)) ggL_law_L_strew
set_option maxRecDepth 20000 in
theorem ggL_law_X3_strew : GoodIn wsL_law wsX3_strew := goodIn_r _ [270, 36, 37, 35, 38, 39, 74, 75, 76, 5, 77, 78, 79, 80, 81, 82, 216, 217, 218, 219, 220, 190, 191, 192, 193, 194, 195, 83, 84, 85, 86, 87, 1024, 1025, 1026, 1027, 1028, 1029, 1030, 1031, 1032, 1033, 1034] (by decide +kernel) (by decide +kernel)
set_option maxRecDepth 20000 in
theorem gL_law_X3_strew : GoodIn wsL_law (wsV RL 158 RX3 yX3_strew wsX3_strew) := goodIn_app (goodIn_of _ (by decide +kernel)) ggL_law_X3_strew
set_option maxRecDepth 20000 in
theorem ggL_law_X1_change : GoodIn wsL_law wsX1_change := goodIn_r _ [274, 18, 56, 160, 161, 162, 17, 163, 26, 275, 276, 277, 278, 66, 279, 280, 190, 191, 192, 193, 194, 195, 1017, 1018, 1019, 1020, 1021, 1022, 1023, 1037, 1038, 1039, 1040, 1041, 1042] (by decide +kernel) (by decide +kernel)
set_option maxRecDepth 20000 in
theorem gL_law_X1_change : GoodIn wsL_law (wsV RL 159 RX1 yX1_change wsX1_change) := goodIn_app (goodIn_of _ (by decide +kernel)) ggL_law_X1_change
set_option maxRecDepth 20000 in
theorem ggL_law_X3_change : GoodIn wsL_law wsX3_change := goodIn_r _ [284, 82, 36, 35, 168, 169, 170, 5, 171, 220, 190, 191, 192, 193, 194, 195, 83, 84, 85, 86, 87, 1024, 1025, 1026, 1027, 1028, 1029, 1030, 1031, 1032, 1033, 1034] (by decide +kernel) (by decide +kernel)
set_option maxRecDepth 20000 in
theorem gL_law_X3_change : GoodIn wsL_law (wsV RL 163 RX3 yX3_change wsX3_change) := goodIn_app (goodIn_of _ (by decide +kernel)) ggL_law_X3_change
set_option maxRecDepth 20000 in
theorem ggL_law_L_stand : GoodIn wsL_law wsL_stand := goodIn_ca (goodIn_r _ [287, 91, 288, 289, 290, 2, 291, 54, 55, 56, 96, 97, 98, 99, 100, 101, 18, 1035, 1036, 1017, 1018, 1019, 1020, 1021, 1022, 1023, 1037, 1038, 1039, 1040, 1041, 1042] (by decide +kernel) (by decide +kernel)) (goodIn_sub (fun _ h => List.mem_append_right _ h) (by decide +kernel))
set_option maxRecDepth 20000 in
theorem gL_law_L_stand : GoodIn wsL_law (va_wsS RL 164 yL_stand wsL_stand) := goodIn_app (goodIn_of _ (by decide +kernel)) ggL_law_L_stand
set_option maxRecDepth 20000 in
theorem ggL_law_X3_stand : GoodIn wsL_law wsX3_stand := goodIn_r _ [295, 40, 41, 117, 118, 119, 5, 120, 35, 74, 75, 76, 77, 78, 79, 80, 81, 82, 83, 84, 85, 86, 87, 1024, 1025, 1026, 1027, 1028, 1029, 1030, 1031, 1032, 1033, 1034] (by decide +kernel) (by decide +kernel)
set_option maxRecDepth 20000 in
theorem gL_law_X3_stand : GoodIn wsL_law (wsV RL 166 RX3 yX3_stand wsX3_stand) := goodIn_app (goodIn_of _ (by decide +kernel)) ggL_law_X3_stand
set_option maxRecDepth 20000 in
theorem ggL_law_L_go : GoodIn wsL_law wsL_go := goodIn_ca (goodIn_r _ [298, 91, 299, 300, 301, 2, 302, 18, 54, 55, 96, 97, 98, 99, 100, 101, 179, 180, 181, 17, 182, 25, 183, 139, 140, 196, 197, 198, 199, 200, 303, 304, 305, 306, 56, 1035, 1036, 1017, 1018, 1019, 1020, 1021, 1022, 1023, 1037, 1038, 1039, 1040, 1041, 1042] (by decide +kernel) (by decide +kernel)) (goodIn_sub (fun _ h => List.mem_append_right _ h) (by decide +kernel))
set_option maxRecDepth 20000 in
theorem gL_law_L_go : GoodIn wsL_law (va_wsS RL 167 yL_go wsL_go) := goodIn_app (goodIn_of _ (by decide +kernel)) ggL_law_L_go
set_option maxRecDepth 20000 in
theorem ggL_law_X3_go : GoodIn wsL_law wsX3_go := goodIn_r _ [310, 39, 40, 41, 117, 118, 119, 5, 120, 35, 74, 75, 76, 77, 78, 79, 80, 81, 82, 213, 214, 215, 221, 222, 223, 224, 225, 83, 84, 85, 86, 87, 1024, 1025, 1026, 1027, 1028, 1029, 1030, 1031, 1032, 1033, 1034] (by decide +kernel) (by decide +kernel)
set_option maxRecDepth 20000 in
theorem gL_law_X3_go : GoodIn wsL_law (wsV RL 169 RX3 yX3_go wsX3_go) := goodIn_app (goodIn_of _ (by decide +kernel)) ggL_law_X3_go
set_option maxRecDepth 20000 in
theorem ggL_law_L_follow : GoodIn wsL_law wsL_follow := goodIn_ca (goodIn_r _ [313, 49, 314, 315, 316, 2, 317, 18, 54, 57, 58, 59, 60, 61, 105, 106, 107, 17, 108, 66, 318, 319, 320, 321, 322, 323, 324, 325, 67, 326, 327, 328, 329, 330, 331, 332, 333, 26, 25, 279, 161, 162, 163, 334, 335, 336, 337, 338, 339, 340, 341, 68, 69, 342, 343, 344, 345, 346, 347, 348, 349, 350, 276, 277, 278, 139, 140, 188, 180, 181, 182, 351, 352, 353, 354, 355, 183, 356, 357, 358, 359, 196, 197, 198, 199, 200, 303, 304, 305, 306, 55, 56, 1035, 1036, 1017, 1018, 1019, 1020, 1021, 1022, 1023, 1037, 1038, 1039, 1040, 1041, 1042] (by decide +kernel) (by decide +kernel)) (goodIn_sub (fun _ h => List.mem_append_left _ (List.mem_append_right _ h)) (by decide +kernel))
set_option maxRecDepth 20000 in
theorem gL_law_L_follow : GoodIn wsL_law (va_wsS RL 170 yL_follow wsL_follow) := goodIn_app (goodIn_of _ (by decide +kernel)) ggL_law_L_follow
set_option maxRecDepth 20000 in
theorem ggL_law_X3_follow : GoodIn wsL_law wsX3_follow := goodIn_r _ [363, 40, 41, 74, 75, 76, 5, 77, 78, 79, 80, 81, 82, 124, 125, 126, 127, 36, 364, 365, 366, 367, 37, 35, 39, 368, 369, 370, 371, 372, 373, 374, 375, 376, 377, 378, 379, 380, 381, 382, 383, 384, 385, 386, 387, 168, 169, 170, 171, 388, 389, 390, 391, 392, 393, 394, 395, 396, 397, 398, 399, 400, 401, 402, 403, 38, 213, 214, 215, 404, 405, 406, 407, 221, 222, 223, 224, 225, 83, 84, 85, 86, 87, 1024, 1025, 1026, 1027, 1028, 1029, 1030, 1031, 1032, 1033, 1034] (by decide +kernel) (by decide +kernel)
set_option maxRecDepth 20000 in
theorem gL_law_X3_follow : GoodIn wsL_law (wsV RL 172 RX3 yX3_follow wsX3_follow) := goodIn_app (goodIn_of _ (by decide +kernel)) ggL_law_X3_follow
set_option maxRecDepth 20000 in
theorem ggL_law_L_told : GoodIn wsL_law wsL_told := goodIn_ca (goodIn_r _ [410, 49, 411, 412, 413, 2, 414, 18, 54, 55, 57, 58, 59, 60, 61, 184, 185, 186, 17, 187, 26, 188, 180, 181, 182, 25, 189, 190, 191, 192, 193, 194, 195, 275, 276, 277, 278, 66, 279, 161, 162, 163, 415, 416, 417, 418, 1035, 1036, 1017, 1018, 1019, 1020, 1021, 1022, 1023, 1037, 1038, 1039, 1040, 1041, 1042] (by decide +kernel) (by decide +kernel)) (goodIn_sub (fun _ h => List.mem_append_left _ (List.mem_append_right _ h)) (by decide +kernel))
set_option maxRecDepth 20000 in
theorem gL_law_L_told : GoodIn wsL_law (va_wsS RL 173 yL_told wsL_told) := goodIn_app (goodIn_of _ (by decide +kernel)) ggL_law_L_told
set_option maxRecDepth 20000 in
theorem ggL_law_X3_told : GoodIn wsL_law wsX3_told := goodIn_r _ [422, 74, 75, 76, 5, 77, 78, 79, 80, 81, 82, 423, 424, 425, 426, 35, 37, 36, 40, 41, 216, 217, 218, 219, 39, 220, 190, 191, 192, 193, 194, 195, 427, 428, 429, 430, 1024, 1025, 1026, 1027, 1028, 1029, 1030, 1031, 1032, 1033, 1034] (by decide +kernel) (by decide +kernel)
set_option maxRecDepth 20000 in
theorem gL_law_X3_told : GoodIn wsL_law (wsV RL 175 RX3 yX3_told wsX3_told) := goodIn_app (goodIn_of _ (by decide +kernel)) ggL_law_X3_told
set_option maxRecDepth 20000 in
theorem ggL_law_L_ofPlace : GoodIn wsL_law wsL_ofPlace := goodIn_ca (goodIn_ca (goodIn_r _ [433, 91, 49, 434, 435, 436, 2, 437, 18, 96, 97, 98, 99, 100, 101, 57, 58, 59, 60, 61, 105, 106, 107, 17, 108, 66, 135, 136, 137, 138, 68, 69, 139, 140, 183, 179, 180, 181, 182, 25, 438, 439, 440, 441, 26, 188, 1035, 1036, 1017, 1018, 1019, 1020, 1021, 1022, 1023, 1037, 1038, 1039, 1040, 1041, 1042] (by decide +kernel) (by decide +kernel)) (goodIn_sub (fun _ h => List.mem_append_right _ h) (by decide +kernel))) (goodIn_sub (fun _ h => List.mem_append_left _ (List.mem_append_right _ h)) (by decide +kernel))
set_option maxRecDepth 20000 in
theorem gL_law_L_ofPlace : GoodIn wsL_law (va_wsS RL 176 yL_ofPlace wsL_ofPlace) := goodIn_app (goodIn_of _ (by decide +kernel)) ggL_law_L_ofPlace
set_option maxRecDepth 20000 in
theorem ggL_law_X3_ofPlace : GoodIn wsL_law wsX3_ofPlace := goodIn_r _ [445, 117, 118, 119, 5, 120, 35, 78, 79, 80, 81, 82, 446, 447, 448, 449, 38, 37, 39, 124, 125, 126, 127, 36, 213, 214, 215, 1024, 1025, 1026, 1027, 1028, 1029, 1030, 1031, 1032, 1033, 1034] (by decide +kernel) (by decide +kernel)
set_option maxRecDepth 20000 in
theorem gL_law_X3_ofPlace : GoodIn wsL_law (wsV RL 178 RX3 yX3_ofPlace wsX3_ofPlace) := goodIn_app (goodIn_of _ (by decide +kernel)) ggL_law_X3_ofPlace
set_option maxRecDepth 20000 in
theorem ggL_law_L_isWay : GoodIn wsL_law wsL_isWay := goodIn_ca (goodIn_r _ [452, 91, 453, 454, 455, 2, 456, 18, 96, 97, 98, 99, 100, 101, 179, 180, 181, 17, 182, 25, 183, 139, 140, 1035, 1036, 1017, 1018, 1019, 1020, 1021, 1022, 1023, 1037, 1038, 1039, 1040, 1041, 1042] (by decide +kernel) (by decide +kernel)) (goodIn_sub (fun _ h => List.mem_append_right _ h) (by decide +kernel))
set_option maxRecDepth 20000 in
theorem gL_law_L_isWay : GoodIn wsL_law (va_wsS RL 179 yL_isWay wsL_isWay) := goodIn_app (goodIn_of _ (by decide +kernel)) ggL_law_L_isWay
set_option maxRecDepth 20000 in
theorem ggL_law_X3_isWay : GoodIn wsL_law wsX3_isWay := goodIn_r _ [460, 39, 117, 118, 119, 5, 120, 35, 74, 75, 76, 77, 78, 79, 80, 81, 82, 213, 214, 215, 1024, 1025, 1026, 1027, 1028, 1029, 1030, 1031, 1032, 1033, 1034] (by decide +kernel) (by decide +kernel)
set_option maxRecDepth 20000 in
theorem gL_law_X3_isWay : GoodIn wsL_law (wsV RL 181 RX3 yX3_isWay wsX3_isWay) := goodIn_app (goodIn_of _ (by decide +kernel)) ggL_law_X3_isWay
set_option maxRecDepth 20000 in
theorem ggL_law_L_ways : GoodIn wsL_law wsL_ways := goodIn_ca (goodIn_r _ [463, 91, 464, 465, 466, 2, 467, 18, 468, 469, 470, 96, 97, 98, 99, 100, 101, 179, 180, 181, 17, 182, 25, 471, 472, 473, 474, 475, 476, 477, 478, 13, 14, 479, 480, 481, 482, 483, 484, 485, 486, 487, 488, 489, 490, 183, 139, 140, 491, 492, 493, 494, 495, 496, 497, 498, 499, 500, 501, 502, 503, 504, 505, 506, 507, 508, 509, 510, 511, 512, 513, 514, 515, 516, 517, 518, 519, 520, 521, 522, 523, 524, 525, 526, 527, 528, 529, 530, 531, 532, 533, 534, 535, 536, 537, 538, 539, 540, 541, 542, 543, 544, 545, 546, 547, 548, 549, 550, 551, 552, 553, 554, 555, 556, 557, 558, 559, 560, 561, 562, 563, 564, 565, 566, 567, 568, 569, 570, 571, 572, 573, 574, 575, 576, 577, 578, 579, 580, 581, 582, 583, 584, 585, 586, 587, 588, 589, 590, 591, 592, 593, 594, 595, 596, 597, 598, 599, 600, 601, 602, 603, 604, 605, 606, 607, 608, 609, 610, 611, 191, 612, 613, 614, 615, 616, 617, 618, 619, 620, 621, 622, 623, 624, 625, 626, 627, 628, 629, 630, 631, 632, 633, 634, 635, 636, 637, 638, 639, 640, 641, 642, 643, 644, 645, 646, 647, 648, 649, 650, 651, 652, 653, 654, 655, 656, 657, 658, 659, 660, 661, 662, 663, 664, 665, 666, 667, 668, 669, 670, 671, 672, 673, 674, 675, 676, 677, 678, 679, 680, 681, 682, 683, 1035, 1036, 1017, 1018, 1019, 1020, 1021, 1022, 1023, 1043, 1044, 1045, 1046, 1037, 1038, 1039, 1040, 1041, 1042, 1047, 1048, 1049, 1050] (by decide +kernel) (by decide +kernel)) (goodIn_sub (fun _ h => List.mem_append_right _ h) (by decide +kernel))
set_option maxRecDepth 20000 in
theorem gL_law_L_ways : GoodIn wsL_law (va_wsS RL 182 yL_ways wsL_ways) := goodIn_app (goodIn_of _ (by decide +kernel)) ggL_law_L_ways
set_option maxRecDepth 20000 in
theorem ggL_law_X3_ways : GoodIn wsL_law wsX3_ways := goodIn_r _ [687, 688, 469, 470, 35, 39, 117, 118, 119, 5, 120, 74, 75, 76, 77, 78, 79, 80, 81, 82, 689, 472, 473, 474, 475, 476, 477, 478, 13, 14, 479, 480, 481, 482, 483, 484, 485, 486, 487, 488, 489, 490, 213, 214, 215, 690, 492, 493, 494, 495, 496, 497, 498, 499, 500, 691, 692, 693, 694, 695, 696, 697, 698, 699, 700, 701, 702, 703, 509, 510, 511, 512, 513, 514, 515, 516, 517, 518, 519, 520, 521, 522, 523, 524, 525, 526, 527, 528, 529, 530, 531, 532, 533, 534, 535, 536, 537, 538, 539, 540, 541, 542, 543, 544, 545, 546, 547, 548, 549, 550, 551, 552, 553, 704, 705, 706, 587, 621, 622, 623, 572, 573, 574, 624, 625, 577, 626, 579, 627, 628, 582, 629, 584, 585, 586, 588, 589, 707, 708, 709, 710, 649, 711, 712, 713, 714, 650, 648, 715, 716, 717, 718, 719, 720, 721, 722, 723, 724, 725, 558, 559, 560, 561, 562, 563, 564, 556, 565, 566, 567, 568, 569, 570, 571, 575, 576, 578, 580, 581, 583, 726, 727, 728, 729, 730, 731, 732, 603, 604, 605, 606, 607, 608, 609, 610, 611, 191, 612, 613, 614, 615, 616, 617, 618, 619, 620, 630, 631, 632, 633, 634, 733, 636, 637, 638, 639, 640, 641, 642, 643, 644, 645, 646, 647, 651, 652, 653, 654, 655, 656, 657, 658, 659, 660, 661, 662, 663, 664, 665, 666, 667, 668, 669, 670, 671, 672, 673, 674, 675, 676, 677, 678, 679, 680, 681, 682, 683, 1043, 1044, 1045, 1046, 1024, 1025, 1026, 1027, 1028, 1029, 1030, 1031, 1032, 1033, 1034, 1047, 1048, 1049, 1050] (by decide +kernel) (by decide +kernel)
set_option maxRecDepth 20000 in
theorem gL_law_X3_ways : GoodIn wsL_law (wsV RL 184 RX3 yX3_ways wsX3_ways) := goodIn_app (goodIn_of _ (by decide +kernel)) ggL_law_X3_ways
set_option maxRecDepth 20000 in
theorem ggL_law_L_ahead : GoodIn wsL_law wsL_ahead := goodIn_ca (goodIn_r _ [736, 49, 737, 738, 739, 2, 740, 18, 156, 157, 158, 159, 160, 161, 162, 17, 163, 26, 57, 58, 59, 60, 61, 102, 103, 104, 741, 331, 332, 333, 25, 66, 1035, 1036, 1017, 1018, 1019, 1020, 1021, 1022, 1023, 1037, 1038, 1039, 1040, 1041, 1042] (by decide +kernel) (by decide +kernel)) (goodIn_sub (fun _ h => List.mem_append_left _ (List.mem_append_right _ h)) (by decide +kernel))
set_option maxRecDepth 20000 in
theorem gL_law_L_ahead : GoodIn wsL_law (va_wsS RL 185 yL_ahead wsL_ahead) := goodIn_app (goodIn_of _ (by decide +kernel)) ggL_law_L_ahead
set_option maxRecDepth 20000 in
theorem ggL_law_X3_ahead : GoodIn wsL_law wsX3_ahead := goodIn_r _ [745, 168, 169, 170, 5, 171, 35, 121, 122, 123, 74, 75, 76, 77, 78, 79, 80, 81, 82, 380, 381, 382, 383, 39, 124, 125, 126, 127, 36, 1024, 1025, 1026, 1027, 1028, 1029, 1030, 1031, 1032, 1033, 1034] (by decide +kernel) (by decide +kernel)
set_option maxRecDepth 20000 in
theorem gL_law_X3_ahead : GoodIn wsL_law (wsV RL 187 RX3 yX3_ahead wsX3_ahead) := goodIn_app (goodIn_of _ (by decide +kernel)) ggL_law_X3_ahead
set_option maxRecDepth 20000 in
theorem ggL_law_L_coming : GoodIn wsL_law wsL_coming := goodIn_ca (goodIn_r _ [748, 49, 749, 750, 751, 2, 752, 18, 102, 103, 104, 57, 58, 59, 60, 61, 753, 323, 324, 17, 325, 67, 326, 327, 328, 329, 330, 331, 332, 333, 26, 25, 66, 279, 161, 162, 163, 334, 335, 336, 337, 338, 339, 340, 341, 68, 69, 342, 343, 344, 345, 1035, 1036, 1017, 1018, 1019, 1020, 1021, 1022, 1023, 1037, 1038, 1039, 1040, 1041, 1042] (by decide +kernel) (by decide +kernel)) (goodIn_sub (fun _ h => List.mem_append_left _ (List.mem_append_right _ h)) (by decide +kernel))
set_option maxRecDepth 20000 in
theorem gL_law_L_coming : GoodIn wsL_law (va_wsS RL 188 yL_coming wsL_coming) := goodIn_app (goodIn_of _ (by decide +kernel)) ggL_law_L_coming
set_option maxRecDepth 20000 in
theorem ggL_law_X3_coming : GoodIn wsL_law wsX3_coming := goodIn_r _ [757, 121, 122, 5, 123, 74, 75, 76, 77, 78, 79, 80, 81, 82, 372, 373, 374, 375, 37, 376, 377, 378, 379, 380, 381, 382, 383, 35, 39, 124, 125, 126, 127, 36, 1024, 1025, 1026, 1027, 1028, 1029, 1030, 1031, 1032, 1033, 1034] (by decide +kernel) (by decide +kernel)
set_option maxRecDepth 20000 in
theorem gL_law_X3_coming : GoodIn wsL_law (wsV RL 190 RX3 yX3_coming wsX3_coming) := goodIn_app (goodIn_of _ (by decide +kernel)) ggL_law_X3_coming
set_option maxRecDepth 20000 in
theorem ggL_law_L_keeping : GoodIn wsL_law wsL_keeping := goodIn_ca (goodIn_r _ [760, 49, 761, 762, 763, 2, 764, 18, 102, 103, 104, 57, 58, 59, 60, 61, 753, 323, 324, 17, 325, 67, 326, 327, 328, 329, 330, 331, 332, 333, 26, 25, 66, 279, 161, 162, 163, 334, 335, 336, 337, 338, 339, 340, 341, 68, 69, 342, 343, 344, 345, 1035, 1036, 1017, 1018, 1019, 1020, 1021, 1022, 1023, 1037, 1038, 1039, 1040, 1041, 1042] (by decide +kernel) (by decide +kernel)) (goodIn_sub (fun _ h => List.mem_append_left _ (List.mem_append_right _ h)) (by decide +kernel))
set_option maxRecDepth 20000 in
theorem gL_law_L_keeping : GoodIn wsL_law (va_wsS RL 191 yL_keeping wsL_keeping) := goodIn_app (goodIn_of _ (by decide +kernel)) ggL_law_L_keeping
set_option maxRecDepth 20000 in
theorem ggL_law_X3_keeping : GoodIn wsL_law wsX3_keeping := goodIn_r _ [768, 121, 122, 5, 123, 74, 75, 76, 77, 78, 79, 80, 81, 82, 384, 385, 386, 387, 168, 169, 170, 171, 35, 372, 373, 374, 375, 37, 376, 377, 378, 379, 380, 381, 382, 383, 39, 124, 125, 126, 127, 36, 1024, 1025, 1026, 1027, 1028, 1029, 1030, 1031, 1032, 1033, 1034] (by decide +kernel) (by decide +kernel)
set_option maxRecDepth 20000 in
theorem gL_law_X3_keeping : GoodIn wsL_law (wsV RL 193 RX3 yX3_keeping wsX3_keeping) := goodIn_app (goodIn_of _ (by decide +kernel)) ggL_law_X3_keeping
set_option maxRecDepth 20000 in
theorem ggL_law_L_again : GoodIn wsL_law wsL_again := goodIn_ca (goodIn_r _ [771, 49, 772, 773, 774, 2, 775, 18, 102, 103, 104, 57, 58, 59, 60, 61, 753, 323, 324, 17, 325, 67, 326, 327, 328, 329, 330, 331, 332, 333, 26, 25, 66, 279, 161, 162, 163, 334, 335, 336, 337, 338, 339, 340, 341, 68, 69, 342, 343, 344, 345, 1035, 1036, 1017, 1018, 1019, 1020, 1021, 1022, 1023, 1037, 1038, 1039, 1040, 1041, 1042] (by decide +kernel) (by decide +kernel)) (goodIn_sub (fun _ h => List.mem_append_left _ (List.mem_append_right _ h)) (by decide +kernel))
set_option maxRecDepth 20000 in
theorem gL_law_L_again : GoodIn wsL_law (va_wsS RL 194 yL_again wsL_again) := goodIn_app (goodIn_of _ (by decide +kernel)) ggL_law_L_again
set_option maxRecDepth 20000 in
theorem ggL_law_X3_again : GoodIn wsL_law wsX3_again := goodIn_r _ [779, 121, 122, 5, 123, 74, 75, 76, 77, 78, 79, 80, 81, 82, 388, 389, 390, 391, 168, 169, 170, 171, 35, 392, 393, 394, 395, 37, 380, 381, 382, 383, 39, 124, 125, 126, 127, 36, 376, 377, 378, 379, 1024, 1025, 1026, 1027, 1028, 1029, 1030, 1031, 1032, 1033, 1034] (by decide +kernel) (by decide +kernel)
set_option maxRecDepth 20000 in
theorem gL_law_X3_again : GoodIn wsL_law (wsV RL 196 RX3 yX3_again wsX3_again) := goodIn_app (goodIn_of _ (by decide +kernel)) ggL_law_X3_again
set_option maxRecDepth 20000 in
theorem ggL_law_L_ranked : GoodIn wsL_law wsL_ranked := goodIn_ca (goodIn_r _ [782, 49, 783, 784, 785, 2, 786, 18, 102, 103, 104, 57, 58, 59, 60, 61, 753, 323, 324, 17, 325, 67, 326, 327, 328, 329, 330, 331, 332, 333, 26, 25, 66, 279, 161, 162, 163, 334, 335, 336, 337, 338, 339, 340, 341, 68, 69, 342, 343, 344, 345, 1035, 1036, 1017, 1018, 1019, 1020, 1021, 1022, 1023, 1037, 1038, 1039, 1040, 1041, 1042] (by decide +kernel) (by decide +kernel)) (goodIn_sub (fun _ h => List.mem_append_left _ (List.mem_append_right _ h)) (by decide +kernel))
set_option maxRecDepth 20000 in
theorem gL_law_L_ranked : GoodIn wsL_law (va_wsS RL 197 yL_ranked wsL_ranked) := goodIn_app (goodIn_of _ (by decide +kernel)) ggL_law_L_ranked
set_option maxRecDepth 20000 in
theorem ggL_law_X3_ranked : GoodIn wsL_law wsX3_ranked := goodIn_r _ [790, 121, 122, 5, 123, 74, 75, 76, 77, 78, 79, 80, 81, 82, 368, 369, 370, 371, 372, 373, 374, 375, 37, 376, 377, 378, 379, 380, 381, 382, 383, 35, 39, 124, 125, 126, 127, 36, 384, 385, 386, 387, 168, 169, 170, 171, 388, 389, 390, 391, 392, 393, 394, 395, 396, 397, 398, 399, 400, 401, 402, 403, 38, 1024, 1025, 1026, 1027, 1028, 1029, 1030, 1031, 1032, 1033, 1034] (by decide +kernel) (by decide +kernel)
set_option maxRecDepth 20000 in
theorem gL_law_X3_ranked : GoodIn wsL_law (wsV RL 199 RX3 yX3_ranked wsX3_ranked) := goodIn_app (goodIn_of _ (by decide +kernel)) ggL_law_X3_ranked
set_option maxRecDepth 20000 in
theorem ggL_law_L_winner : GoodIn wsL_law wsL_winner := goodIn_ca (goodIn_ca (goodIn_r _ [793, 91, 49, 794, 795, 796, 2, 797, 18, 96, 97, 98, 99, 100, 101, 57, 58, 59, 60, 61, 753, 323, 324, 17, 325, 67, 326, 327, 328, 329, 330, 331, 332, 333, 26, 25, 66, 279, 161, 162, 163, 334, 335, 336, 337, 338, 339, 340, 341, 68, 69, 342, 343, 344, 345, 183, 139, 140, 1035, 1036, 1017, 1018, 1019, 1020, 1021, 1022, 1023, 1037, 1038, 1039, 1040, 1041, 1042] (by decide +kernel) (by decide +kernel)) (goodIn_sub (fun _ h => List.mem_append_right _ h) (by decide +kernel))) (goodIn_sub (fun _ h => List.mem_append_left _ (List.mem_append_right _ h)) (by decide +kernel))
set_option maxRecDepth 20000 in
theorem gL_law_L_winner : GoodIn wsL_law (va_wsS RL 200 yL_winner wsL_winner) := goodIn_app (goodIn_of _ (by decide +kernel)) ggL_law_L_winner
set_option maxRecDepth 20000 in
theorem ggL_law_X3_winner : GoodIn wsL_law wsX3_winner := goodIn_r _ [801, 117, 118, 119, 5, 120, 35, 78, 79, 80, 81, 82, 368, 369, 370, 371, 372, 373, 374, 375, 37, 376, 377, 378, 379, 380, 381, 382, 383, 39, 124, 125, 126, 127, 36, 384, 385, 386, 387, 168, 169, 170, 171, 388, 389, 390, 391, 392, 393, 394, 395, 396, 397, 398, 399, 400, 401, 402, 403, 38, 213, 214, 215, 1024, 1025, 1026, 1027, 1028, 1029, 1030, 1031, 1032, 1033, 1034] (by decide +kernel) (by decide +kernel)
set_option maxRecDepth 20000 in
theorem gL_law_X3_winner : GoodIn wsL_law (wsV RL 202 RX3 yX3_winner wsX3_winner) := goodIn_app (goodIn_of _ (by decide +kernel)) ggL_law_X3_winner
set_option maxRecDepth 20000 in
theorem ggL_law_L_rounds : GoodIn wsL_law wsL_rounds := goodIn_ca (goodIn_ca (goodIn_r _ [804, 91, 49, 805, 806, 807, 2, 808, 18, 96, 97, 98, 99, 100, 101, 102, 103, 104, 57, 58, 59, 60, 61, 809, 810, 811, 17, 812, 330, 331, 332, 333, 26, 25, 66, 139, 140, 1035, 1036, 1017, 1018, 1019, 1020, 1021, 1022, 1023, 1037, 1038, 1039, 1040, 1041, 1042] (by decide +kernel) (by decide +kernel)) (goodIn_sub (fun _ h => List.mem_append_right _ h) (by decide +kernel))) (goodIn_sub (fun _ h => List.mem_append_left _ (List.mem_append_right _ h)) (by decide +kernel))
set_option maxRecDepth 20000 in
theorem gL_law_L_rounds : GoodIn wsL_law (va_wsS RL 203 yL_rounds wsL_rounds) := goodIn_app (goodIn_of _ (by decide +kernel)) ggL_law_L_rounds
set_option maxRecDepth 20000 in
theorem ggL_law_X3_rounds : GoodIn wsL_law wsX3_rounds := goodIn_r _ [816, 117, 118, 119, 5, 120, 35, 121, 122, 123, 78, 79, 80, 81, 82, 372, 373, 374, 375, 37, 376, 377, 378, 379, 380, 381, 382, 383, 39, 124, 125, 126, 127, 36, 404, 405, 406, 407, 213, 214, 215, 1024, 1025, 1026, 1027, 1028, 1029, 1030, 1031, 1032, 1033, 1034] (by decide +kernel) (by decide +kernel)
set_option maxRecDepth 20000 in
theorem gL_law_X3_rounds : GoodIn wsL_law (wsV RL 205 RX3 yX3_rounds wsX3_rounds) := goodIn_app (goodIn_of _ (by decide +kernel)) ggL_law_X3_rounds
set_option maxRecDepth 20000 in
theorem ggL_law_L_againRounds : GoodIn wsL_law wsL_againRounds := goodIn_ca (goodIn_ca (goodIn_r _ [819, 91, 49, 820, 821, 822, 2, 823, 18, 96, 97, 98, 99, 100, 101, 102, 103, 104, 57, 58, 59, 60, 61, 753, 323, 324, 17, 325, 67, 326, 327, 328, 329, 330, 331, 332, 333, 26, 25, 66, 279, 161, 162, 163, 334, 335, 336, 337, 338, 339, 340, 341, 68, 69, 342, 343, 344, 345, 809, 810, 811, 812, 139, 140, 1035, 1036, 1017, 1018, 1019, 1020, 1021, 1022, 1023, 1037, 1038, 1039, 1040, 1041, 1042] (by decide +kernel) (by decide +kernel)) (goodIn_sub (fun _ h => List.mem_append_right _ h) (by decide +kernel))) (goodIn_sub (fun _ h => List.mem_append_left _ (List.mem_append_right _ h)) (by decide +kernel))
set_option maxRecDepth 20000 in
theorem gL_law_L_againRounds : GoodIn wsL_law (va_wsS RL 206 yL_againRounds wsL_againRounds) := goodIn_app (goodIn_of _ (by decide +kernel)) ggL_law_L_againRounds
set_option maxRecDepth 20000 in
theorem ggL_law_X3_againRounds : GoodIn wsL_law wsX3_againRounds := goodIn_r _ [827, 117, 118, 119, 5, 120, 35, 121, 122, 123, 78, 79, 80, 81, 82, 388, 389, 390, 391, 168, 169, 170, 171, 392, 393, 394, 395, 37, 380, 381, 382, 383, 39, 124, 125, 126, 127, 36, 376, 377, 378, 379, 404, 405, 406, 407, 213, 214, 215, 1024, 1025, 1026, 1027, 1028, 1029, 1030, 1031, 1032, 1033, 1034] (by decide +kernel) (by decide +kernel)
set_option maxRecDepth 20000 in
theorem gL_law_X3_againRounds : GoodIn wsL_law (wsV RL 208 RX3 yX3_againRounds wsX3_againRounds) := goodIn_app (goodIn_of _ (by decide +kernel)) ggL_law_X3_againRounds
set_option maxRecDepth 20000 in
theorem ggL_law_L_falls : GoodIn wsL_law wsL_falls := goodIn_ca (goodIn_r _ [830, 49, 831, 832, 833, 2, 834, 18, 102, 103, 104, 57, 58, 59, 60, 61, 160, 161, 162, 17, 163, 26, 741, 331, 332, 333, 25, 66, 835, 327, 328, 329, 330, 1035, 1036, 1017, 1018, 1019, 1020, 1021, 1022, 1023, 1037, 1038, 1039, 1040, 1041, 1042] (by decide +kernel) (by decide +kernel)) (goodIn_sub (fun _ h => List.mem_append_left _ (List.mem_append_right _ h)) (by decide +kernel))
set_option maxRecDepth 20000 in
theorem gL_law_L_falls : GoodIn wsL_law (va_wsS RL 209 yL_falls wsL_falls) := goodIn_app (goodIn_of _ (by decide +kernel)) ggL_law_L_falls
set_option maxRecDepth 20000 in
theorem ggL_law_X3_falls : GoodIn wsL_law wsX3_falls := goodIn_r _ [839, 121, 122, 5, 123, 74, 75, 76, 77, 78, 79, 80, 81, 82, 840, 841, 842, 843, 168, 169, 170, 171, 35, 392, 393, 394, 395, 37, 380, 381, 382, 383, 39, 124, 125, 126, 127, 36, 376, 377, 378, 379, 1024, 1025, 1026, 1027, 1028, 1029, 1030, 1031, 1032, 1033, 1034] (by decide +kernel) (by decide +kernel)
set_option maxRecDepth 20000 in
theorem gL_law_X3_falls : GoodIn wsL_law (wsV RL 211 RX3 yX3_falls wsX3_falls) := goodIn_app (goodIn_of _ (by decide +kernel)) ggL_law_X3_falls
set_option maxRecDepth 20000 in
theorem ggL_law_L_choice : GoodIn wsL_law wsL_choice := goodIn_ca (goodIn_ca (goodIn_r _ [846, 91, 49, 847, 848, 849, 2, 850, 18, 96, 97, 98, 99, 100, 101, 57, 58, 59, 60, 61, 102, 103, 104, 318, 319, 320, 17, 321, 322, 323, 324, 325, 67, 326, 327, 328, 329, 330, 331, 332, 333, 26, 25, 66, 279, 161, 162, 163, 334, 335, 336, 337, 338, 339, 340, 341, 68, 69, 342, 343, 344, 345, 346, 347, 348, 349, 350, 276, 277, 278, 139, 140, 188, 180, 181, 182, 351, 352, 353, 354, 355, 183, 356, 357, 358, 359, 1035, 1036, 1017, 1018, 1019, 1020, 1021, 1022, 1023, 1037, 1038, 1039, 1040, 1041, 1042] (by decide +kernel) (by decide +kernel)) (goodIn_sub (fun _ h => List.mem_append_right _ h) (by decide +kernel))) (goodIn_sub (fun _ h => List.mem_append_left _ (List.mem_append_right _ h)) (by decide +kernel))
set_option maxRecDepth 20000 in
theorem gL_law_L_choice : GoodIn wsL_law (va_wsS RL 212 yL_choice wsL_choice) := goodIn_app (goodIn_of _ (by decide +kernel)) ggL_law_L_choice
set_option maxRecDepth 20000 in
theorem ggL_law_X3_choice : GoodIn wsL_law wsX3_choice := goodIn_r _ [854, 117, 118, 119, 5, 120, 35, 121, 122, 123, 78, 79, 80, 81, 82, 364, 365, 366, 367, 37, 39, 368, 369, 370, 371, 372, 373, 374, 375, 376, 377, 378, 379, 380, 381, 382, 383, 124, 125, 126, 127, 36, 384, 385, 386, 387, 168, 169, 170, 171, 388, 389, 390, 391, 392, 393, 394, 395, 396, 397, 398, 399, 400, 401, 402, 403, 38, 213, 214, 215, 404, 405, 406, 407, 1024, 1025, 1026, 1027, 1028, 1029, 1030, 1031, 1032, 1033, 1034] (by decide +kernel) (by decide +kernel)
set_option maxRecDepth 20000 in
theorem gL_law_X3_choice : GoodIn wsL_law (wsV RL 215 RX3 yX3_choice wsX3_choice) := goodIn_app (goodIn_of _ (by decide +kernel)) ggL_law_X3_choice
set_option maxRecDepth 20000 in
theorem ggL_law_L_isSure : GoodIn wsL_law wsL_isSure := goodIn_ca (goodIn_r _ [857, 49, 858, 859, 860, 2, 861, 57, 58, 59, 60, 61, 102, 103, 104, 862, 863, 864, 865, 19, 18, 248, 249, 250, 17, 251, 26, 66, 67, 68, 69, 25, 188, 180, 181, 182, 753, 323, 324, 325, 326, 327, 328, 329, 330, 331, 332, 333, 279, 161, 162, 163, 334, 335, 336, 337, 338, 339, 340, 341, 342, 343, 344, 345, 866, 347, 348, 349, 350, 276, 277, 278, 139, 140, 351, 352, 353, 354, 355, 183, 356, 357, 358, 359, 867, 206, 207, 208, 1035, 1036, 1017, 1018, 1019, 1020, 1021, 1022, 1023, 1037, 1038, 1039, 1040, 1041, 1042] (by decide +kernel) (by decide +kernel)) (goodIn_sub (fun _ h => List.mem_append_left _ (List.mem_append_right _ h)) (by decide +kernel))
set_option maxRecDepth 20000 in
theorem gL_law_L_isSure : GoodIn wsL_law (va_wsS RL 216 yL_isSure wsL_isSure) := goodIn_app (goodIn_of _ (by decide +kernel)) ggL_law_L_isSure
set_option maxRecDepth 20000 in
theorem ggL_law_X3_isSure : GoodIn wsL_law wsX3_isSure := goodIn_r _ [871, 121, 122, 5, 123, 74, 75, 76, 77, 78, 79, 80, 81, 82, 1024, 1025, 1026, 1027, 1028, 1029, 1030, 1031, 1032, 1033, 1034] (by decide +kernel) (by decide +kernel)
set_option maxRecDepth 20000 in
theorem gL_law_X3_isSure : GoodIn wsL_law (wsV RL 218 RX3 yX3_isSure wsX3_isSure) := goodIn_app (goodIn_of _ (by decide +kernel)) ggL_law_X3_isSure
set_option maxRecDepth 20000 in
theorem ggL_law_L_play : GoodIn wsL_law wsL_play := goodIn_ca (goodIn_ca (goodIn_r _ [874, 91, 49, 875, 876, 877, 2, 878, 468, 469, 470, 18, 96, 97, 98, 99, 100, 101, 102, 103, 104, 57, 58, 59, 60, 61, 471, 472, 473, 474, 475, 476, 477, 478, 13, 14, 479, 480, 481, 482, 483, 484, 485, 486, 487, 488, 489, 490, 602, 603, 604, 605, 606, 607, 497, 608, 609, 500, 610, 611, 191, 612, 509, 510, 511, 512, 513, 514, 515, 516, 517, 518, 519, 520, 521, 522, 523, 524, 525, 526, 527, 528, 529, 530, 531, 532, 533, 534, 535, 536, 537, 538, 539, 540, 541, 542, 543, 544, 545, 546, 547, 548, 549, 550, 551, 552, 553, 613, 614, 615, 616, 617, 618, 619, 620, 587, 621, 622, 623, 572, 573, 574, 624, 625, 577, 626, 579, 627, 628, 582, 629, 630, 631, 632, 633, 634, 584, 585, 586, 588, 589, 183, 139, 140, 179, 180, 181, 17, 182, 25, 879, 880, 881, 882, 105, 106, 107, 108, 66, 318, 319, 320, 321, 322, 323, 324, 325, 67, 326, 327, 328, 329, 330, 331, 332, 333, 26, 279, 161, 162, 163, 334, 335, 336, 337, 338, 339, 340, 341, 68, 69, 342, 343, 344, 345, 346, 347, 348, 349, 350, 276, 277, 278, 188, 351, 352, 353, 354, 355, 356, 357, 358, 359, 883, 501, 502, 503, 504, 505, 506, 507, 508, 554, 555, 556, 557, 558, 559, 560, 561, 562, 563, 564, 565, 566, 567, 568, 569, 570, 571, 575, 576, 578, 580, 581, 583, 590, 591, 592, 593, 594, 595, 596, 597, 598, 599, 600, 601, 635, 636, 637, 638, 639, 640, 641, 642, 643, 644, 645, 646, 647, 648, 649, 650, 651, 652, 653, 654, 655, 656, 657, 496, 658, 659, 492, 494, 495, 498, 499, 660, 661, 662, 663, 664, 665, 666, 667, 668, 669, 670, 671, 672, 673, 674, 675, 676, 677, 678, 679, 680, 681, 682, 683, 1035, 1036, 1043, 1044, 1045, 1046, 1017, 1018, 1019, 1020, 1021, 1022, 1023, 1037, 1038, 1039, 1040, 1041, 1042, 1047, 1048, 1049, 1050] (by decide +kernel) (by decide +kernel)) (goodIn_sub (fun _ h => List.mem_append_right _ h) (by decide +kernel))) (goodIn_sub (fun _ h => List.mem_append_left _ (List.mem_append_right _ h)) (by decide +kernel))
set_option maxRecDepth 20000 in
theorem gL_law_L_play : GoodIn wsL_law (va_wsS RL 219 yL_play wsL_play) := goodIn_app (goodIn_of _ (by decide +kernel)) ggL_law_L_play
set_option maxRecDepth 20000 in
theorem ggL_law_X3_play : GoodIn wsL_law wsX3_play := goodIn_r _ [887, 688, 469, 470, 39, 117, 118, 119, 5, 120, 35, 121, 122, 123, 78, 79, 80, 81, 82, 689, 472, 473, 474, 475, 476, 477, 478, 13, 14, 479, 480, 481, 482, 483, 484, 485, 486, 487, 488, 489, 490, 732, 603, 604, 605, 606, 607, 497, 608, 609, 500, 610, 611, 191, 612, 509, 510, 511, 512, 513, 514, 515, 516, 517, 518, 519, 520, 521, 522, 523, 524, 525, 526, 527, 528, 529, 530, 531, 532, 533, 534, 535, 536, 537, 538, 539, 540, 541, 542, 543, 544, 545, 546, 547, 548, 549, 550, 551, 552, 553, 613, 614, 615, 616, 617, 618, 619, 620, 587, 621, 622, 623, 572, 573, 574, 624, 625, 577, 626, 579, 627, 628, 582, 629, 630, 631, 632, 633, 634, 584, 585, 586, 588, 589, 124, 125, 126, 127, 36, 364, 365, 366, 367, 37, 368, 369, 370, 371, 372, 373, 374, 375, 376, 377, 378, 379, 380, 381, 382, 383, 384, 385, 386, 387, 168, 169, 170, 171, 388, 389, 390, 391, 392, 393, 394, 395, 396, 397, 398, 399, 400, 401, 402, 403, 38, 213, 214, 215, 404, 405, 406, 407, 888, 889, 890, 891, 691, 692, 693, 694, 695, 696, 697, 698, 699, 700, 701, 702, 703, 704, 705, 706, 707, 708, 709, 710, 649, 711, 712, 713, 714, 650, 648, 715, 716, 717, 718, 719, 720, 721, 722, 723, 724, 725, 558, 559, 560, 561, 562, 563, 564, 556, 565, 566, 567, 568, 569, 570, 571, 575, 576, 578, 580, 581, 583, 726, 727, 728, 729, 730, 731, 733, 636, 637, 638, 639, 640, 641, 642, 643, 644, 645, 646, 647, 651, 652, 653, 654, 655, 656, 657, 496, 658, 659, 492, 494, 495, 498, 499, 660, 661, 662, 663, 664, 665, 666, 667, 668, 669, 670, 671, 672, 673, 674, 675, 676, 677, 678, 679, 680, 681, 682, 683, 1043, 1044, 1045, 1046, 1024, 1025, 1026, 1027, 1028, 1029, 1030, 1031, 1032, 1033, 1034, 1047, 1048, 1049, 1050] (by decide +kernel) (by decide +kernel)
set_option maxRecDepth 20000 in
theorem gL_law_X3_play : GoodIn wsL_law (wsV RL 221 RX3 yX3_play wsX3_play) := goodIn_app (goodIn_of _ (by decide +kernel)) ggL_law_X3_play
set_option maxRecDepth 20000 in
theorem ggL_law_L_choices : GoodIn wsL_law wsL_choices := goodIn_ca (goodIn_r _ [894, 49, 895, 896, 897, 2, 898, 18, 102, 103, 104, 57, 58, 59, 60, 61, 899, 900, 901, 17, 902, 26, 188, 180, 181, 182, 25, 189, 190, 191, 192, 193, 194, 195, 903, 106, 107, 108, 66, 1035, 1036, 1017, 1018, 1019, 1020, 1021, 1022, 1023, 1037, 1038, 1039, 1040, 1041, 1042] (by decide +kernel) (by decide +kernel)) (goodIn_sub (fun _ h => List.mem_append_left _ (List.mem_append_right _ h)) (by decide +kernel))
set_option maxRecDepth 20000 in
theorem gL_law_L_choices : GoodIn wsL_law (va_wsS RL 222 yL_choices wsL_choices) := goodIn_app (goodIn_of _ (by decide +kernel)) ggL_law_L_choices
set_option maxRecDepth 20000 in
theorem ggL_law_X3_choices : GoodIn wsL_law wsX3_choices := goodIn_r _ [907, 121, 122, 5, 123, 74, 75, 76, 77, 78, 79, 80, 81, 82, 908, 909, 910, 911, 35, 39, 124, 125, 126, 127, 36, 220, 190, 191, 192, 193, 194, 195, 1024, 1025, 1026, 1027, 1028, 1029, 1030, 1031, 1032, 1033, 1034] (by decide +kernel) (by decide +kernel)
set_option maxRecDepth 20000 in
theorem gL_law_X3_choices : GoodIn wsL_law (wsV RL 224 RX3 yX3_choices wsX3_choices) := goodIn_app (goodIn_of _ (by decide +kernel)) ggL_law_X3_choices
set_option maxRecDepth 20000 in
theorem ggL_law_L_tried : GoodIn wsL_law wsL_tried := goodIn_ca (goodIn_r _ [914, 49, 915, 916, 917, 2, 918, 18, 19, 57, 58, 59, 60, 61, 102, 103, 104, 899, 900, 901, 17, 902, 26, 188, 180, 181, 182, 25, 189, 190, 191, 192, 193, 194, 195, 903, 106, 107, 108, 66, 919, 920, 921, 922, 248, 249, 250, 251, 67, 68, 69, 179, 280, 105, 353, 354, 355, 183, 139, 140, 867, 206, 207, 208, 753, 323, 324, 325, 326, 327, 328, 329, 330, 331, 332, 333, 279, 161, 162, 163, 334, 335, 336, 337, 338, 339, 340, 341, 342, 343, 344, 345, 1035, 1036, 1017, 1018, 1019, 1020, 1021, 1022, 1023, 1037, 1038, 1039, 1040, 1041, 1042] (by decide +kernel) (by decide +kernel)) (goodIn_sub (fun _ h => List.mem_append_left _ (List.mem_append_right _ h)) (by decide +kernel))
set_option maxRecDepth 20000 in
theorem gL_law_L_tried : GoodIn wsL_law (va_wsS RL 225 yL_tried wsL_tried) := goodIn_app (goodIn_of _ (by decide +kernel)) ggL_law_L_tried
set_option maxRecDepth 20000 in
theorem ggL_law_X3_tried : GoodIn wsL_law wsX3_tried := goodIn_r _ [926, 121, 122, 5, 123, 74, 75, 76, 77, 78, 79, 80, 81, 82, 908, 909, 910, 911, 35, 39, 124, 125, 126, 127, 36, 220, 190, 191, 192, 193, 194, 195, 368, 369, 370, 371, 372, 373, 374, 375, 37, 376, 377, 378, 379, 380, 381, 382, 383, 384, 385, 386, 387, 168, 169, 170, 171, 388, 389, 390, 391, 392, 393, 394, 395, 396, 397, 398, 399, 400, 401, 402, 403, 38, 1024, 1025, 1026, 1027, 1028, 1029, 1030, 1031, 1032, 1033, 1034] (by decide +kernel) (by decide +kernel)
set_option maxRecDepth 20000 in
theorem gL_law_X3_tried : GoodIn wsL_law (wsV RL 227 RX3 yX3_tried wsX3_tried) := goodIn_app (goodIn_of _ (by decide +kernel)) ggL_law_X3_tried
set_option maxRecDepth 20000 in
theorem ggL_law_L_withGoal : GoodIn wsL_law wsL_withGoal := goodIn_ca (goodIn_ca (goodIn_r _ [929, 91, 49, 930, 931, 932, 2, 933, 19, 18, 96, 97, 98, 99, 100, 101, 57, 58, 59, 60, 61, 102, 103, 104, 248, 249, 250, 17, 251, 26, 66, 67, 68, 69, 25, 188, 180, 181, 182, 753, 323, 324, 325, 326, 327, 328, 329, 330, 331, 332, 333, 279, 161, 162, 163, 334, 335, 336, 337, 338, 339, 340, 341, 342, 343, 344, 345, 1035, 1036, 1017, 1018, 1019, 1020, 1021, 1022, 1023, 1037, 1038, 1039, 1040, 1041, 1042] (by decide +kernel) (by decide +kernel)) (goodIn_sub (fun _ h => List.mem_append_right _ h) (by decide +kernel))) (goodIn_sub (fun _ h => List.mem_append_left _ (List.mem_append_right _ h)) (by decide +kernel))
set_option maxRecDepth 20000 in
theorem gL_law_L_withGoal : GoodIn wsL_law (va_wsS RL 228 yL_withGoal wsL_withGoal) := goodIn_app (goodIn_of _ (by decide +kernel)) ggL_law_L_withGoal
set_option maxRecDepth 20000 in
theorem ggL_law_X3_withGoal : GoodIn wsL_law wsX3_withGoal := goodIn_r _ [937, 37, 117, 118, 119, 5, 120, 35, 121, 122, 123, 78, 79, 80, 81, 82, 368, 369, 370, 371, 372, 373, 374, 375, 376, 377, 378, 379, 380, 381, 382, 383, 39, 124, 125, 126, 127, 36, 384, 385, 386, 387, 168, 169, 170, 171, 388, 389, 390, 391, 392, 393, 394, 395, 396, 397, 398, 399, 400, 401, 402, 403, 38, 1024, 1025, 1026, 1027, 1028, 1029, 1030, 1031, 1032, 1033, 1034] (by decide +kernel) (by decide +kernel)
set_option maxRecDepth 20000 in
theorem gL_law_X3_withGoal : GoodIn wsL_law (wsV RL 230 RX3 yX3_withGoal wsX3_withGoal) := goodIn_app (goodIn_of _ (by decide +kernel)) ggL_law_X3_withGoal
set_option maxRecDepth 20000 in
theorem ggL_law_L_withWay : GoodIn wsL_law wsL_withWay := goodIn_ca (goodIn_ca (goodIn_r _ [940, 91, 49, 941, 942, 943, 2, 944, 19, 18, 96, 97, 98, 99, 100, 101, 57, 58, 59, 60, 61, 102, 103, 104, 248, 249, 250, 17, 251, 26, 66, 67, 68, 69, 25, 188, 180, 181, 182, 201, 202, 203, 204, 205, 206, 207, 208, 753, 323, 324, 325, 326, 327, 328, 329, 330, 331, 332, 333, 279, 161, 162, 163, 334, 335, 336, 337, 338, 339, 340, 341, 342, 343, 344, 345, 1035, 1036, 1017, 1018, 1019, 1020, 1021, 1022, 1023, 1037, 1038, 1039, 1040, 1041, 1042] (by decide +kernel) (by decide +kernel)) (goodIn_sub (fun _ h => List.mem_append_right _ h) (by decide +kernel))) (goodIn_sub (fun _ h => List.mem_append_left _ (List.mem_append_right _ h)) (by decide +kernel))
set_option maxRecDepth 20000 in
theorem gL_law_L_withWay : GoodIn wsL_law (va_wsS RL 231 yL_withWay wsL_withWay) := goodIn_app (goodIn_of _ (by decide +kernel)) ggL_law_L_withWay
set_option maxRecDepth 20000 in
theorem ggL_law_X3_withWay : GoodIn wsL_law wsX3_withWay := goodIn_r _ [948, 39, 117, 118, 119, 5, 120, 35, 121, 122, 123, 78, 79, 80, 81, 82, 368, 369, 370, 371, 372, 373, 374, 375, 37, 376, 377, 378, 379, 380, 381, 382, 383, 124, 125, 126, 127, 36, 384, 385, 386, 387, 168, 169, 170, 171, 388, 389, 390, 391, 392, 393, 394, 395, 396, 397, 398, 399, 400, 401, 402, 403, 38, 1024, 1025, 1026, 1027, 1028, 1029, 1030, 1031, 1032, 1033, 1034] (by decide +kernel) (by decide +kernel)
set_option maxRecDepth 20000 in
theorem gL_law_X3_withWay : GoodIn wsL_law (wsV RL 234 RX3 yX3_withWay wsX3_withWay) := goodIn_app (goodIn_of _ (by decide +kernel)) ggL_law_X3_withWay
set_option maxRecDepth 20000 in
theorem ggL_law_L_house : GoodIn wsL_law wsL_house := goodIn_ca (goodIn_r _ [951, 49, 952, 953, 954, 2, 955, 56, 200, 956, 57, 58, 59, 60, 61, 1035, 1036, 1017, 1018, 1019, 1020, 1021, 1022, 1023] (by decide +kernel) (by decide +kernel)) (goodIn_sub (fun _ h => List.mem_append_left _ (List.mem_append_right _ h)) (by decide +kernel))
set_option maxRecDepth 20000 in
theorem gL_law_L_house : GoodIn wsL_law (va_wsS RL 235 yL_house wsL_house) := goodIn_app (goodIn_of _ (by decide +kernel)) ggL_law_L_house
set_option maxRecDepth 20000 in
theorem ggL_law_X3_house : GoodIn wsL_law wsX3_house := goodIn_r _ [960, 87, 225, 961, 74, 75, 76, 5, 77, 78, 79, 80, 81, 82, 1024, 1025, 1026, 1027, 1028, 1029, 1030, 1031, 1032, 1033, 1034] (by decide +kernel) (by decide +kernel)
set_option maxRecDepth 20000 in
theorem gL_law_X3_house : GoodIn wsL_law (wsV RL 237 RX3 yX3_house wsX3_house) := goodIn_app (goodIn_of _ (by decide +kernel)) ggL_law_X3_house
set_option maxRecDepth 20000 in
theorem ggL_law_X1_knock : GoodIn wsL_law wsX1_knock := goodIn_r _ [965, 956, 1017, 1018, 1019, 1020, 1021, 1022, 1023] (by decide +kernel) (by decide +kernel)
set_option maxRecDepth 20000 in
theorem gL_law_X1_knock : GoodIn wsL_law (wsV RL 238 RX1 yX1_knock wsX1_knock) := goodIn_app (goodIn_of _ (by decide +kernel)) ggL_law_X1_knock
set_option maxRecDepth 20000 in
theorem ggL_law_X3_knock : GoodIn wsL_law wsX3_knock := goodIn_r _ [969, 82, 961, 1024, 1025, 1026, 1027, 1028, 1029, 1030, 1031, 1032, 1033, 1034] (by decide +kernel) (by decide +kernel)
set_option maxRecDepth 20000 in
theorem gL_law_X3_knock : GoodIn wsL_law (wsV RL 241 RX3 yX3_knock wsX3_knock) := goodIn_app (goodIn_of _ (by decide +kernel)) ggL_law_X3_knock
set_option maxRecDepth 20000 in
theorem ggL_law_X1_isSound : GoodIn wsL_law wsX1_isSound := goodIn_r _ [973, 974, 975, 976, 2, 977, 18, 753, 323, 324, 17, 325, 67, 326, 327, 328, 329, 330, 331, 332, 333, 26, 25, 66, 279, 161, 162, 163, 334, 335, 336, 337, 338, 339, 340, 341, 68, 69, 342, 343, 344, 345, 160, 741, 978, 979, 980, 981, 862, 863, 864, 865, 19, 248, 249, 250, 251, 188, 180, 181, 182, 866, 347, 348, 349, 350, 276, 277, 278, 139, 140, 351, 352, 353, 354, 355, 183, 356, 357, 358, 359, 867, 206, 207, 208, 982, 983, 984, 985, 105, 106, 107, 108, 179, 1017, 1018, 1019, 1020, 1021, 1022, 1023, 1037, 1038, 1039, 1040, 1041, 1042] (by decide +kernel) (by decide +kernel)
set_option maxRecDepth 20000 in
theorem gL_law_X1_isSound : GoodIn wsL_law (wsV RL 242 RX1 yX1_isSound wsX1_isSound) := goodIn_app (goodIn_of _ (by decide +kernel)) ggL_law_X1_isSound
set_option maxRecDepth 20000 in
theorem ggL_law_X3_isSound : GoodIn wsL_law wsX3_isSound := goodIn_r _ [989, 82, 1024, 1025, 1026, 1027, 1028, 1029, 1030, 1031, 1032, 1033, 1034] (by decide +kernel) (by decide +kernel)
set_option maxRecDepth 20000 in
theorem gL_law_X3_isSound : GoodIn wsL_law (wsV RL 246 RX3 yX3_isSound wsX3_isSound) := goodIn_app (goodIn_of _ (by decide +kernel)) ggL_law_X3_isSound
set_option maxRecDepth 20000 in
theorem ggL_law_X1_digest : GoodIn wsL_law wsX1_digest := goodIn_ca (goodIn_ca (goodIn_r _ [993, 994, 995, 18, 996, 412, 413, 2, 414, 54, 55, 57, 58, 59, 60, 61, 184, 185, 186, 17, 187, 26, 188, 180, 181, 182, 25, 189, 190, 191, 192, 193, 194, 195, 275, 276, 277, 278, 66, 279, 161, 162, 163, 415, 416, 417, 418, 997, 435, 436, 437, 96, 97, 98, 99, 100, 101, 105, 106, 107, 108, 135, 136, 137, 138, 68, 69, 139, 140, 183, 179, 438, 439, 440, 441, 998, 806, 807, 808, 102, 103, 104, 809, 810, 811, 812, 330, 331, 332, 333, 999, 821, 822, 823, 753, 323, 324, 325, 67, 326, 327, 328, 329, 334, 335, 336, 337, 338, 339, 340, 341, 342, 343, 344, 345, 1000, 750, 751, 752, 1001, 762, 763, 764, 1002, 773, 774, 775, 1003, 784, 785, 786, 1004, 832, 833, 834, 160, 741, 835, 1005, 896, 897, 898, 899, 900, 901, 902, 903, 1006, 953, 954, 955, 56, 200, 956, 1007, 971, 972, 973, 974, 975, 976, 977, 978, 979, 980, 981, 862, 863, 864, 865, 19, 248, 249, 250, 251, 866, 347, 348, 349, 350, 351, 352, 353, 354, 355, 356, 357, 358, 359, 867, 206, 207, 208, 982, 983, 984, 985, 1017, 1018, 1019, 1020, 1021, 1022, 1023, 1037, 1038, 1039, 1040, 1041, 1042] (by decide +kernel) (by decide +kernel)) (goodIn_sub (fun _ h => List.mem_append_left _ (List.mem_append_right _ h)) (by decide +kernel))) (goodIn_sub (fun _ h => List.mem_append_right _ h) (by decide +kernel))
set_option maxRecDepth 20000 in
theorem gL_law_X1_digest : GoodIn wsL_law (wsV RL 247 RX1 yX1_digest wsX1_digest) := goodIn_app (goodIn_of _ (by decide +kernel)) ggL_law_X1_digest
set_option maxRecDepth 20000 in
theorem ggL_law_X3_digest : GoodIn wsL_law wsX3_digest := goodIn_r _ [1011, 82, 1012, 24, 35, 87, 225, 961, 423, 424, 425, 5, 426, 37, 36, 40, 41, 216, 217, 218, 219, 39, 220, 190, 191, 192, 193, 194, 195, 427, 428, 429, 430, 1013, 1014, 1015, 1016, 372, 373, 374, 375, 376, 377, 378, 379, 380, 381, 382, 383, 124, 125, 126, 127, 388, 389, 390, 391, 168, 169, 170, 171, 392, 393, 394, 395, 446, 447, 448, 449, 38, 213, 214, 215, 404, 405, 406, 407, 384, 385, 386, 387, 368, 369, 370, 371, 396, 397, 398, 399, 400, 401, 402, 403, 840, 841, 842, 843, 908, 909, 910, 911, 1024, 1025, 1026, 1027, 1028, 1029, 1030, 1031, 1032, 1033, 1034] (by decide +kernel) (by decide +kernel)
set_option maxRecDepth 20000 in
theorem gL_law_X3_digest : GoodIn wsL_law (wsV RL 251 RX3 yX3_digest wsX3_digest) := goodIn_app (goodIn_of _ (by decide +kernel)) ggL_law_X3_digest
theorem dL_law_0 : decode cL_law 0 = .ok (.new 8, 3) := by decide +kernel
theorem dL_law_3 : decode cL_law 3 = .ok (.dup, 1) := by decide +kernel
theorem dL_law_4 : decode cL_law 4 = .ok (.invokespecial 126, 3) := by decide +kernel
theorem dL_law_7 : decode cL_law 7 = .ok (.astore_n 1, 1) := by decide +kernel
theorem dL_law_8 : decode cL_law 8 = .ok (.new 127, 3) := by decide +kernel
theorem dL_law_11 : decode cL_law 11 = .ok (.dup, 1) := by decide +kernel
theorem dL_law_12 : decode cL_law 12 = .ok (.invokespecial 129, 3) := by decide +kernel
theorem dL_law_15 : decode cL_law 15 = .ok (.astore_n 2, 1) := by decide +kernel
theorem dL_law_16 : decode cL_law 16 = .ok (.new 14, 3) := by decide +kernel
theorem dL_law_19 : decode cL_law 19 = .ok (.dup, 1) := by decide +kernel
theorem dL_law_20 : decode cL_law 20 = .ok (.invokespecial 130, 3) := by decide +kernel
theorem dL_law_23 : decode cL_law 23 = .ok (.astore_n 3, 1) := by decide +kernel
theorem dL_law_24 : decode cL_law 24 = .ok (.iconst 0, 1) := by decide +kernel
theorem dL_law_25 : decode cL_law 25 = .ok (.istore 4, 2) := by decide +kernel
theorem dL_law_27 : decode cL_law 27 = .ok (.iload 4, 2) := by decide +kernel
theorem dL_law_29 : decode cL_law 29 = .ok (.aload_n 0, 1) := by decide +kernel
theorem dL_law_30 : decode cL_law 30 = .ok (.arraylength, 1) := by decide +kernel
theorem dL_law_31 : decode cL_law 31 = .ok (.iconst 5, 1) := by decide +kernel
theorem dL_law_32 : decode cL_law 32 = .ok (.isub, 1) := by decide +kernel
theorem dL_law_33 : decode cL_law 33 = .ok (.if_icmp .gt 1361, 3) := by decide +kernel
theorem dL_law_36 : decode cL_law 36 = .ok (.aload_n 0, 1) := by decide +kernel
theorem dL_law_37 : decode cL_law 37 = .ok (.iload 4, 2) := by decide +kernel
theorem dL_law_39 : decode cL_law 39 = .ok (.iaload, 1) := by decide +kernel
theorem dL_law_40 : decode cL_law 40 = .ok (.bipush 63, 2) := by decide +kernel
theorem dL_law_42 : decode cL_law 42 = .ok (.iand, 1) := by decide +kernel
theorem dL_law_43 : decode cL_law 43 = .ok (.tableswitch 1345 0 35 #[157, 185, 225, 265, 293, 333, 373, 401, 429, 442, 470, 498, 526, 554, 594, 634, 662, 702, 730, 758, 786, 814, 854, 894, 934, 962, 1014, 1054, 1094, 1122, 1162, 1214, 1278, 1306, 1319, 1332], 157) := by decide +kernel
theorem dL_law_200 : decode cL_law 200 = .ok (.aload_n 1, 1) := by decide +kernel
theorem dL_law_201 : decode cL_law 201 = .ok (.aload_n 0, 1) := by decide +kernel
theorem dL_law_202 : decode cL_law 202 = .ok (.iload 4, 2) := by decide +kernel
theorem dL_law_204 : decode cL_law 204 = .ok (.iconst 1, 1) := by decide +kernel
theorem dL_law_205 : decode cL_law 205 = .ok (.iadd, 1) := by decide +kernel
theorem dL_law_206 : decode cL_law 206 = .ok (.iaload, 1) := by decide +kernel
theorem dL_law_207 : decode cL_law 207 = .ok (.aload_n 3, 1) := by decide +kernel
theorem dL_law_208 : decode cL_law 208 = .ok (.invokestatic 131, 3) := by decide +kernel
theorem dL_law_211 : decode cL_law 211 = .ok (.istore 5, 2) := by decide +kernel
theorem dL_law_213 : decode cL_law 213 = .ok (.aload_n 2, 1) := by decide +kernel
theorem dL_law_214 : decode cL_law 214 = .ok (.aload_n 0, 1) := by decide +kernel
theorem dL_law_215 : decode cL_law 215 = .ok (.iload 4, 2) := by decide +kernel
theorem dL_law_217 : decode cL_law 217 = .ok (.iconst 1, 1) := by decide +kernel
theorem dL_law_218 : decode cL_law 218 = .ok (.iadd, 1) := by decide +kernel
theorem dL_law_219 : decode cL_law 219 = .ok (.iaload, 1) := by decide +kernel
theorem dL_law_220 : decode cL_law 220 = .ok (.invokevirtual 136, 3) := by decide +kernel
theorem dL_law_223 : decode cL_law 223 = .ok (.istore 6, 2) := by decide +kernel
theorem dL_law_225 : decode cL_law 225 = .ok (.goto 1163, 3) := by decide +kernel
theorem dL_law_228 : decode cL_law 228 = .ok (.aload_n 1, 1) := by decide +kernel
theorem dL_law_229 : decode cL_law 229 = .ok (.aload_n 0, 1) := by decide +kernel
theorem dL_law_230 : decode cL_law 230 = .ok (.iload 4, 2) := by decide +kernel
theorem dL_law_232 : decode cL_law 232 = .ok (.iconst 1, 1) := by decide +kernel
theorem dL_law_233 : decode cL_law 233 = .ok (.iadd, 1) := by decide +kernel
theorem dL_law_234 : decode cL_law 234 = .ok (.iaload, 1) := by decide +kernel
theorem dL_law_235 : decode cL_law 235 = .ok (.aload_n 0, 1) := by decide +kernel
theorem dL_law_236 : decode cL_law 236 = .ok (.iload 4, 2) := by decide +kernel
theorem dL_law_238 : decode cL_law 238 = .ok (.iconst 2, 1) := by decide +kernel
theorem dL_law_239 : decode cL_law 239 = .ok (.iadd, 1) := by decide +kernel
theorem dL_law_240 : decode cL_law 240 = .ok (.iaload, 1) := by decide +kernel
theorem dL_law_241 : decode cL_law 241 = .ok (.aload_n 3, 1) := by decide +kernel
theorem dL_law_242 : decode cL_law 242 = .ok (.invokestatic 137, 3) := by decide +kernel
theorem dL_law_245 : decode cL_law 245 = .ok (.istore 5, 2) := by decide +kernel
theorem dL_law_247 : decode cL_law 247 = .ok (.aload_n 2, 1) := by decide +kernel
theorem dL_law_248 : decode cL_law 248 = .ok (.aload_n 0, 1) := by decide +kernel
theorem dL_law_249 : decode cL_law 249 = .ok (.iload 4, 2) := by decide +kernel
theorem dL_law_251 : decode cL_law 251 = .ok (.iconst 1, 1) := by decide +kernel
theorem dL_law_252 : decode cL_law 252 = .ok (.iadd, 1) := by decide +kernel
theorem dL_law_253 : decode cL_law 253 = .ok (.iaload, 1) := by decide +kernel
theorem dL_law_254 : decode cL_law 254 = .ok (.aload_n 0, 1) := by decide +kernel
theorem dL_law_255 : decode cL_law 255 = .ok (.iload 4, 2) := by decide +kernel
theorem dL_law_257 : decode cL_law 257 = .ok (.iconst 2, 1) := by decide +kernel
theorem dL_law_258 : decode cL_law 258 = .ok (.iadd, 1) := by decide +kernel
theorem dL_law_259 : decode cL_law 259 = .ok (.iaload, 1) := by decide +kernel
theorem dL_law_260 : decode cL_law 260 = .ok (.invokevirtual 140, 3) := by decide +kernel
theorem dL_law_263 : decode cL_law 263 = .ok (.istore 6, 2) := by decide +kernel
theorem dL_law_265 : decode cL_law 265 = .ok (.goto 1123, 3) := by decide +kernel
theorem dL_law_268 : decode cL_law 268 = .ok (.aload_n 1, 1) := by decide +kernel
theorem dL_law_269 : decode cL_law 269 = .ok (.aload_n 0, 1) := by decide +kernel
theorem dL_law_270 : decode cL_law 270 = .ok (.iload 4, 2) := by decide +kernel
theorem dL_law_272 : decode cL_law 272 = .ok (.iconst 1, 1) := by decide +kernel
theorem dL_law_273 : decode cL_law 273 = .ok (.iadd, 1) := by decide +kernel
theorem dL_law_274 : decode cL_law 274 = .ok (.iaload, 1) := by decide +kernel
theorem dL_law_275 : decode cL_law 275 = .ok (.aload_n 0, 1) := by decide +kernel
theorem dL_law_276 : decode cL_law 276 = .ok (.iload 4, 2) := by decide +kernel
theorem dL_law_278 : decode cL_law 278 = .ok (.iconst 2, 1) := by decide +kernel
theorem dL_law_279 : decode cL_law 279 = .ok (.iadd, 1) := by decide +kernel
theorem dL_law_280 : decode cL_law 280 = .ok (.iaload, 1) := by decide +kernel
theorem dL_law_281 : decode cL_law 281 = .ok (.aload_n 3, 1) := by decide +kernel
theorem dL_law_282 : decode cL_law 282 = .ok (.invokestatic 141, 3) := by decide +kernel
theorem dL_law_285 : decode cL_law 285 = .ok (.istore 5, 2) := by decide +kernel
theorem dL_law_287 : decode cL_law 287 = .ok (.aload_n 2, 1) := by decide +kernel
theorem dL_law_288 : decode cL_law 288 = .ok (.aload_n 0, 1) := by decide +kernel
theorem dL_law_289 : decode cL_law 289 = .ok (.iload 4, 2) := by decide +kernel
theorem dL_law_291 : decode cL_law 291 = .ok (.iconst 1, 1) := by decide +kernel
theorem dL_law_292 : decode cL_law 292 = .ok (.iadd, 1) := by decide +kernel
theorem dL_law_293 : decode cL_law 293 = .ok (.iaload, 1) := by decide +kernel
theorem dL_law_294 : decode cL_law 294 = .ok (.aload_n 0, 1) := by decide +kernel
theorem dL_law_295 : decode cL_law 295 = .ok (.iload 4, 2) := by decide +kernel
theorem dL_law_297 : decode cL_law 297 = .ok (.iconst 2, 1) := by decide +kernel
theorem dL_law_298 : decode cL_law 298 = .ok (.iadd, 1) := by decide +kernel
theorem dL_law_299 : decode cL_law 299 = .ok (.iaload, 1) := by decide +kernel
theorem dL_law_300 : decode cL_law 300 = .ok (.invokevirtual 143, 3) := by decide +kernel
theorem dL_law_303 : decode cL_law 303 = .ok (.istore 6, 2) := by decide +kernel
theorem dL_law_305 : decode cL_law 305 = .ok (.goto 1083, 3) := by decide +kernel
theorem dL_law_308 : decode cL_law 308 = .ok (.aload_n 1, 1) := by decide +kernel
theorem dL_law_309 : decode cL_law 309 = .ok (.aload_n 0, 1) := by decide +kernel
theorem dL_law_310 : decode cL_law 310 = .ok (.iload 4, 2) := by decide +kernel
theorem dL_law_312 : decode cL_law 312 = .ok (.iconst 1, 1) := by decide +kernel
theorem dL_law_313 : decode cL_law 313 = .ok (.iadd, 1) := by decide +kernel
theorem dL_law_314 : decode cL_law 314 = .ok (.iaload, 1) := by decide +kernel
theorem dL_law_315 : decode cL_law 315 = .ok (.aload_n 3, 1) := by decide +kernel
theorem dL_law_316 : decode cL_law 316 = .ok (.invokestatic 144, 3) := by decide +kernel
theorem dL_law_319 : decode cL_law 319 = .ok (.istore 5, 2) := by decide +kernel
theorem dL_law_321 : decode cL_law 321 = .ok (.aload_n 2, 1) := by decide +kernel
theorem dL_law_322 : decode cL_law 322 = .ok (.aload_n 0, 1) := by decide +kernel
theorem dL_law_323 : decode cL_law 323 = .ok (.iload 4, 2) := by decide +kernel
theorem dL_law_325 : decode cL_law 325 = .ok (.iconst 1, 1) := by decide +kernel
theorem dL_law_326 : decode cL_law 326 = .ok (.iadd, 1) := by decide +kernel
theorem dL_law_327 : decode cL_law 327 = .ok (.iaload, 1) := by decide +kernel
theorem dL_law_328 : decode cL_law 328 = .ok (.invokevirtual 146, 3) := by decide +kernel
theorem dL_law_331 : decode cL_law 331 = .ok (.istore 6, 2) := by decide +kernel
theorem dL_law_333 : decode cL_law 333 = .ok (.goto 1055, 3) := by decide +kernel
theorem dL_law_336 : decode cL_law 336 = .ok (.aload_n 1, 1) := by decide +kernel
theorem dL_law_337 : decode cL_law 337 = .ok (.aload_n 0, 1) := by decide +kernel
theorem dL_law_338 : decode cL_law 338 = .ok (.iload 4, 2) := by decide +kernel
theorem dL_law_340 : decode cL_law 340 = .ok (.iconst 1, 1) := by decide +kernel
theorem dL_law_341 : decode cL_law 341 = .ok (.iadd, 1) := by decide +kernel
theorem dL_law_342 : decode cL_law 342 = .ok (.iaload, 1) := by decide +kernel
theorem dL_law_343 : decode cL_law 343 = .ok (.aload_n 0, 1) := by decide +kernel
theorem dL_law_344 : decode cL_law 344 = .ok (.iload 4, 2) := by decide +kernel
theorem dL_law_346 : decode cL_law 346 = .ok (.iconst 2, 1) := by decide +kernel
theorem dL_law_347 : decode cL_law 347 = .ok (.iadd, 1) := by decide +kernel
theorem dL_law_348 : decode cL_law 348 = .ok (.iaload, 1) := by decide +kernel
theorem dL_law_349 : decode cL_law 349 = .ok (.aload_n 3, 1) := by decide +kernel
theorem dL_law_350 : decode cL_law 350 = .ok (.invokestatic 147, 3) := by decide +kernel
theorem dL_law_353 : decode cL_law 353 = .ok (.istore 5, 2) := by decide +kernel
theorem dL_law_355 : decode cL_law 355 = .ok (.aload_n 2, 1) := by decide +kernel
theorem dL_law_356 : decode cL_law 356 = .ok (.aload_n 0, 1) := by decide +kernel
theorem dL_law_357 : decode cL_law 357 = .ok (.iload 4, 2) := by decide +kernel
theorem dL_law_359 : decode cL_law 359 = .ok (.iconst 1, 1) := by decide +kernel
theorem dL_law_360 : decode cL_law 360 = .ok (.iadd, 1) := by decide +kernel
theorem dL_law_361 : decode cL_law 361 = .ok (.iaload, 1) := by decide +kernel
theorem dL_law_362 : decode cL_law 362 = .ok (.aload_n 0, 1) := by decide +kernel
theorem dL_law_363 : decode cL_law 363 = .ok (.iload 4, 2) := by decide +kernel
theorem dL_law_365 : decode cL_law 365 = .ok (.iconst 2, 1) := by decide +kernel
theorem dL_law_366 : decode cL_law 366 = .ok (.iadd, 1) := by decide +kernel
theorem dL_law_367 : decode cL_law 367 = .ok (.iaload, 1) := by decide +kernel
theorem dL_law_368 : decode cL_law 368 = .ok (.invokevirtual 149, 3) := by decide +kernel
theorem dL_law_371 : decode cL_law 371 = .ok (.istore 6, 2) := by decide +kernel
theorem dL_law_373 : decode cL_law 373 = .ok (.goto 1015, 3) := by decide +kernel
theorem dL_law_376 : decode cL_law 376 = .ok (.aload_n 1, 1) := by decide +kernel
theorem dL_law_377 : decode cL_law 377 = .ok (.aload_n 0, 1) := by decide +kernel
theorem dL_law_378 : decode cL_law 378 = .ok (.iload 4, 2) := by decide +kernel
theorem dL_law_380 : decode cL_law 380 = .ok (.iconst 1, 1) := by decide +kernel
theorem dL_law_381 : decode cL_law 381 = .ok (.iadd, 1) := by decide +kernel
theorem dL_law_382 : decode cL_law 382 = .ok (.iaload, 1) := by decide +kernel
theorem dL_law_383 : decode cL_law 383 = .ok (.aload_n 0, 1) := by decide +kernel
theorem dL_law_384 : decode cL_law 384 = .ok (.iload 4, 2) := by decide +kernel
theorem dL_law_386 : decode cL_law 386 = .ok (.iconst 2, 1) := by decide +kernel
theorem dL_law_387 : decode cL_law 387 = .ok (.iadd, 1) := by decide +kernel
theorem dL_law_388 : decode cL_law 388 = .ok (.iaload, 1) := by decide +kernel
theorem dL_law_389 : decode cL_law 389 = .ok (.aload_n 3, 1) := by decide +kernel
theorem dL_law_390 : decode cL_law 390 = .ok (.invokestatic 150, 3) := by decide +kernel
theorem dL_law_393 : decode cL_law 393 = .ok (.istore 5, 2) := by decide +kernel
theorem dL_law_395 : decode cL_law 395 = .ok (.aload_n 2, 1) := by decide +kernel
theorem dL_law_396 : decode cL_law 396 = .ok (.aload_n 0, 1) := by decide +kernel
theorem dL_law_397 : decode cL_law 397 = .ok (.iload 4, 2) := by decide +kernel
theorem dL_law_399 : decode cL_law 399 = .ok (.iconst 1, 1) := by decide +kernel
theorem dL_law_400 : decode cL_law 400 = .ok (.iadd, 1) := by decide +kernel
theorem dL_law_401 : decode cL_law 401 = .ok (.iaload, 1) := by decide +kernel
theorem dL_law_402 : decode cL_law 402 = .ok (.aload_n 0, 1) := by decide +kernel
theorem dL_law_403 : decode cL_law 403 = .ok (.iload 4, 2) := by decide +kernel
theorem dL_law_405 : decode cL_law 405 = .ok (.iconst 2, 1) := by decide +kernel
theorem dL_law_406 : decode cL_law 406 = .ok (.iadd, 1) := by decide +kernel
theorem dL_law_407 : decode cL_law 407 = .ok (.iaload, 1) := by decide +kernel
theorem dL_law_408 : decode cL_law 408 = .ok (.invokevirtual 152, 3) := by decide +kernel
theorem dL_law_411 : decode cL_law 411 = .ok (.istore 6, 2) := by decide +kernel
theorem dL_law_413 : decode cL_law 413 = .ok (.goto 975, 3) := by decide +kernel
theorem dL_law_416 : decode cL_law 416 = .ok (.aload_n 1, 1) := by decide +kernel
theorem dL_law_417 : decode cL_law 417 = .ok (.aload_n 0, 1) := by decide +kernel
theorem dL_law_418 : decode cL_law 418 = .ok (.iload 4, 2) := by decide +kernel
theorem dL_law_420 : decode cL_law 420 = .ok (.iconst 1, 1) := by decide +kernel
theorem dL_law_421 : decode cL_law 421 = .ok (.iadd, 1) := by decide +kernel
theorem dL_law_422 : decode cL_law 422 = .ok (.iaload, 1) := by decide +kernel
theorem dL_law_423 : decode cL_law 423 = .ok (.aload_n 3, 1) := by decide +kernel
theorem dL_law_424 : decode cL_law 424 = .ok (.invokestatic 153, 3) := by decide +kernel
theorem dL_law_427 : decode cL_law 427 = .ok (.istore 5, 2) := by decide +kernel
theorem dL_law_429 : decode cL_law 429 = .ok (.aload_n 2, 1) := by decide +kernel
theorem dL_law_430 : decode cL_law 430 = .ok (.aload_n 0, 1) := by decide +kernel
theorem dL_law_431 : decode cL_law 431 = .ok (.iload 4, 2) := by decide +kernel
theorem dL_law_433 : decode cL_law 433 = .ok (.iconst 1, 1) := by decide +kernel
theorem dL_law_434 : decode cL_law 434 = .ok (.iadd, 1) := by decide +kernel
theorem dL_law_435 : decode cL_law 435 = .ok (.iaload, 1) := by decide +kernel
theorem dL_law_436 : decode cL_law 436 = .ok (.invokevirtual 155, 3) := by decide +kernel
theorem dL_law_439 : decode cL_law 439 = .ok (.istore 6, 2) := by decide +kernel
theorem dL_law_441 : decode cL_law 441 = .ok (.goto 947, 3) := by decide +kernel
theorem dL_law_444 : decode cL_law 444 = .ok (.aload_n 1, 1) := by decide +kernel
theorem dL_law_445 : decode cL_law 445 = .ok (.aload_n 0, 1) := by decide +kernel
theorem dL_law_446 : decode cL_law 446 = .ok (.iload 4, 2) := by decide +kernel
theorem dL_law_448 : decode cL_law 448 = .ok (.iconst 1, 1) := by decide +kernel
theorem dL_law_449 : decode cL_law 449 = .ok (.iadd, 1) := by decide +kernel
theorem dL_law_450 : decode cL_law 450 = .ok (.iaload, 1) := by decide +kernel
theorem dL_law_451 : decode cL_law 451 = .ok (.aload_n 3, 1) := by decide +kernel
theorem dL_law_452 : decode cL_law 452 = .ok (.invokestatic 156, 3) := by decide +kernel
theorem dL_law_455 : decode cL_law 455 = .ok (.istore 5, 2) := by decide +kernel
theorem dL_law_457 : decode cL_law 457 = .ok (.aload_n 2, 1) := by decide +kernel
theorem dL_law_458 : decode cL_law 458 = .ok (.aload_n 0, 1) := by decide +kernel
theorem dL_law_459 : decode cL_law 459 = .ok (.iload 4, 2) := by decide +kernel
theorem dL_law_461 : decode cL_law 461 = .ok (.iconst 1, 1) := by decide +kernel
theorem dL_law_462 : decode cL_law 462 = .ok (.iadd, 1) := by decide +kernel
theorem dL_law_463 : decode cL_law 463 = .ok (.iaload, 1) := by decide +kernel
theorem dL_law_464 : decode cL_law 464 = .ok (.invokevirtual 158, 3) := by decide +kernel
theorem dL_law_467 : decode cL_law 467 = .ok (.istore 6, 2) := by decide +kernel
theorem dL_law_469 : decode cL_law 469 = .ok (.goto 919, 3) := by decide +kernel
theorem dL_law_472 : decode cL_law 472 = .ok (.aload_n 1, 1) := by decide +kernel
theorem dL_law_473 : decode cL_law 473 = .ok (.invokevirtual 159, 3) := by decide +kernel
theorem dL_law_476 : decode cL_law 476 = .ok (.pop, 1) := by decide +kernel
theorem dL_law_477 : decode cL_law 477 = .ok (.aload_n 2, 1) := by decide +kernel
theorem dL_law_478 : decode cL_law 478 = .ok (.invokevirtual 163, 3) := by decide +kernel
theorem dL_law_481 : decode cL_law 481 = .ok (.pop, 1) := by decide +kernel
theorem dL_law_482 : decode cL_law 482 = .ok (.goto 906, 3) := by decide +kernel
theorem dL_law_485 : decode cL_law 485 = .ok (.aload_n 1, 1) := by decide +kernel
theorem dL_law_486 : decode cL_law 486 = .ok (.aload_n 0, 1) := by decide +kernel
theorem dL_law_487 : decode cL_law 487 = .ok (.iload 4, 2) := by decide +kernel
theorem dL_law_489 : decode cL_law 489 = .ok (.iconst 1, 1) := by decide +kernel
theorem dL_law_490 : decode cL_law 490 = .ok (.iadd, 1) := by decide +kernel
theorem dL_law_491 : decode cL_law 491 = .ok (.iaload, 1) := by decide +kernel
theorem dL_law_492 : decode cL_law 492 = .ok (.aload_n 3, 1) := by decide +kernel
theorem dL_law_493 : decode cL_law 493 = .ok (.invokestatic 164, 3) := by decide +kernel
theorem dL_law_496 : decode cL_law 496 = .ok (.istore 5, 2) := by decide +kernel
theorem dL_law_498 : decode cL_law 498 = .ok (.aload_n 2, 1) := by decide +kernel
theorem dL_law_499 : decode cL_law 499 = .ok (.aload_n 0, 1) := by decide +kernel
theorem dL_law_500 : decode cL_law 500 = .ok (.iload 4, 2) := by decide +kernel
theorem dL_law_502 : decode cL_law 502 = .ok (.iconst 1, 1) := by decide +kernel
theorem dL_law_503 : decode cL_law 503 = .ok (.iadd, 1) := by decide +kernel
theorem dL_law_504 : decode cL_law 504 = .ok (.iaload, 1) := by decide +kernel
theorem dL_law_505 : decode cL_law 505 = .ok (.invokevirtual 166, 3) := by decide +kernel
theorem dL_law_508 : decode cL_law 508 = .ok (.istore 6, 2) := by decide +kernel
theorem dL_law_510 : decode cL_law 510 = .ok (.goto 878, 3) := by decide +kernel
theorem dL_law_513 : decode cL_law 513 = .ok (.aload_n 1, 1) := by decide +kernel
theorem dL_law_514 : decode cL_law 514 = .ok (.aload_n 0, 1) := by decide +kernel
theorem dL_law_515 : decode cL_law 515 = .ok (.iload 4, 2) := by decide +kernel
theorem dL_law_517 : decode cL_law 517 = .ok (.iconst 1, 1) := by decide +kernel
theorem dL_law_518 : decode cL_law 518 = .ok (.iadd, 1) := by decide +kernel
theorem dL_law_519 : decode cL_law 519 = .ok (.iaload, 1) := by decide +kernel
theorem dL_law_520 : decode cL_law 520 = .ok (.aload_n 3, 1) := by decide +kernel
theorem dL_law_521 : decode cL_law 521 = .ok (.invokestatic 167, 3) := by decide +kernel
theorem dL_law_524 : decode cL_law 524 = .ok (.istore 5, 2) := by decide +kernel
theorem dL_law_526 : decode cL_law 526 = .ok (.aload_n 2, 1) := by decide +kernel
theorem dL_law_527 : decode cL_law 527 = .ok (.aload_n 0, 1) := by decide +kernel
theorem dL_law_528 : decode cL_law 528 = .ok (.iload 4, 2) := by decide +kernel
theorem dL_law_530 : decode cL_law 530 = .ok (.iconst 1, 1) := by decide +kernel
theorem dL_law_531 : decode cL_law 531 = .ok (.iadd, 1) := by decide +kernel
theorem dL_law_532 : decode cL_law 532 = .ok (.iaload, 1) := by decide +kernel
theorem dL_law_533 : decode cL_law 533 = .ok (.invokevirtual 169, 3) := by decide +kernel
theorem dL_law_536 : decode cL_law 536 = .ok (.istore 6, 2) := by decide +kernel
theorem dL_law_538 : decode cL_law 538 = .ok (.goto 850, 3) := by decide +kernel
theorem dL_law_541 : decode cL_law 541 = .ok (.aload_n 1, 1) := by decide +kernel
theorem dL_law_542 : decode cL_law 542 = .ok (.aload_n 0, 1) := by decide +kernel
theorem dL_law_543 : decode cL_law 543 = .ok (.iload 4, 2) := by decide +kernel
theorem dL_law_545 : decode cL_law 545 = .ok (.iconst 1, 1) := by decide +kernel
theorem dL_law_546 : decode cL_law 546 = .ok (.iadd, 1) := by decide +kernel
theorem dL_law_547 : decode cL_law 547 = .ok (.iaload, 1) := by decide +kernel
theorem dL_law_548 : decode cL_law 548 = .ok (.aload_n 3, 1) := by decide +kernel
theorem dL_law_549 : decode cL_law 549 = .ok (.invokestatic 170, 3) := by decide +kernel
theorem dL_law_552 : decode cL_law 552 = .ok (.istore 5, 2) := by decide +kernel
theorem dL_law_554 : decode cL_law 554 = .ok (.aload_n 2, 1) := by decide +kernel
theorem dL_law_555 : decode cL_law 555 = .ok (.aload_n 0, 1) := by decide +kernel
theorem dL_law_556 : decode cL_law 556 = .ok (.iload 4, 2) := by decide +kernel
theorem dL_law_558 : decode cL_law 558 = .ok (.iconst 1, 1) := by decide +kernel
theorem dL_law_559 : decode cL_law 559 = .ok (.iadd, 1) := by decide +kernel
theorem dL_law_560 : decode cL_law 560 = .ok (.iaload, 1) := by decide +kernel
theorem dL_law_561 : decode cL_law 561 = .ok (.invokevirtual 172, 3) := by decide +kernel
theorem dL_law_564 : decode cL_law 564 = .ok (.istore 6, 2) := by decide +kernel
theorem dL_law_566 : decode cL_law 566 = .ok (.goto 822, 3) := by decide +kernel
theorem dL_law_569 : decode cL_law 569 = .ok (.aload_n 1, 1) := by decide +kernel
theorem dL_law_570 : decode cL_law 570 = .ok (.aload_n 0, 1) := by decide +kernel
theorem dL_law_571 : decode cL_law 571 = .ok (.iload 4, 2) := by decide +kernel
theorem dL_law_573 : decode cL_law 573 = .ok (.iconst 1, 1) := by decide +kernel
theorem dL_law_574 : decode cL_law 574 = .ok (.iadd, 1) := by decide +kernel
theorem dL_law_575 : decode cL_law 575 = .ok (.iaload, 1) := by decide +kernel
theorem dL_law_576 : decode cL_law 576 = .ok (.aload_n 3, 1) := by decide +kernel
theorem dL_law_577 : decode cL_law 577 = .ok (.invokestatic 173, 3) := by decide +kernel
theorem dL_law_580 : decode cL_law 580 = .ok (.istore 5, 2) := by decide +kernel
theorem dL_law_582 : decode cL_law 582 = .ok (.aload_n 2, 1) := by decide +kernel
theorem dL_law_583 : decode cL_law 583 = .ok (.aload_n 0, 1) := by decide +kernel
theorem dL_law_584 : decode cL_law 584 = .ok (.iload 4, 2) := by decide +kernel
theorem dL_law_586 : decode cL_law 586 = .ok (.iconst 1, 1) := by decide +kernel
theorem dL_law_587 : decode cL_law 587 = .ok (.iadd, 1) := by decide +kernel
theorem dL_law_588 : decode cL_law 588 = .ok (.iaload, 1) := by decide +kernel
theorem dL_law_589 : decode cL_law 589 = .ok (.invokevirtual 175, 3) := by decide +kernel
theorem dL_law_592 : decode cL_law 592 = .ok (.istore 6, 2) := by decide +kernel
theorem dL_law_594 : decode cL_law 594 = .ok (.goto 794, 3) := by decide +kernel
theorem dL_law_597 : decode cL_law 597 = .ok (.aload_n 1, 1) := by decide +kernel
theorem dL_law_598 : decode cL_law 598 = .ok (.aload_n 0, 1) := by decide +kernel
theorem dL_law_599 : decode cL_law 599 = .ok (.iload 4, 2) := by decide +kernel
theorem dL_law_601 : decode cL_law 601 = .ok (.iconst 1, 1) := by decide +kernel
theorem dL_law_602 : decode cL_law 602 = .ok (.iadd, 1) := by decide +kernel
theorem dL_law_603 : decode cL_law 603 = .ok (.iaload, 1) := by decide +kernel
theorem dL_law_604 : decode cL_law 604 = .ok (.aload_n 0, 1) := by decide +kernel
theorem dL_law_605 : decode cL_law 605 = .ok (.iload 4, 2) := by decide +kernel
theorem dL_law_607 : decode cL_law 607 = .ok (.iconst 2, 1) := by decide +kernel
theorem dL_law_608 : decode cL_law 608 = .ok (.iadd, 1) := by decide +kernel
theorem dL_law_609 : decode cL_law 609 = .ok (.iaload, 1) := by decide +kernel
theorem dL_law_610 : decode cL_law 610 = .ok (.aload_n 3, 1) := by decide +kernel
theorem dL_law_611 : decode cL_law 611 = .ok (.invokestatic 176, 3) := by decide +kernel
theorem dL_law_614 : decode cL_law 614 = .ok (.istore 5, 2) := by decide +kernel
theorem dL_law_616 : decode cL_law 616 = .ok (.aload_n 2, 1) := by decide +kernel
theorem dL_law_617 : decode cL_law 617 = .ok (.aload_n 0, 1) := by decide +kernel
theorem dL_law_618 : decode cL_law 618 = .ok (.iload 4, 2) := by decide +kernel
theorem dL_law_620 : decode cL_law 620 = .ok (.iconst 1, 1) := by decide +kernel
theorem dL_law_621 : decode cL_law 621 = .ok (.iadd, 1) := by decide +kernel
theorem dL_law_622 : decode cL_law 622 = .ok (.iaload, 1) := by decide +kernel
theorem dL_law_623 : decode cL_law 623 = .ok (.aload_n 0, 1) := by decide +kernel
theorem dL_law_624 : decode cL_law 624 = .ok (.iload 4, 2) := by decide +kernel
theorem dL_law_626 : decode cL_law 626 = .ok (.iconst 2, 1) := by decide +kernel
theorem dL_law_627 : decode cL_law 627 = .ok (.iadd, 1) := by decide +kernel
theorem dL_law_628 : decode cL_law 628 = .ok (.iaload, 1) := by decide +kernel
theorem dL_law_629 : decode cL_law 629 = .ok (.invokevirtual 178, 3) := by decide +kernel
theorem dL_law_632 : decode cL_law 632 = .ok (.istore 6, 2) := by decide +kernel
theorem dL_law_634 : decode cL_law 634 = .ok (.goto 754, 3) := by decide +kernel
theorem dL_law_637 : decode cL_law 637 = .ok (.aload_n 1, 1) := by decide +kernel
theorem dL_law_638 : decode cL_law 638 = .ok (.aload_n 0, 1) := by decide +kernel
theorem dL_law_639 : decode cL_law 639 = .ok (.iload 4, 2) := by decide +kernel
theorem dL_law_641 : decode cL_law 641 = .ok (.iconst 1, 1) := by decide +kernel
theorem dL_law_642 : decode cL_law 642 = .ok (.iadd, 1) := by decide +kernel
theorem dL_law_643 : decode cL_law 643 = .ok (.iaload, 1) := by decide +kernel
theorem dL_law_644 : decode cL_law 644 = .ok (.aload_n 0, 1) := by decide +kernel
theorem dL_law_645 : decode cL_law 645 = .ok (.iload 4, 2) := by decide +kernel
theorem dL_law_647 : decode cL_law 647 = .ok (.iconst 2, 1) := by decide +kernel
theorem dL_law_648 : decode cL_law 648 = .ok (.iadd, 1) := by decide +kernel
theorem dL_law_649 : decode cL_law 649 = .ok (.iaload, 1) := by decide +kernel
theorem dL_law_650 : decode cL_law 650 = .ok (.aload_n 3, 1) := by decide +kernel
theorem dL_law_651 : decode cL_law 651 = .ok (.invokestatic 179, 3) := by decide +kernel
theorem dL_law_654 : decode cL_law 654 = .ok (.istore 5, 2) := by decide +kernel
theorem dL_law_656 : decode cL_law 656 = .ok (.aload_n 2, 1) := by decide +kernel
theorem dL_law_657 : decode cL_law 657 = .ok (.aload_n 0, 1) := by decide +kernel
theorem dL_law_658 : decode cL_law 658 = .ok (.iload 4, 2) := by decide +kernel
theorem dL_law_660 : decode cL_law 660 = .ok (.iconst 1, 1) := by decide +kernel
theorem dL_law_661 : decode cL_law 661 = .ok (.iadd, 1) := by decide +kernel
theorem dL_law_662 : decode cL_law 662 = .ok (.iaload, 1) := by decide +kernel
theorem dL_law_663 : decode cL_law 663 = .ok (.aload_n 0, 1) := by decide +kernel
theorem dL_law_664 : decode cL_law 664 = .ok (.iload 4, 2) := by decide +kernel
theorem dL_law_666 : decode cL_law 666 = .ok (.iconst 2, 1) := by decide +kernel
theorem dL_law_667 : decode cL_law 667 = .ok (.iadd, 1) := by decide +kernel
theorem dL_law_668 : decode cL_law 668 = .ok (.iaload, 1) := by decide +kernel
theorem dL_law_669 : decode cL_law 669 = .ok (.invokevirtual 181, 3) := by decide +kernel
theorem dL_law_672 : decode cL_law 672 = .ok (.istore 6, 2) := by decide +kernel
theorem dL_law_674 : decode cL_law 674 = .ok (.goto 714, 3) := by decide +kernel
theorem dL_law_677 : decode cL_law 677 = .ok (.aload_n 1, 1) := by decide +kernel
theorem dL_law_678 : decode cL_law 678 = .ok (.aload_n 0, 1) := by decide +kernel
theorem dL_law_679 : decode cL_law 679 = .ok (.iload 4, 2) := by decide +kernel
theorem dL_law_681 : decode cL_law 681 = .ok (.iconst 1, 1) := by decide +kernel
theorem dL_law_682 : decode cL_law 682 = .ok (.iadd, 1) := by decide +kernel
theorem dL_law_683 : decode cL_law 683 = .ok (.iaload, 1) := by decide +kernel
theorem dL_law_684 : decode cL_law 684 = .ok (.aload_n 3, 1) := by decide +kernel
theorem dL_law_685 : decode cL_law 685 = .ok (.invokestatic 182, 3) := by decide +kernel
theorem dL_law_688 : decode cL_law 688 = .ok (.istore 5, 2) := by decide +kernel
theorem dL_law_690 : decode cL_law 690 = .ok (.aload_n 2, 1) := by decide +kernel
theorem dL_law_691 : decode cL_law 691 = .ok (.aload_n 0, 1) := by decide +kernel
theorem dL_law_692 : decode cL_law 692 = .ok (.iload 4, 2) := by decide +kernel
theorem dL_law_694 : decode cL_law 694 = .ok (.iconst 1, 1) := by decide +kernel
theorem dL_law_695 : decode cL_law 695 = .ok (.iadd, 1) := by decide +kernel
theorem dL_law_696 : decode cL_law 696 = .ok (.iaload, 1) := by decide +kernel
theorem dL_law_697 : decode cL_law 697 = .ok (.invokevirtual 184, 3) := by decide +kernel
theorem dL_law_700 : decode cL_law 700 = .ok (.astore 6, 2) := by decide +kernel
theorem dL_law_702 : decode cL_law 702 = .ok (.goto 686, 3) := by decide +kernel
theorem dL_law_705 : decode cL_law 705 = .ok (.aload_n 1, 1) := by decide +kernel
theorem dL_law_706 : decode cL_law 706 = .ok (.aload_n 0, 1) := by decide +kernel
theorem dL_law_707 : decode cL_law 707 = .ok (.iload 4, 2) := by decide +kernel
theorem dL_law_709 : decode cL_law 709 = .ok (.iconst 1, 1) := by decide +kernel
theorem dL_law_710 : decode cL_law 710 = .ok (.iadd, 1) := by decide +kernel
theorem dL_law_711 : decode cL_law 711 = .ok (.iaload, 1) := by decide +kernel
theorem dL_law_712 : decode cL_law 712 = .ok (.aload_n 0, 1) := by decide +kernel
theorem dL_law_713 : decode cL_law 713 = .ok (.iload 4, 2) := by decide +kernel
theorem dL_law_715 : decode cL_law 715 = .ok (.iconst 2, 1) := by decide +kernel
theorem dL_law_716 : decode cL_law 716 = .ok (.iadd, 1) := by decide +kernel
theorem dL_law_717 : decode cL_law 717 = .ok (.iaload, 1) := by decide +kernel
theorem dL_law_718 : decode cL_law 718 = .ok (.aload_n 3, 1) := by decide +kernel
theorem dL_law_719 : decode cL_law 719 = .ok (.invokestatic 185, 3) := by decide +kernel
theorem dL_law_722 : decode cL_law 722 = .ok (.istore 5, 2) := by decide +kernel
theorem dL_law_724 : decode cL_law 724 = .ok (.aload_n 2, 1) := by decide +kernel
theorem dL_law_725 : decode cL_law 725 = .ok (.aload_n 0, 1) := by decide +kernel
theorem dL_law_726 : decode cL_law 726 = .ok (.iload 4, 2) := by decide +kernel
theorem dL_law_728 : decode cL_law 728 = .ok (.iconst 1, 1) := by decide +kernel
theorem dL_law_729 : decode cL_law 729 = .ok (.iadd, 1) := by decide +kernel
theorem dL_law_730 : decode cL_law 730 = .ok (.iaload, 1) := by decide +kernel
theorem dL_law_731 : decode cL_law 731 = .ok (.aload_n 0, 1) := by decide +kernel
theorem dL_law_732 : decode cL_law 732 = .ok (.iload 4, 2) := by decide +kernel
theorem dL_law_734 : decode cL_law 734 = .ok (.iconst 2, 1) := by decide +kernel
theorem dL_law_735 : decode cL_law 735 = .ok (.iadd, 1) := by decide +kernel
theorem dL_law_736 : decode cL_law 736 = .ok (.iaload, 1) := by decide +kernel
theorem dL_law_737 : decode cL_law 737 = .ok (.invokevirtual 187, 3) := by decide +kernel
theorem dL_law_740 : decode cL_law 740 = .ok (.istore 6, 2) := by decide +kernel
theorem dL_law_742 : decode cL_law 742 = .ok (.goto 646, 3) := by decide +kernel
theorem dL_law_745 : decode cL_law 745 = .ok (.aload_n 1, 1) := by decide +kernel
theorem dL_law_746 : decode cL_law 746 = .ok (.aload_n 0, 1) := by decide +kernel
theorem dL_law_747 : decode cL_law 747 = .ok (.iload 4, 2) := by decide +kernel
theorem dL_law_749 : decode cL_law 749 = .ok (.iconst 1, 1) := by decide +kernel
theorem dL_law_750 : decode cL_law 750 = .ok (.iadd, 1) := by decide +kernel
theorem dL_law_751 : decode cL_law 751 = .ok (.iaload, 1) := by decide +kernel
theorem dL_law_752 : decode cL_law 752 = .ok (.aload_n 3, 1) := by decide +kernel
theorem dL_law_753 : decode cL_law 753 = .ok (.invokestatic 188, 3) := by decide +kernel
theorem dL_law_756 : decode cL_law 756 = .ok (.istore 5, 2) := by decide +kernel
theorem dL_law_758 : decode cL_law 758 = .ok (.aload_n 2, 1) := by decide +kernel
theorem dL_law_759 : decode cL_law 759 = .ok (.aload_n 0, 1) := by decide +kernel
theorem dL_law_760 : decode cL_law 760 = .ok (.iload 4, 2) := by decide +kernel
theorem dL_law_762 : decode cL_law 762 = .ok (.iconst 1, 1) := by decide +kernel
theorem dL_law_763 : decode cL_law 763 = .ok (.iadd, 1) := by decide +kernel
theorem dL_law_764 : decode cL_law 764 = .ok (.iaload, 1) := by decide +kernel
theorem dL_law_765 : decode cL_law 765 = .ok (.invokevirtual 190, 3) := by decide +kernel
theorem dL_law_768 : decode cL_law 768 = .ok (.istore 6, 2) := by decide +kernel
theorem dL_law_770 : decode cL_law 770 = .ok (.goto 618, 3) := by decide +kernel
theorem dL_law_773 : decode cL_law 773 = .ok (.aload_n 1, 1) := by decide +kernel
theorem dL_law_774 : decode cL_law 774 = .ok (.aload_n 0, 1) := by decide +kernel
theorem dL_law_775 : decode cL_law 775 = .ok (.iload 4, 2) := by decide +kernel
theorem dL_law_777 : decode cL_law 777 = .ok (.iconst 1, 1) := by decide +kernel
theorem dL_law_778 : decode cL_law 778 = .ok (.iadd, 1) := by decide +kernel
theorem dL_law_779 : decode cL_law 779 = .ok (.iaload, 1) := by decide +kernel
theorem dL_law_780 : decode cL_law 780 = .ok (.aload_n 3, 1) := by decide +kernel
theorem dL_law_781 : decode cL_law 781 = .ok (.invokestatic 191, 3) := by decide +kernel
theorem dL_law_784 : decode cL_law 784 = .ok (.istore 5, 2) := by decide +kernel
theorem dL_law_786 : decode cL_law 786 = .ok (.aload_n 2, 1) := by decide +kernel
theorem dL_law_787 : decode cL_law 787 = .ok (.aload_n 0, 1) := by decide +kernel
theorem dL_law_788 : decode cL_law 788 = .ok (.iload 4, 2) := by decide +kernel
theorem dL_law_790 : decode cL_law 790 = .ok (.iconst 1, 1) := by decide +kernel
theorem dL_law_791 : decode cL_law 791 = .ok (.iadd, 1) := by decide +kernel
theorem dL_law_792 : decode cL_law 792 = .ok (.iaload, 1) := by decide +kernel
theorem dL_law_793 : decode cL_law 793 = .ok (.invokevirtual 193, 3) := by decide +kernel
theorem dL_law_796 : decode cL_law 796 = .ok (.istore 6, 2) := by decide +kernel
theorem dL_law_798 : decode cL_law 798 = .ok (.goto 590, 3) := by decide +kernel
theorem dL_law_801 : decode cL_law 801 = .ok (.aload_n 1, 1) := by decide +kernel
theorem dL_law_802 : decode cL_law 802 = .ok (.aload_n 0, 1) := by decide +kernel
theorem dL_law_803 : decode cL_law 803 = .ok (.iload 4, 2) := by decide +kernel
theorem dL_law_805 : decode cL_law 805 = .ok (.iconst 1, 1) := by decide +kernel
theorem dL_law_806 : decode cL_law 806 = .ok (.iadd, 1) := by decide +kernel
theorem dL_law_807 : decode cL_law 807 = .ok (.iaload, 1) := by decide +kernel
theorem dL_law_808 : decode cL_law 808 = .ok (.aload_n 3, 1) := by decide +kernel
theorem dL_law_809 : decode cL_law 809 = .ok (.invokestatic 194, 3) := by decide +kernel
theorem dL_law_812 : decode cL_law 812 = .ok (.istore 5, 2) := by decide +kernel
theorem dL_law_814 : decode cL_law 814 = .ok (.aload_n 2, 1) := by decide +kernel
theorem dL_law_815 : decode cL_law 815 = .ok (.aload_n 0, 1) := by decide +kernel
theorem dL_law_816 : decode cL_law 816 = .ok (.iload 4, 2) := by decide +kernel
theorem dL_law_818 : decode cL_law 818 = .ok (.iconst 1, 1) := by decide +kernel
theorem dL_law_819 : decode cL_law 819 = .ok (.iadd, 1) := by decide +kernel
theorem dL_law_820 : decode cL_law 820 = .ok (.iaload, 1) := by decide +kernel
theorem dL_law_821 : decode cL_law 821 = .ok (.invokevirtual 196, 3) := by decide +kernel
theorem dL_law_824 : decode cL_law 824 = .ok (.istore 6, 2) := by decide +kernel
theorem dL_law_826 : decode cL_law 826 = .ok (.goto 562, 3) := by decide +kernel
theorem dL_law_829 : decode cL_law 829 = .ok (.aload_n 1, 1) := by decide +kernel
theorem dL_law_830 : decode cL_law 830 = .ok (.aload_n 0, 1) := by decide +kernel
theorem dL_law_831 : decode cL_law 831 = .ok (.iload 4, 2) := by decide +kernel
theorem dL_law_833 : decode cL_law 833 = .ok (.iconst 1, 1) := by decide +kernel
theorem dL_law_834 : decode cL_law 834 = .ok (.iadd, 1) := by decide +kernel
theorem dL_law_835 : decode cL_law 835 = .ok (.iaload, 1) := by decide +kernel
theorem dL_law_836 : decode cL_law 836 = .ok (.aload_n 3, 1) := by decide +kernel
theorem dL_law_837 : decode cL_law 837 = .ok (.invokestatic 197, 3) := by decide +kernel
theorem dL_law_840 : decode cL_law 840 = .ok (.istore 5, 2) := by decide +kernel
theorem dL_law_842 : decode cL_law 842 = .ok (.aload_n 2, 1) := by decide +kernel
theorem dL_law_843 : decode cL_law 843 = .ok (.aload_n 0, 1) := by decide +kernel
theorem dL_law_844 : decode cL_law 844 = .ok (.iload 4, 2) := by decide +kernel
theorem dL_law_846 : decode cL_law 846 = .ok (.iconst 1, 1) := by decide +kernel
theorem dL_law_847 : decode cL_law 847 = .ok (.iadd, 1) := by decide +kernel
theorem dL_law_848 : decode cL_law 848 = .ok (.iaload, 1) := by decide +kernel
theorem dL_law_849 : decode cL_law 849 = .ok (.invokevirtual 199, 3) := by decide +kernel
theorem dL_law_852 : decode cL_law 852 = .ok (.istore 6, 2) := by decide +kernel
theorem dL_law_854 : decode cL_law 854 = .ok (.goto 534, 3) := by decide +kernel
theorem dL_law_857 : decode cL_law 857 = .ok (.aload_n 1, 1) := by decide +kernel
theorem dL_law_858 : decode cL_law 858 = .ok (.aload_n 0, 1) := by decide +kernel
theorem dL_law_859 : decode cL_law 859 = .ok (.iload 4, 2) := by decide +kernel
theorem dL_law_861 : decode cL_law 861 = .ok (.iconst 1, 1) := by decide +kernel
theorem dL_law_862 : decode cL_law 862 = .ok (.iadd, 1) := by decide +kernel
theorem dL_law_863 : decode cL_law 863 = .ok (.iaload, 1) := by decide +kernel
theorem dL_law_864 : decode cL_law 864 = .ok (.aload_n 0, 1) := by decide +kernel
theorem dL_law_865 : decode cL_law 865 = .ok (.iload 4, 2) := by decide +kernel
theorem dL_law_867 : decode cL_law 867 = .ok (.iconst 2, 1) := by decide +kernel
theorem dL_law_868 : decode cL_law 868 = .ok (.iadd, 1) := by decide +kernel
theorem dL_law_869 : decode cL_law 869 = .ok (.iaload, 1) := by decide +kernel
theorem dL_law_870 : decode cL_law 870 = .ok (.aload_n 3, 1) := by decide +kernel
theorem dL_law_871 : decode cL_law 871 = .ok (.invokestatic 200, 3) := by decide +kernel
theorem dL_law_874 : decode cL_law 874 = .ok (.istore 5, 2) := by decide +kernel
theorem dL_law_876 : decode cL_law 876 = .ok (.aload_n 2, 1) := by decide +kernel
theorem dL_law_877 : decode cL_law 877 = .ok (.aload_n 0, 1) := by decide +kernel
theorem dL_law_878 : decode cL_law 878 = .ok (.iload 4, 2) := by decide +kernel
theorem dL_law_880 : decode cL_law 880 = .ok (.iconst 1, 1) := by decide +kernel
theorem dL_law_881 : decode cL_law 881 = .ok (.iadd, 1) := by decide +kernel
theorem dL_law_882 : decode cL_law 882 = .ok (.iaload, 1) := by decide +kernel
theorem dL_law_883 : decode cL_law 883 = .ok (.aload_n 0, 1) := by decide +kernel
theorem dL_law_884 : decode cL_law 884 = .ok (.iload 4, 2) := by decide +kernel
theorem dL_law_886 : decode cL_law 886 = .ok (.iconst 2, 1) := by decide +kernel
theorem dL_law_887 : decode cL_law 887 = .ok (.iadd, 1) := by decide +kernel
theorem dL_law_888 : decode cL_law 888 = .ok (.iaload, 1) := by decide +kernel
theorem dL_law_889 : decode cL_law 889 = .ok (.invokevirtual 202, 3) := by decide +kernel
theorem dL_law_892 : decode cL_law 892 = .ok (.istore 6, 2) := by decide +kernel
theorem dL_law_894 : decode cL_law 894 = .ok (.goto 494, 3) := by decide +kernel
theorem dL_law_897 : decode cL_law 897 = .ok (.aload_n 1, 1) := by decide +kernel
theorem dL_law_898 : decode cL_law 898 = .ok (.aload_n 0, 1) := by decide +kernel
theorem dL_law_899 : decode cL_law 899 = .ok (.iload 4, 2) := by decide +kernel
theorem dL_law_901 : decode cL_law 901 = .ok (.iconst 1, 1) := by decide +kernel
theorem dL_law_902 : decode cL_law 902 = .ok (.iadd, 1) := by decide +kernel
theorem dL_law_903 : decode cL_law 903 = .ok (.iaload, 1) := by decide +kernel
theorem dL_law_904 : decode cL_law 904 = .ok (.aload_n 0, 1) := by decide +kernel
theorem dL_law_905 : decode cL_law 905 = .ok (.iload 4, 2) := by decide +kernel
theorem dL_law_907 : decode cL_law 907 = .ok (.iconst 2, 1) := by decide +kernel
theorem dL_law_908 : decode cL_law 908 = .ok (.iadd, 1) := by decide +kernel
theorem dL_law_909 : decode cL_law 909 = .ok (.iaload, 1) := by decide +kernel
theorem dL_law_910 : decode cL_law 910 = .ok (.aload_n 3, 1) := by decide +kernel
theorem dL_law_911 : decode cL_law 911 = .ok (.invokestatic 203, 3) := by decide +kernel
theorem dL_law_914 : decode cL_law 914 = .ok (.istore 5, 2) := by decide +kernel
theorem dL_law_916 : decode cL_law 916 = .ok (.aload_n 2, 1) := by decide +kernel
theorem dL_law_917 : decode cL_law 917 = .ok (.aload_n 0, 1) := by decide +kernel
theorem dL_law_918 : decode cL_law 918 = .ok (.iload 4, 2) := by decide +kernel
theorem dL_law_920 : decode cL_law 920 = .ok (.iconst 1, 1) := by decide +kernel
theorem dL_law_921 : decode cL_law 921 = .ok (.iadd, 1) := by decide +kernel
theorem dL_law_922 : decode cL_law 922 = .ok (.iaload, 1) := by decide +kernel
theorem dL_law_923 : decode cL_law 923 = .ok (.aload_n 0, 1) := by decide +kernel
theorem dL_law_924 : decode cL_law 924 = .ok (.iload 4, 2) := by decide +kernel
theorem dL_law_926 : decode cL_law 926 = .ok (.iconst 2, 1) := by decide +kernel
theorem dL_law_927 : decode cL_law 927 = .ok (.iadd, 1) := by decide +kernel
theorem dL_law_928 : decode cL_law 928 = .ok (.iaload, 1) := by decide +kernel
theorem dL_law_929 : decode cL_law 929 = .ok (.invokevirtual 205, 3) := by decide +kernel
theorem dL_law_932 : decode cL_law 932 = .ok (.istore 6, 2) := by decide +kernel
theorem dL_law_934 : decode cL_law 934 = .ok (.goto 454, 3) := by decide +kernel
theorem dL_law_937 : decode cL_law 937 = .ok (.aload_n 1, 1) := by decide +kernel
theorem dL_law_938 : decode cL_law 938 = .ok (.aload_n 0, 1) := by decide +kernel
theorem dL_law_939 : decode cL_law 939 = .ok (.iload 4, 2) := by decide +kernel
theorem dL_law_941 : decode cL_law 941 = .ok (.iconst 1, 1) := by decide +kernel
theorem dL_law_942 : decode cL_law 942 = .ok (.iadd, 1) := by decide +kernel
theorem dL_law_943 : decode cL_law 943 = .ok (.iaload, 1) := by decide +kernel
theorem dL_law_944 : decode cL_law 944 = .ok (.aload_n 0, 1) := by decide +kernel
theorem dL_law_945 : decode cL_law 945 = .ok (.iload 4, 2) := by decide +kernel
theorem dL_law_947 : decode cL_law 947 = .ok (.iconst 2, 1) := by decide +kernel
theorem dL_law_948 : decode cL_law 948 = .ok (.iadd, 1) := by decide +kernel
theorem dL_law_949 : decode cL_law 949 = .ok (.iaload, 1) := by decide +kernel
theorem dL_law_950 : decode cL_law 950 = .ok (.aload_n 3, 1) := by decide +kernel
theorem dL_law_951 : decode cL_law 951 = .ok (.invokestatic 206, 3) := by decide +kernel
theorem dL_law_954 : decode cL_law 954 = .ok (.istore 5, 2) := by decide +kernel
theorem dL_law_956 : decode cL_law 956 = .ok (.aload_n 2, 1) := by decide +kernel
theorem dL_law_957 : decode cL_law 957 = .ok (.aload_n 0, 1) := by decide +kernel
theorem dL_law_958 : decode cL_law 958 = .ok (.iload 4, 2) := by decide +kernel
theorem dL_law_960 : decode cL_law 960 = .ok (.iconst 1, 1) := by decide +kernel
theorem dL_law_961 : decode cL_law 961 = .ok (.iadd, 1) := by decide +kernel
theorem dL_law_962 : decode cL_law 962 = .ok (.iaload, 1) := by decide +kernel
theorem dL_law_963 : decode cL_law 963 = .ok (.aload_n 0, 1) := by decide +kernel
theorem dL_law_964 : decode cL_law 964 = .ok (.iload 4, 2) := by decide +kernel
theorem dL_law_966 : decode cL_law 966 = .ok (.iconst 2, 1) := by decide +kernel
theorem dL_law_967 : decode cL_law 967 = .ok (.iadd, 1) := by decide +kernel
theorem dL_law_968 : decode cL_law 968 = .ok (.iaload, 1) := by decide +kernel
theorem dL_law_969 : decode cL_law 969 = .ok (.invokevirtual 208, 3) := by decide +kernel
theorem dL_law_972 : decode cL_law 972 = .ok (.istore 6, 2) := by decide +kernel
theorem dL_law_974 : decode cL_law 974 = .ok (.goto 414, 3) := by decide +kernel
theorem dL_law_977 : decode cL_law 977 = .ok (.aload_n 1, 1) := by decide +kernel
theorem dL_law_978 : decode cL_law 978 = .ok (.aload_n 0, 1) := by decide +kernel
theorem dL_law_979 : decode cL_law 979 = .ok (.iload 4, 2) := by decide +kernel
theorem dL_law_981 : decode cL_law 981 = .ok (.iconst 1, 1) := by decide +kernel
theorem dL_law_982 : decode cL_law 982 = .ok (.iadd, 1) := by decide +kernel
theorem dL_law_983 : decode cL_law 983 = .ok (.iaload, 1) := by decide +kernel
theorem dL_law_984 : decode cL_law 984 = .ok (.aload_n 3, 1) := by decide +kernel
theorem dL_law_985 : decode cL_law 985 = .ok (.invokestatic 209, 3) := by decide +kernel
theorem dL_law_988 : decode cL_law 988 = .ok (.istore 5, 2) := by decide +kernel
theorem dL_law_990 : decode cL_law 990 = .ok (.aload_n 2, 1) := by decide +kernel
theorem dL_law_991 : decode cL_law 991 = .ok (.aload_n 0, 1) := by decide +kernel
theorem dL_law_992 : decode cL_law 992 = .ok (.iload 4, 2) := by decide +kernel
theorem dL_law_994 : decode cL_law 994 = .ok (.iconst 1, 1) := by decide +kernel
theorem dL_law_995 : decode cL_law 995 = .ok (.iadd, 1) := by decide +kernel
theorem dL_law_996 : decode cL_law 996 = .ok (.iaload, 1) := by decide +kernel
theorem dL_law_997 : decode cL_law 997 = .ok (.invokevirtual 211, 3) := by decide +kernel
theorem dL_law_1000 : decode cL_law 1000 = .ok (.istore 6, 2) := by decide +kernel
theorem dL_law_1002 : decode cL_law 1002 = .ok (.goto 386, 3) := by decide +kernel
theorem dL_law_1005 : decode cL_law 1005 = .ok (.aload_n 1, 1) := by decide +kernel
theorem dL_law_1006 : decode cL_law 1006 = .ok (.aload_n 0, 1) := by decide +kernel
theorem dL_law_1007 : decode cL_law 1007 = .ok (.iload 4, 2) := by decide +kernel
theorem dL_law_1009 : decode cL_law 1009 = .ok (.iconst 1, 1) := by decide +kernel
theorem dL_law_1010 : decode cL_law 1010 = .ok (.iadd, 1) := by decide +kernel
theorem dL_law_1011 : decode cL_law 1011 = .ok (.iaload, 1) := by decide +kernel
theorem dL_law_1012 : decode cL_law 1012 = .ok (.aload_n 0, 1) := by decide +kernel
theorem dL_law_1013 : decode cL_law 1013 = .ok (.iload 4, 2) := by decide +kernel
theorem dL_law_1015 : decode cL_law 1015 = .ok (.iconst 2, 1) := by decide +kernel
theorem dL_law_1016 : decode cL_law 1016 = .ok (.iadd, 1) := by decide +kernel
theorem dL_law_1017 : decode cL_law 1017 = .ok (.iaload, 1) := by decide +kernel
theorem dL_law_1018 : decode cL_law 1018 = .ok (.aload_n 0, 1) := by decide +kernel
theorem dL_law_1019 : decode cL_law 1019 = .ok (.iload 4, 2) := by decide +kernel
theorem dL_law_1021 : decode cL_law 1021 = .ok (.iconst 3, 1) := by decide +kernel
theorem dL_law_1022 : decode cL_law 1022 = .ok (.iadd, 1) := by decide +kernel
theorem dL_law_1023 : decode cL_law 1023 = .ok (.iaload, 1) := by decide +kernel
theorem dL_law_1024 : decode cL_law 1024 = .ok (.aload_n 3, 1) := by decide +kernel
theorem dL_law_1025 : decode cL_law 1025 = .ok (.invokestatic 212, 3) := by decide +kernel
theorem dL_law_1028 : decode cL_law 1028 = .ok (.istore 5, 2) := by decide +kernel
theorem dL_law_1030 : decode cL_law 1030 = .ok (.aload_n 2, 1) := by decide +kernel
theorem dL_law_1031 : decode cL_law 1031 = .ok (.aload_n 0, 1) := by decide +kernel
theorem dL_law_1032 : decode cL_law 1032 = .ok (.iload 4, 2) := by decide +kernel
theorem dL_law_1034 : decode cL_law 1034 = .ok (.iconst 1, 1) := by decide +kernel
theorem dL_law_1035 : decode cL_law 1035 = .ok (.iadd, 1) := by decide +kernel
theorem dL_law_1036 : decode cL_law 1036 = .ok (.iaload, 1) := by decide +kernel
theorem dL_law_1037 : decode cL_law 1037 = .ok (.aload_n 0, 1) := by decide +kernel
theorem dL_law_1038 : decode cL_law 1038 = .ok (.iload 4, 2) := by decide +kernel
theorem dL_law_1040 : decode cL_law 1040 = .ok (.iconst 2, 1) := by decide +kernel
theorem dL_law_1041 : decode cL_law 1041 = .ok (.iadd, 1) := by decide +kernel
theorem dL_law_1042 : decode cL_law 1042 = .ok (.iaload, 1) := by decide +kernel
theorem dL_law_1043 : decode cL_law 1043 = .ok (.aload_n 0, 1) := by decide +kernel
theorem dL_law_1044 : decode cL_law 1044 = .ok (.iload 4, 2) := by decide +kernel
theorem dL_law_1046 : decode cL_law 1046 = .ok (.iconst 3, 1) := by decide +kernel
theorem dL_law_1047 : decode cL_law 1047 = .ok (.iadd, 1) := by decide +kernel
theorem dL_law_1048 : decode cL_law 1048 = .ok (.iaload, 1) := by decide +kernel
theorem dL_law_1049 : decode cL_law 1049 = .ok (.invokevirtual 215, 3) := by decide +kernel
theorem dL_law_1052 : decode cL_law 1052 = .ok (.istore 6, 2) := by decide +kernel
theorem dL_law_1054 : decode cL_law 1054 = .ok (.goto 334, 3) := by decide +kernel
theorem dL_law_1057 : decode cL_law 1057 = .ok (.aload_n 1, 1) := by decide +kernel
theorem dL_law_1058 : decode cL_law 1058 = .ok (.aload_n 0, 1) := by decide +kernel
theorem dL_law_1059 : decode cL_law 1059 = .ok (.iload 4, 2) := by decide +kernel
theorem dL_law_1061 : decode cL_law 1061 = .ok (.iconst 1, 1) := by decide +kernel
theorem dL_law_1062 : decode cL_law 1062 = .ok (.iadd, 1) := by decide +kernel
theorem dL_law_1063 : decode cL_law 1063 = .ok (.iaload, 1) := by decide +kernel
theorem dL_law_1064 : decode cL_law 1064 = .ok (.aload_n 0, 1) := by decide +kernel
theorem dL_law_1065 : decode cL_law 1065 = .ok (.iload 4, 2) := by decide +kernel
theorem dL_law_1067 : decode cL_law 1067 = .ok (.iconst 2, 1) := by decide +kernel
theorem dL_law_1068 : decode cL_law 1068 = .ok (.iadd, 1) := by decide +kernel
theorem dL_law_1069 : decode cL_law 1069 = .ok (.iaload, 1) := by decide +kernel
theorem dL_law_1070 : decode cL_law 1070 = .ok (.aload_n 3, 1) := by decide +kernel
theorem dL_law_1071 : decode cL_law 1071 = .ok (.invokestatic 216, 3) := by decide +kernel
theorem dL_law_1074 : decode cL_law 1074 = .ok (.istore 5, 2) := by decide +kernel
theorem dL_law_1076 : decode cL_law 1076 = .ok (.aload_n 2, 1) := by decide +kernel
theorem dL_law_1077 : decode cL_law 1077 = .ok (.aload_n 0, 1) := by decide +kernel
theorem dL_law_1078 : decode cL_law 1078 = .ok (.iload 4, 2) := by decide +kernel
theorem dL_law_1080 : decode cL_law 1080 = .ok (.iconst 1, 1) := by decide +kernel
theorem dL_law_1081 : decode cL_law 1081 = .ok (.iadd, 1) := by decide +kernel
theorem dL_law_1082 : decode cL_law 1082 = .ok (.iaload, 1) := by decide +kernel
theorem dL_law_1083 : decode cL_law 1083 = .ok (.aload_n 0, 1) := by decide +kernel
theorem dL_law_1084 : decode cL_law 1084 = .ok (.iload 4, 2) := by decide +kernel
theorem dL_law_1086 : decode cL_law 1086 = .ok (.iconst 2, 1) := by decide +kernel
theorem dL_law_1087 : decode cL_law 1087 = .ok (.iadd, 1) := by decide +kernel
theorem dL_law_1088 : decode cL_law 1088 = .ok (.iaload, 1) := by decide +kernel
theorem dL_law_1089 : decode cL_law 1089 = .ok (.invokevirtual 218, 3) := by decide +kernel
theorem dL_law_1092 : decode cL_law 1092 = .ok (.istore 6, 2) := by decide +kernel
theorem dL_law_1094 : decode cL_law 1094 = .ok (.goto 294, 3) := by decide +kernel
theorem dL_law_1097 : decode cL_law 1097 = .ok (.aload_n 1, 1) := by decide +kernel
theorem dL_law_1098 : decode cL_law 1098 = .ok (.aload_n 0, 1) := by decide +kernel
theorem dL_law_1099 : decode cL_law 1099 = .ok (.iload 4, 2) := by decide +kernel
theorem dL_law_1101 : decode cL_law 1101 = .ok (.iconst 1, 1) := by decide +kernel
theorem dL_law_1102 : decode cL_law 1102 = .ok (.iadd, 1) := by decide +kernel
theorem dL_law_1103 : decode cL_law 1103 = .ok (.iaload, 1) := by decide +kernel
theorem dL_law_1104 : decode cL_law 1104 = .ok (.aload_n 0, 1) := by decide +kernel
theorem dL_law_1105 : decode cL_law 1105 = .ok (.iload 4, 2) := by decide +kernel
theorem dL_law_1107 : decode cL_law 1107 = .ok (.iconst 2, 1) := by decide +kernel
theorem dL_law_1108 : decode cL_law 1108 = .ok (.iadd, 1) := by decide +kernel
theorem dL_law_1109 : decode cL_law 1109 = .ok (.iaload, 1) := by decide +kernel
theorem dL_law_1110 : decode cL_law 1110 = .ok (.aload_n 3, 1) := by decide +kernel
theorem dL_law_1111 : decode cL_law 1111 = .ok (.invokestatic 219, 3) := by decide +kernel
theorem dL_law_1114 : decode cL_law 1114 = .ok (.istore 5, 2) := by decide +kernel
theorem dL_law_1116 : decode cL_law 1116 = .ok (.aload_n 2, 1) := by decide +kernel
theorem dL_law_1117 : decode cL_law 1117 = .ok (.aload_n 0, 1) := by decide +kernel
theorem dL_law_1118 : decode cL_law 1118 = .ok (.iload 4, 2) := by decide +kernel
theorem dL_law_1120 : decode cL_law 1120 = .ok (.iconst 1, 1) := by decide +kernel
theorem dL_law_1121 : decode cL_law 1121 = .ok (.iadd, 1) := by decide +kernel
theorem dL_law_1122 : decode cL_law 1122 = .ok (.iaload, 1) := by decide +kernel
theorem dL_law_1123 : decode cL_law 1123 = .ok (.aload_n 0, 1) := by decide +kernel
theorem dL_law_1124 : decode cL_law 1124 = .ok (.iload 4, 2) := by decide +kernel
theorem dL_law_1126 : decode cL_law 1126 = .ok (.iconst 2, 1) := by decide +kernel
theorem dL_law_1127 : decode cL_law 1127 = .ok (.iadd, 1) := by decide +kernel
theorem dL_law_1128 : decode cL_law 1128 = .ok (.iaload, 1) := by decide +kernel
theorem dL_law_1129 : decode cL_law 1129 = .ok (.invokevirtual 221, 3) := by decide +kernel
theorem dL_law_1132 : decode cL_law 1132 = .ok (.astore 6, 2) := by decide +kernel
theorem dL_law_1134 : decode cL_law 1134 = .ok (.goto 254, 3) := by decide +kernel
theorem dL_law_1137 : decode cL_law 1137 = .ok (.aload_n 1, 1) := by decide +kernel
theorem dL_law_1138 : decode cL_law 1138 = .ok (.aload_n 0, 1) := by decide +kernel
theorem dL_law_1139 : decode cL_law 1139 = .ok (.iload 4, 2) := by decide +kernel
theorem dL_law_1141 : decode cL_law 1141 = .ok (.iconst 1, 1) := by decide +kernel
theorem dL_law_1142 : decode cL_law 1142 = .ok (.iadd, 1) := by decide +kernel
theorem dL_law_1143 : decode cL_law 1143 = .ok (.iaload, 1) := by decide +kernel
theorem dL_law_1144 : decode cL_law 1144 = .ok (.aload_n 3, 1) := by decide +kernel
theorem dL_law_1145 : decode cL_law 1145 = .ok (.invokestatic 222, 3) := by decide +kernel
theorem dL_law_1148 : decode cL_law 1148 = .ok (.istore 5, 2) := by decide +kernel
theorem dL_law_1150 : decode cL_law 1150 = .ok (.aload_n 2, 1) := by decide +kernel
theorem dL_law_1151 : decode cL_law 1151 = .ok (.aload_n 0, 1) := by decide +kernel
theorem dL_law_1152 : decode cL_law 1152 = .ok (.iload 4, 2) := by decide +kernel
theorem dL_law_1154 : decode cL_law 1154 = .ok (.iconst 1, 1) := by decide +kernel
theorem dL_law_1155 : decode cL_law 1155 = .ok (.iadd, 1) := by decide +kernel
theorem dL_law_1156 : decode cL_law 1156 = .ok (.iaload, 1) := by decide +kernel
theorem dL_law_1157 : decode cL_law 1157 = .ok (.invokevirtual 224, 3) := by decide +kernel
theorem dL_law_1160 : decode cL_law 1160 = .ok (.istore 6, 2) := by decide +kernel
theorem dL_law_1162 : decode cL_law 1162 = .ok (.goto 226, 3) := by decide +kernel
theorem dL_law_1165 : decode cL_law 1165 = .ok (.aload_n 1, 1) := by decide +kernel
theorem dL_law_1166 : decode cL_law 1166 = .ok (.aload_n 0, 1) := by decide +kernel
theorem dL_law_1167 : decode cL_law 1167 = .ok (.iload 4, 2) := by decide +kernel
theorem dL_law_1169 : decode cL_law 1169 = .ok (.iconst 1, 1) := by decide +kernel
theorem dL_law_1170 : decode cL_law 1170 = .ok (.iadd, 1) := by decide +kernel
theorem dL_law_1171 : decode cL_law 1171 = .ok (.iaload, 1) := by decide +kernel
theorem dL_law_1172 : decode cL_law 1172 = .ok (.aload_n 0, 1) := by decide +kernel
theorem dL_law_1173 : decode cL_law 1173 = .ok (.iload 4, 2) := by decide +kernel
theorem dL_law_1175 : decode cL_law 1175 = .ok (.iconst 2, 1) := by decide +kernel
theorem dL_law_1176 : decode cL_law 1176 = .ok (.iadd, 1) := by decide +kernel
theorem dL_law_1177 : decode cL_law 1177 = .ok (.iaload, 1) := by decide +kernel
theorem dL_law_1178 : decode cL_law 1178 = .ok (.aload_n 3, 1) := by decide +kernel
theorem dL_law_1179 : decode cL_law 1179 = .ok (.invokestatic 225, 3) := by decide +kernel
theorem dL_law_1182 : decode cL_law 1182 = .ok (.istore 5, 2) := by decide +kernel
theorem dL_law_1184 : decode cL_law 1184 = .ok (.aload_n 2, 1) := by decide +kernel
theorem dL_law_1185 : decode cL_law 1185 = .ok (.aload_n 0, 1) := by decide +kernel
theorem dL_law_1186 : decode cL_law 1186 = .ok (.iload 4, 2) := by decide +kernel
theorem dL_law_1188 : decode cL_law 1188 = .ok (.iconst 1, 1) := by decide +kernel
theorem dL_law_1189 : decode cL_law 1189 = .ok (.iadd, 1) := by decide +kernel
theorem dL_law_1190 : decode cL_law 1190 = .ok (.iaload, 1) := by decide +kernel
theorem dL_law_1191 : decode cL_law 1191 = .ok (.aload_n 0, 1) := by decide +kernel
theorem dL_law_1192 : decode cL_law 1192 = .ok (.iload 4, 2) := by decide +kernel
theorem dL_law_1194 : decode cL_law 1194 = .ok (.iconst 2, 1) := by decide +kernel
theorem dL_law_1195 : decode cL_law 1195 = .ok (.iadd, 1) := by decide +kernel
theorem dL_law_1196 : decode cL_law 1196 = .ok (.iaload, 1) := by decide +kernel
theorem dL_law_1197 : decode cL_law 1197 = .ok (.invokevirtual 227, 3) := by decide +kernel
theorem dL_law_1200 : decode cL_law 1200 = .ok (.istore 6, 2) := by decide +kernel
theorem dL_law_1202 : decode cL_law 1202 = .ok (.goto 186, 3) := by decide +kernel
theorem dL_law_1205 : decode cL_law 1205 = .ok (.aload_n 1, 1) := by decide +kernel
theorem dL_law_1206 : decode cL_law 1206 = .ok (.aload_n 0, 1) := by decide +kernel
theorem dL_law_1207 : decode cL_law 1207 = .ok (.iload 4, 2) := by decide +kernel
theorem dL_law_1209 : decode cL_law 1209 = .ok (.iconst 1, 1) := by decide +kernel
theorem dL_law_1210 : decode cL_law 1210 = .ok (.iadd, 1) := by decide +kernel
theorem dL_law_1211 : decode cL_law 1211 = .ok (.iaload, 1) := by decide +kernel
theorem dL_law_1212 : decode cL_law 1212 = .ok (.aload_n 0, 1) := by decide +kernel
theorem dL_law_1213 : decode cL_law 1213 = .ok (.iload 4, 2) := by decide +kernel
theorem dL_law_1215 : decode cL_law 1215 = .ok (.iconst 2, 1) := by decide +kernel
theorem dL_law_1216 : decode cL_law 1216 = .ok (.iadd, 1) := by decide +kernel
theorem dL_law_1217 : decode cL_law 1217 = .ok (.iaload, 1) := by decide +kernel
theorem dL_law_1218 : decode cL_law 1218 = .ok (.aload_n 0, 1) := by decide +kernel
theorem dL_law_1219 : decode cL_law 1219 = .ok (.iload 4, 2) := by decide +kernel
theorem dL_law_1221 : decode cL_law 1221 = .ok (.iconst 3, 1) := by decide +kernel
theorem dL_law_1222 : decode cL_law 1222 = .ok (.iadd, 1) := by decide +kernel
theorem dL_law_1223 : decode cL_law 1223 = .ok (.iaload, 1) := by decide +kernel
theorem dL_law_1224 : decode cL_law 1224 = .ok (.aload_n 3, 1) := by decide +kernel
theorem dL_law_1225 : decode cL_law 1225 = .ok (.invokestatic 228, 3) := by decide +kernel
theorem dL_law_1228 : decode cL_law 1228 = .ok (.istore 5, 2) := by decide +kernel
theorem dL_law_1230 : decode cL_law 1230 = .ok (.aload_n 2, 1) := by decide +kernel
theorem dL_law_1231 : decode cL_law 1231 = .ok (.aload_n 0, 1) := by decide +kernel
theorem dL_law_1232 : decode cL_law 1232 = .ok (.iload 4, 2) := by decide +kernel
theorem dL_law_1234 : decode cL_law 1234 = .ok (.iconst 1, 1) := by decide +kernel
theorem dL_law_1235 : decode cL_law 1235 = .ok (.iadd, 1) := by decide +kernel
theorem dL_law_1236 : decode cL_law 1236 = .ok (.iaload, 1) := by decide +kernel
theorem dL_law_1237 : decode cL_law 1237 = .ok (.aload_n 0, 1) := by decide +kernel
theorem dL_law_1238 : decode cL_law 1238 = .ok (.iload 4, 2) := by decide +kernel
theorem dL_law_1240 : decode cL_law 1240 = .ok (.iconst 2, 1) := by decide +kernel
theorem dL_law_1241 : decode cL_law 1241 = .ok (.iadd, 1) := by decide +kernel
theorem dL_law_1242 : decode cL_law 1242 = .ok (.iaload, 1) := by decide +kernel
theorem dL_law_1243 : decode cL_law 1243 = .ok (.aload_n 0, 1) := by decide +kernel
theorem dL_law_1244 : decode cL_law 1244 = .ok (.iload 4, 2) := by decide +kernel
theorem dL_law_1246 : decode cL_law 1246 = .ok (.iconst 3, 1) := by decide +kernel
theorem dL_law_1247 : decode cL_law 1247 = .ok (.iadd, 1) := by decide +kernel
theorem dL_law_1248 : decode cL_law 1248 = .ok (.iaload, 1) := by decide +kernel
theorem dL_law_1249 : decode cL_law 1249 = .ok (.invokevirtual 230, 3) := by decide +kernel
theorem dL_law_1252 : decode cL_law 1252 = .ok (.istore 6, 2) := by decide +kernel
theorem dL_law_1254 : decode cL_law 1254 = .ok (.goto 134, 3) := by decide +kernel
theorem dL_law_1257 : decode cL_law 1257 = .ok (.aload_n 1, 1) := by decide +kernel
theorem dL_law_1258 : decode cL_law 1258 = .ok (.aload_n 0, 1) := by decide +kernel
theorem dL_law_1259 : decode cL_law 1259 = .ok (.iload 4, 2) := by decide +kernel
theorem dL_law_1261 : decode cL_law 1261 = .ok (.iconst 1, 1) := by decide +kernel
theorem dL_law_1262 : decode cL_law 1262 = .ok (.iadd, 1) := by decide +kernel
theorem dL_law_1263 : decode cL_law 1263 = .ok (.iaload, 1) := by decide +kernel
theorem dL_law_1264 : decode cL_law 1264 = .ok (.aload_n 0, 1) := by decide +kernel
theorem dL_law_1265 : decode cL_law 1265 = .ok (.iload 4, 2) := by decide +kernel
theorem dL_law_1267 : decode cL_law 1267 = .ok (.iconst 2, 1) := by decide +kernel
theorem dL_law_1268 : decode cL_law 1268 = .ok (.iadd, 1) := by decide +kernel
theorem dL_law_1269 : decode cL_law 1269 = .ok (.iaload, 1) := by decide +kernel
theorem dL_law_1270 : decode cL_law 1270 = .ok (.aload_n 0, 1) := by decide +kernel
theorem dL_law_1271 : decode cL_law 1271 = .ok (.iload 4, 2) := by decide +kernel
theorem dL_law_1273 : decode cL_law 1273 = .ok (.iconst 3, 1) := by decide +kernel
theorem dL_law_1274 : decode cL_law 1274 = .ok (.iadd, 1) := by decide +kernel
theorem dL_law_1275 : decode cL_law 1275 = .ok (.iaload, 1) := by decide +kernel
theorem dL_law_1276 : decode cL_law 1276 = .ok (.aload_n 0, 1) := by decide +kernel
theorem dL_law_1277 : decode cL_law 1277 = .ok (.iload 4, 2) := by decide +kernel
theorem dL_law_1279 : decode cL_law 1279 = .ok (.iconst 4, 1) := by decide +kernel
theorem dL_law_1280 : decode cL_law 1280 = .ok (.iadd, 1) := by decide +kernel
theorem dL_law_1281 : decode cL_law 1281 = .ok (.iaload, 1) := by decide +kernel
theorem dL_law_1282 : decode cL_law 1282 = .ok (.aload_n 3, 1) := by decide +kernel
theorem dL_law_1283 : decode cL_law 1283 = .ok (.invokestatic 231, 3) := by decide +kernel
theorem dL_law_1286 : decode cL_law 1286 = .ok (.istore 5, 2) := by decide +kernel
theorem dL_law_1288 : decode cL_law 1288 = .ok (.aload_n 2, 1) := by decide +kernel
theorem dL_law_1289 : decode cL_law 1289 = .ok (.aload_n 0, 1) := by decide +kernel
theorem dL_law_1290 : decode cL_law 1290 = .ok (.iload 4, 2) := by decide +kernel
theorem dL_law_1292 : decode cL_law 1292 = .ok (.iconst 1, 1) := by decide +kernel
theorem dL_law_1293 : decode cL_law 1293 = .ok (.iadd, 1) := by decide +kernel
theorem dL_law_1294 : decode cL_law 1294 = .ok (.iaload, 1) := by decide +kernel
theorem dL_law_1295 : decode cL_law 1295 = .ok (.aload_n 0, 1) := by decide +kernel
theorem dL_law_1296 : decode cL_law 1296 = .ok (.iload 4, 2) := by decide +kernel
theorem dL_law_1298 : decode cL_law 1298 = .ok (.iconst 2, 1) := by decide +kernel
theorem dL_law_1299 : decode cL_law 1299 = .ok (.iadd, 1) := by decide +kernel
theorem dL_law_1300 : decode cL_law 1300 = .ok (.iaload, 1) := by decide +kernel
theorem dL_law_1301 : decode cL_law 1301 = .ok (.aload_n 0, 1) := by decide +kernel
theorem dL_law_1302 : decode cL_law 1302 = .ok (.iload 4, 2) := by decide +kernel
theorem dL_law_1304 : decode cL_law 1304 = .ok (.iconst 3, 1) := by decide +kernel
theorem dL_law_1305 : decode cL_law 1305 = .ok (.iadd, 1) := by decide +kernel
theorem dL_law_1306 : decode cL_law 1306 = .ok (.iaload, 1) := by decide +kernel
theorem dL_law_1307 : decode cL_law 1307 = .ok (.aload_n 0, 1) := by decide +kernel
theorem dL_law_1308 : decode cL_law 1308 = .ok (.iload 4, 2) := by decide +kernel
theorem dL_law_1310 : decode cL_law 1310 = .ok (.iconst 4, 1) := by decide +kernel
theorem dL_law_1311 : decode cL_law 1311 = .ok (.iadd, 1) := by decide +kernel
theorem dL_law_1312 : decode cL_law 1312 = .ok (.iaload, 1) := by decide +kernel
theorem dL_law_1313 : decode cL_law 1313 = .ok (.invokevirtual 234, 3) := by decide +kernel
theorem dL_law_1316 : decode cL_law 1316 = .ok (.istore 6, 2) := by decide +kernel
theorem dL_law_1318 : decode cL_law 1318 = .ok (.goto 70, 3) := by decide +kernel
theorem dL_law_1321 : decode cL_law 1321 = .ok (.aload_n 1, 1) := by decide +kernel
theorem dL_law_1322 : decode cL_law 1322 = .ok (.aload_n 0, 1) := by decide +kernel
theorem dL_law_1323 : decode cL_law 1323 = .ok (.iload 4, 2) := by decide +kernel
theorem dL_law_1325 : decode cL_law 1325 = .ok (.iconst 1, 1) := by decide +kernel
theorem dL_law_1326 : decode cL_law 1326 = .ok (.iadd, 1) := by decide +kernel
theorem dL_law_1327 : decode cL_law 1327 = .ok (.iaload, 1) := by decide +kernel
theorem dL_law_1328 : decode cL_law 1328 = .ok (.aload_n 3, 1) := by decide +kernel
theorem dL_law_1329 : decode cL_law 1329 = .ok (.invokestatic 235, 3) := by decide +kernel
theorem dL_law_1332 : decode cL_law 1332 = .ok (.istore 5, 2) := by decide +kernel
theorem dL_law_1334 : decode cL_law 1334 = .ok (.aload_n 2, 1) := by decide +kernel
theorem dL_law_1335 : decode cL_law 1335 = .ok (.aload_n 0, 1) := by decide +kernel
theorem dL_law_1336 : decode cL_law 1336 = .ok (.iload 4, 2) := by decide +kernel
theorem dL_law_1338 : decode cL_law 1338 = .ok (.iconst 1, 1) := by decide +kernel
theorem dL_law_1339 : decode cL_law 1339 = .ok (.iadd, 1) := by decide +kernel
theorem dL_law_1340 : decode cL_law 1340 = .ok (.iaload, 1) := by decide +kernel
theorem dL_law_1341 : decode cL_law 1341 = .ok (.invokevirtual 237, 3) := by decide +kernel
theorem dL_law_1344 : decode cL_law 1344 = .ok (.istore 6, 2) := by decide +kernel
theorem dL_law_1346 : decode cL_law 1346 = .ok (.goto 42, 3) := by decide +kernel
theorem dL_law_1349 : decode cL_law 1349 = .ok (.aload_n 1, 1) := by decide +kernel
theorem dL_law_1350 : decode cL_law 1350 = .ok (.invokevirtual 238, 3) := by decide +kernel
theorem dL_law_1353 : decode cL_law 1353 = .ok (.aload_n 2, 1) := by decide +kernel
theorem dL_law_1354 : decode cL_law 1354 = .ok (.invokevirtual 241, 3) := by decide +kernel
theorem dL_law_1357 : decode cL_law 1357 = .ok (.if_icmp .eq 31, 3) := by decide +kernel
theorem dL_law_1360 : decode cL_law 1360 = .ok (.iconst 0, 1) := by decide +kernel
theorem dL_law_1361 : decode cL_law 1361 = .ok (.ireturn, 1) := by decide +kernel
theorem dL_law_1362 : decode cL_law 1362 = .ok (.aload_n 1, 1) := by decide +kernel
theorem dL_law_1363 : decode cL_law 1363 = .ok (.invokevirtual 242, 3) := by decide +kernel
theorem dL_law_1366 : decode cL_law 1366 = .ok (.pop, 1) := by decide +kernel
theorem dL_law_1367 : decode cL_law 1367 = .ok (.aload_n 2, 1) := by decide +kernel
theorem dL_law_1368 : decode cL_law 1368 = .ok (.invokevirtual 246, 3) := by decide +kernel
theorem dL_law_1371 : decode cL_law 1371 = .ok (.pop, 1) := by decide +kernel
theorem dL_law_1372 : decode cL_law 1372 = .ok (.goto 16, 3) := by decide +kernel
theorem dL_law_1375 : decode cL_law 1375 = .ok (.aload_n 1, 1) := by decide +kernel
theorem dL_law_1376 : decode cL_law 1376 = .ok (.invokevirtual 247, 3) := by decide +kernel
theorem dL_law_1379 : decode cL_law 1379 = .ok (.pop2, 1) := by decide +kernel
theorem dL_law_1380 : decode cL_law 1380 = .ok (.aload_n 2, 1) := by decide +kernel
theorem dL_law_1381 : decode cL_law 1381 = .ok (.invokevirtual 251, 3) := by decide +kernel
theorem dL_law_1384 : decode cL_law 1384 = .ok (.pop2, 1) := by decide +kernel
theorem dL_law_1385 : decode cL_law 1385 = .ok (.goto 3, 3) := by decide +kernel
theorem dL_law_1388 : decode cL_law 1388 = .ok (.iinc 4 5, 3) := by decide +kernel
theorem dL_law_1391 : decode cL_law 1391 = .ok (.goto (-1364), 3) := by decide +kernel
theorem dL_law_1394 : decode cL_law 1394 = .ok (.iconst 1, 1) := by decide +kernel
theorem dL_law_1395 : decode cL_law 1395 = .ok (.ireturn, 1) := by decide +kernel
abbrev vwCl : List vw_C := [(RJ0, TJ0, 4), (RJ4, TJ4, 4), (RX0, TX0, 6), (RX1, TX1, 7), (RX2, TX2, 2), (RX3, TX3, 11)]
