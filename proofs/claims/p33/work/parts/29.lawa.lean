set_option maxRecDepth 20000 in
theorem ggL_places_X1_places : GoodIn wsL_places wsX1_places := goodIn_ca (goodIn_rc _ [(0, 6), (0, 7), (0, 8), (0, 9), (0, 10), (0, 11), (0, 12), (0, 5), (0, 13), (0, 14), (0, 15), (0, 16), (0, 17), (0, 18), (0, 19), (0, 20), (0, 21), (0, 22), (0, 23), (0, 24), (0, 25), (0, 26), (0, 29), (0, 30), (0, 31), (1, 0), (1, 1), (1, 2), (1, 3), (1, 4), (1, 5), (1, 6), (1, 7), (1, 8), (1, 9)] (by rfl) (by decide +kernel)) (goodIn_sub (fun _ h => List.mem_cons_of_mem _ (List.mem_append_right _ h)) (by decide +kernel))
set_option maxRecDepth 20000 in
theorem gL_places_X1_places : GoodIn wsL_places (wsV RL 7 RX1 yX1_places wsX1_places) := goodIn_app (goodIn_of _ (by decide +kernel)) ggL_places_X1_places
theorem dL_places_0 : decode cL_places 0 = .ok (.aload_n 2, 1) := by decide +kernel
theorem dL_places_1 : decode cL_places 1 = .ok (.aload_n 0, 1) := by decide +kernel
theorem dL_places_2 : decode cL_places 2 = .ok (.iload_n 1, 1) := by decide +kernel
theorem dL_places_3 : decode cL_places 3 = .ok (.invokevirtual 7, 3) := by decide +kernel
theorem dL_places_6 : decode cL_places 6 = .ok (.i2l, 1) := by decide +kernel
theorem dL_places_7 : decode cL_places 7 = .ok (.putfield 13, 3) := by decide +kernel
theorem dL_places_10 : decode cL_places 10 = .ok (.goto 6, 3) := by decide +kernel
theorem dL_places_13 : decode cL_places 13 = .ok (.astore_n 3, 1) := by decide +kernel
theorem dL_places_14 : decode cL_places 14 = .ok (.iconst 1, 1) := by decide +kernel
theorem dL_places_15 : decode cL_places 15 = .ok (.ireturn, 1) := by decide +kernel
theorem dL_places_16 : decode cL_places 16 = .ok (.iconst 0, 1) := by decide +kernel
theorem dL_places_17 : decode cL_places 17 = .ok (.ireturn, 1) := by decide +kernel
set_option maxRecDepth 20000 in
theorem ggL_give_X1_give : GoodIn wsL_give wsX1_give := goodIn_ca (goodIn_ca (goodIn_rc _ [(0, 7), (0, 8), (0, 9), (0, 10), (0, 11), (0, 12), (0, 6), (0, 13), (0, 14), (0, 15), (0, 16), (0, 17), (0, 18), (0, 19), (0, 20), (0, 21), (0, 22), (0, 23), (0, 24), (0, 25), (0, 26), (0, 27), (0, 28), (0, 29), (0, 30), (0, 31), (1, 0), (1, 1), (1, 4), (1, 5), (1, 6), (1, 7), (1, 8), (1, 9), (1, 10), (1, 11), (1, 12), (1, 13), (1, 14), (1, 15), (1, 16)] (by rfl) (by decide +kernel)) (goodIn_sub (fun _ h => List.mem_cons_of_mem _ (List.mem_append_left _ (List.mem_append_right _ h))) (by decide +kernel))) (goodIn_sub (fun _ h => List.mem_cons_of_mem _ (List.mem_append_right _ h)) (by decide +kernel))
set_option maxRecDepth 20000 in
theorem gL_give_X1_give : GoodIn wsL_give (wsV RL 21 RX1 yX1_give wsX1_give) := goodIn_app (goodIn_of _ (by decide +kernel)) ggL_give_X1_give
theorem dL_give_0 : decode cL_give 0 = .ok (.aload_n 3, 1) := by decide +kernel
theorem dL_give_1 : decode cL_give 1 = .ok (.aload_n 0, 1) := by decide +kernel
theorem dL_give_2 : decode cL_give 2 = .ok (.iload_n 1, 1) := by decide +kernel
theorem dL_give_3 : decode cL_give 3 = .ok (.iload_n 2, 1) := by decide +kernel
theorem dL_give_4 : decode cL_give 4 = .ok (.invokevirtual 21, 3) := by decide +kernel
theorem dL_give_7 : decode cL_give 7 = .ok (.i2l, 1) := by decide +kernel
theorem dL_give_8 : decode cL_give 8 = .ok (.putfield 13, 3) := by decide +kernel
theorem dL_give_11 : decode cL_give 11 = .ok (.goto 11, 3) := by decide +kernel
theorem dL_give_14 : decode cL_give 14 = .ok (.astore 4, 2) := by decide +kernel
theorem dL_give_16 : decode cL_give 16 = .ok (.iconst 1, 1) := by decide +kernel
theorem dL_give_17 : decode cL_give 17 = .ok (.ireturn, 1) := by decide +kernel
theorem dL_give_18 : decode cL_give 18 = .ok (.astore 4, 2) := by decide +kernel
theorem dL_give_20 : decode cL_give 20 = .ok (.iconst 2, 1) := by decide +kernel
theorem dL_give_21 : decode cL_give 21 = .ok (.ireturn, 1) := by decide +kernel
theorem dL_give_22 : decode cL_give 22 = .ok (.iconst 0, 1) := by decide +kernel
theorem dL_give_23 : decode cL_give 23 = .ok (.ireturn, 1) := by decide +kernel
set_option maxRecDepth 20000 in
theorem ggL_rank_X1_rank : GoodIn wsL_rank wsX1_rank := goodIn_ca (goodIn_ca (goodIn_rc _ [(0, 7), (0, 8), (0, 9), (0, 10), (0, 11), (0, 12), (0, 6), (0, 13), (0, 14), (0, 15), (0, 16), (0, 17), (0, 18), (0, 19), (0, 20), (0, 21), (0, 22), (0, 23), (0, 24), (0, 25), (0, 26), (0, 27), (0, 28), (0, 29), (0, 30), (0, 31), (1, 0), (1, 1), (1, 4), (1, 5), (1, 6), (1, 7), (1, 8), (1, 9), (1, 10), (1, 11), (1, 12), (1, 13), (1, 14), (1, 15), (1, 16)] (by rfl) (by decide +kernel)) (goodIn_sub (fun _ h => List.mem_cons_of_mem _ (List.mem_append_left _ (List.mem_append_right _ h))) (by decide +kernel))) (goodIn_sub (fun _ h => List.mem_cons_of_mem _ (List.mem_append_right _ h)) (by decide +kernel))
set_option maxRecDepth 20000 in
theorem gL_rank_X1_rank : GoodIn wsL_rank (wsV RL 27 RX1 yX1_rank wsX1_rank) := goodIn_app (goodIn_of _ (by decide +kernel)) ggL_rank_X1_rank
theorem dL_rank_0 : decode cL_rank 0 = .ok (.aload_n 3, 1) := by decide +kernel
theorem dL_rank_1 : decode cL_rank 1 = .ok (.aload_n 0, 1) := by decide +kernel
theorem dL_rank_2 : decode cL_rank 2 = .ok (.iload_n 1, 1) := by decide +kernel
theorem dL_rank_3 : decode cL_rank 3 = .ok (.iload_n 2, 1) := by decide +kernel
theorem dL_rank_4 : decode cL_rank 4 = .ok (.invokevirtual 27, 3) := by decide +kernel
theorem dL_rank_7 : decode cL_rank 7 = .ok (.i2l, 1) := by decide +kernel
theorem dL_rank_8 : decode cL_rank 8 = .ok (.putfield 13, 3) := by decide +kernel
theorem dL_rank_11 : decode cL_rank 11 = .ok (.goto 11, 3) := by decide +kernel
theorem dL_rank_14 : decode cL_rank 14 = .ok (.astore 4, 2) := by decide +kernel
theorem dL_rank_16 : decode cL_rank 16 = .ok (.iconst 1, 1) := by decide +kernel
theorem dL_rank_17 : decode cL_rank 17 = .ok (.ireturn, 1) := by decide +kernel
theorem dL_rank_18 : decode cL_rank 18 = .ok (.astore 4, 2) := by decide +kernel
theorem dL_rank_20 : decode cL_rank 20 = .ok (.iconst 2, 1) := by decide +kernel
theorem dL_rank_21 : decode cL_rank 21 = .ok (.ireturn, 1) := by decide +kernel
theorem dL_rank_22 : decode cL_rank 22 = .ok (.iconst 0, 1) := by decide +kernel
theorem dL_rank_23 : decode cL_rank 23 = .ok (.ireturn, 1) := by decide +kernel
set_option maxRecDepth 20000 in
theorem ggL_goal_X1_goal : GoodIn wsL_goal wsX1_goal := goodIn_ca (goodIn_rc _ [(0, 6), (0, 7), (0, 8), (0, 9), (0, 10), (0, 11), (0, 5), (0, 12), (0, 13), (0, 14), (0, 15), (0, 16), (0, 17), (0, 18), (0, 19), (0, 20), (0, 21), (0, 22), (0, 23), (0, 26), (0, 27), (0, 28), (0, 29), (0, 30), (0, 31), (1, 0), (1, 1), (1, 2), (1, 3), (1, 4), (1, 5), (1, 6)] (by rfl) (by decide +kernel)) (goodIn_sub (fun _ h => List.mem_cons_of_mem _ (List.mem_append_right _ h)) (by decide +kernel))
set_option maxRecDepth 20000 in
theorem gL_goal_X1_goal : GoodIn wsL_goal (wsV RL 30 RX1 yX1_goal wsX1_goal) := goodIn_app (goodIn_of _ (by decide +kernel)) ggL_goal_X1_goal
theorem dL_goal_0 : decode cL_goal 0 = .ok (.aload_n 2, 1) := by decide +kernel
theorem dL_goal_1 : decode cL_goal 1 = .ok (.aload_n 0, 1) := by decide +kernel
theorem dL_goal_2 : decode cL_goal 2 = .ok (.iload_n 1, 1) := by decide +kernel
theorem dL_goal_3 : decode cL_goal 3 = .ok (.invokevirtual 30, 3) := by decide +kernel
theorem dL_goal_6 : decode cL_goal 6 = .ok (.i2l, 1) := by decide +kernel
theorem dL_goal_7 : decode cL_goal 7 = .ok (.putfield 13, 3) := by decide +kernel
theorem dL_goal_10 : decode cL_goal 10 = .ok (.goto 6, 3) := by decide +kernel
theorem dL_goal_13 : decode cL_goal 13 = .ok (.astore_n 3, 1) := by decide +kernel
theorem dL_goal_14 : decode cL_goal 14 = .ok (.iconst 1, 1) := by decide +kernel
theorem dL_goal_15 : decode cL_goal 15 = .ok (.ireturn, 1) := by decide +kernel
theorem dL_goal_16 : decode cL_goal 16 = .ok (.iconst 0, 1) := by decide +kernel
theorem dL_goal_17 : decode cL_goal 17 = .ok (.ireturn, 1) := by decide +kernel
set_option maxRecDepth 20000 in
theorem ggL_way_X1_way : GoodIn wsL_way wsX1_way := goodIn_ca (goodIn_rc _ [(0, 6), (0, 7), (0, 8), (0, 9), (0, 10), (0, 11), (0, 5), (0, 12), (0, 13), (0, 14), (0, 15), (0, 16), (0, 17), (0, 18), (0, 19), (0, 20), (0, 21), (0, 22), (0, 23), (0, 24), (0, 25), (0, 26), (0, 27), (0, 28), (0, 29), (0, 30), (0, 31), (1, 0), (1, 1), (1, 2), (1, 3), (1, 4), (1, 5), (1, 6), (1, 7), (1, 8), (1, 9), (1, 10), (1, 11), (1, 12), (1, 13), (1, 14), (1, 15), (1, 16), (1, 17), (1, 20), (1, 21), (1, 22), (1, 23), (1, 24), (1, 25), (1, 26), (1, 27), (1, 28), (1, 29), (1, 30), (1, 31), (2, 0)] (by rfl) (by decide +kernel)) (goodIn_sub (fun _ h => List.mem_cons_of_mem _ (List.mem_append_right _ h)) (by decide +kernel))
set_option maxRecDepth 20000 in
theorem gL_way_X1_way : GoodIn wsL_way (wsV RL 33 RX1 yX1_way wsX1_way) := goodIn_app (goodIn_of _ (by decide +kernel)) ggL_way_X1_way
theorem dL_way_0 : decode cL_way 0 = .ok (.aload_n 3, 1) := by decide +kernel
theorem dL_way_1 : decode cL_way 1 = .ok (.aload_n 0, 1) := by decide +kernel
theorem dL_way_2 : decode cL_way 2 = .ok (.iload_n 1, 1) := by decide +kernel
theorem dL_way_3 : decode cL_way 3 = .ok (.iload_n 2, 1) := by decide +kernel
theorem dL_way_4 : decode cL_way 4 = .ok (.invokevirtual 33, 3) := by decide +kernel
theorem dL_way_7 : decode cL_way 7 = .ok (.i2l, 1) := by decide +kernel
theorem dL_way_8 : decode cL_way 8 = .ok (.putfield 13, 3) := by decide +kernel
theorem dL_way_11 : decode cL_way 11 = .ok (.goto 7, 3) := by decide +kernel
theorem dL_way_14 : decode cL_way 14 = .ok (.astore 4, 2) := by decide +kernel
theorem dL_way_16 : decode cL_way 16 = .ok (.iconst 1, 1) := by decide +kernel
theorem dL_way_17 : decode cL_way 17 = .ok (.ireturn, 1) := by decide +kernel
theorem dL_way_18 : decode cL_way 18 = .ok (.iconst 0, 1) := by decide +kernel
theorem dL_way_19 : decode cL_way 19 = .ok (.ireturn, 1) := by decide +kernel
set_option maxRecDepth 20000 in
theorem ggL_lose_X1_lose : GoodIn wsL_lose wsX1_lose := goodIn_ca (goodIn_rc _ [(0, 6), (0, 7), (0, 8), (0, 9), (0, 10), (0, 11), (0, 5), (0, 12), (0, 13), (0, 14), (0, 15), (0, 16), (0, 17), (0, 18), (0, 19), (0, 20), (0, 21), (0, 22), (0, 23), (0, 24), (0, 25), (0, 26), (0, 27), (0, 28), (0, 29), (0, 30), (0, 31), (1, 0), (1, 3), (1, 4), (1, 5), (1, 6), (1, 7), (1, 8), (1, 9), (1, 10), (1, 11), (1, 12), (1, 13), (1, 14), (1, 15)] (by rfl) (by decide +kernel)) (goodIn_sub (fun _ h => List.mem_cons_of_mem _ (List.mem_append_right _ h)) (by decide +kernel))
set_option maxRecDepth 20000 in
theorem gL_lose_X1_lose : GoodIn wsL_lose (wsV RL 36 RX1 yX1_lose wsX1_lose) := goodIn_app (goodIn_of _ (by decide +kernel)) ggL_lose_X1_lose
theorem dL_lose_0 : decode cL_lose 0 = .ok (.aload_n 3, 1) := by decide +kernel
theorem dL_lose_1 : decode cL_lose 1 = .ok (.aload_n 0, 1) := by decide +kernel
theorem dL_lose_2 : decode cL_lose 2 = .ok (.iload_n 1, 1) := by decide +kernel
theorem dL_lose_3 : decode cL_lose 3 = .ok (.iload_n 2, 1) := by decide +kernel
theorem dL_lose_4 : decode cL_lose 4 = .ok (.invokevirtual 36, 3) := by decide +kernel
theorem dL_lose_7 : decode cL_lose 7 = .ok (.i2l, 1) := by decide +kernel
theorem dL_lose_8 : decode cL_lose 8 = .ok (.putfield 13, 3) := by decide +kernel
theorem dL_lose_11 : decode cL_lose 11 = .ok (.goto 7, 3) := by decide +kernel
theorem dL_lose_14 : decode cL_lose 14 = .ok (.astore 4, 2) := by decide +kernel
theorem dL_lose_16 : decode cL_lose 16 = .ok (.iconst 1, 1) := by decide +kernel
theorem dL_lose_17 : decode cL_lose 17 = .ok (.ireturn, 1) := by decide +kernel
theorem dL_lose_18 : decode cL_lose 18 = .ok (.iconst 0, 1) := by decide +kernel
theorem dL_lose_19 : decode cL_lose 19 = .ok (.ireturn, 1) := by decide +kernel
set_option maxRecDepth 20000 in
theorem ggL_circle_X1_circle : GoodIn wsL_circle wsX1_circle := goodIn_ca (goodIn_rc _ [(0, 6), (0, 7), (0, 8), (0, 9), (0, 10), (0, 11), (0, 5), (0, 12), (0, 13), (0, 14), (0, 15), (0, 16), (0, 17), (0, 18), (0, 19), (0, 20), (0, 21), (0, 22), (0, 23), (0, 24), (0, 25), (0, 26), (0, 27), (0, 28), (0, 29), (0, 30), (0, 31), (1, 0), (1, 1), (1, 2), (1, 3), (1, 4), (1, 5), (1, 6), (1, 7), (1, 8), (1, 9), (1, 10), (1, 11), (1, 12), (1, 13), (1, 14), (1, 15), (1, 16), (1, 17), (1, 18), (1, 19), (1, 20), (1, 21), (1, 22), (1, 23), (1, 24), (1, 25), (1, 28), (1, 29), (1, 30), (1, 31), (2, 0), (2, 1), (2, 2), (2, 3), (2, 4), (2, 5), (2, 6), (2, 7), (2, 8)] (by rfl) (by decide +kernel)) (goodIn_sub (fun _ h => List.mem_cons_of_mem _ (List.mem_append_right _ h)) (by decide +kernel))
set_option maxRecDepth 20000 in
theorem gL_circle_X1_circle : GoodIn wsL_circle (wsV RL 39 RX1 yX1_circle wsX1_circle) := goodIn_app (goodIn_of _ (by decide +kernel)) ggL_circle_X1_circle
theorem dL_circle_0 : decode cL_circle 0 = .ok (.aload_n 2, 1) := by decide +kernel
theorem dL_circle_1 : decode cL_circle 1 = .ok (.aload_n 0, 1) := by decide +kernel
theorem dL_circle_2 : decode cL_circle 2 = .ok (.iload_n 1, 1) := by decide +kernel
theorem dL_circle_3 : decode cL_circle 3 = .ok (.invokevirtual 39, 3) := by decide +kernel
theorem dL_circle_6 : decode cL_circle 6 = .ok (.i2l, 1) := by decide +kernel
theorem dL_circle_7 : decode cL_circle 7 = .ok (.putfield 13, 3) := by decide +kernel
theorem dL_circle_10 : decode cL_circle 10 = .ok (.goto 6, 3) := by decide +kernel
theorem dL_circle_13 : decode cL_circle 13 = .ok (.astore_n 3, 1) := by decide +kernel
theorem dL_circle_14 : decode cL_circle 14 = .ok (.iconst 1, 1) := by decide +kernel
theorem dL_circle_15 : decode cL_circle 15 = .ok (.ireturn, 1) := by decide +kernel
theorem dL_circle_16 : decode cL_circle 16 = .ok (.iconst 0, 1) := by decide +kernel
theorem dL_circle_17 : decode cL_circle 17 = .ok (.ireturn, 1) := by decide +kernel
set_option maxRecDepth 20000 in
theorem ggL_strew_X1_strew : GoodIn wsL_strew wsX1_strew := goodIn_ca (goodIn_rc _ [(0, 6), (0, 7), (0, 8), (0, 9), (0, 10), (0, 5), (0, 11), (0, 12), (0, 13), (0, 14), (0, 15), (0, 16), (0, 17), (0, 18), (0, 19), (0, 20), (0, 21), (0, 22), (0, 23), (0, 24), (0, 25), (0, 26), (0, 27), (0, 28), (0, 29), (0, 30), (0, 31), (1, 0), (1, 1), (1, 2), (1, 3), (1, 4), (1, 5), (1, 6), (1, 7), (1, 8), (1, 9), (1, 10), (1, 11), (1, 12), (1, 13), (1, 14), (1, 15), (1, 16), (1, 17), (1, 18), (1, 19), (1, 20), (1, 21), (1, 22), (1, 23), (1, 24), (1, 25), (1, 26), (1, 27), (1, 30), (1, 31), (2, 0), (2, 1), (2, 2), (2, 3), (2, 4), (2, 5), (2, 6), (2, 7), (2, 8), (2, 9), (2, 10)] (by rfl) (by decide +kernel)) (goodIn_sub (fun _ h => List.mem_cons_of_mem _ (List.mem_append_right _ h)) (by decide +kernel))
set_option maxRecDepth 20000 in
theorem gL_strew_X1_strew : GoodIn wsL_strew (wsV RL 42 RX1 yX1_strew wsX1_strew) := goodIn_app (goodIn_of _ (by decide +kernel)) ggL_strew_X1_strew
theorem dL_strew_0 : decode cL_strew 0 = .ok (.aload_n 2, 1) := by decide +kernel
theorem dL_strew_1 : decode cL_strew 1 = .ok (.aload_n 0, 1) := by decide +kernel
theorem dL_strew_2 : decode cL_strew 2 = .ok (.iload_n 1, 1) := by decide +kernel
theorem dL_strew_3 : decode cL_strew 3 = .ok (.invokevirtual 42, 3) := by decide +kernel
theorem dL_strew_6 : decode cL_strew 6 = .ok (.i2l, 1) := by decide +kernel
theorem dL_strew_7 : decode cL_strew 7 = .ok (.putfield 13, 3) := by decide +kernel
theorem dL_strew_10 : decode cL_strew 10 = .ok (.goto 6, 3) := by decide +kernel
theorem dL_strew_13 : decode cL_strew 13 = .ok (.astore_n 3, 1) := by decide +kernel
theorem dL_strew_14 : decode cL_strew 14 = .ok (.iconst 1, 1) := by decide +kernel
theorem dL_strew_15 : decode cL_strew 15 = .ok (.ireturn, 1) := by decide +kernel
theorem dL_strew_16 : decode cL_strew 16 = .ok (.iconst 0, 1) := by decide +kernel
theorem dL_strew_17 : decode cL_strew 17 = .ok (.ireturn, 1) := by decide +kernel
set_option maxRecDepth 20000 in
theorem ggL_stand_X1_stand : GoodIn wsL_stand wsX1_stand := goodIn_ca (goodIn_rc _ [(0, 6), (0, 7), (0, 8), (0, 9), (0, 10), (0, 11), (0, 12), (0, 5), (0, 13), (0, 14), (0, 15), (0, 16), (0, 19), (0, 20), (0, 21), (0, 22), (0, 23), (0, 24), (0, 25), (0, 26), (0, 27), (0, 28), (0, 29), (0, 30), (0, 31)] (by rfl) (by decide +kernel)) (goodIn_sub (fun _ h => List.mem_cons_of_mem _ (List.mem_append_right _ h)) (by decide +kernel))
set_option maxRecDepth 20000 in
theorem gL_stand_X1_stand : GoodIn wsL_stand (wsV RL 45 RX1 yX1_stand wsX1_stand) := goodIn_app (goodIn_of _ (by decide +kernel)) ggL_stand_X1_stand
theorem dL_stand_0 : decode cL_stand 0 = .ok (.aload_n 2, 1) := by decide +kernel
theorem dL_stand_1 : decode cL_stand 1 = .ok (.aload_n 0, 1) := by decide +kernel
theorem dL_stand_2 : decode cL_stand 2 = .ok (.iload_n 1, 1) := by decide +kernel
theorem dL_stand_3 : decode cL_stand 3 = .ok (.invokevirtual 45, 3) := by decide +kernel
theorem dL_stand_6 : decode cL_stand 6 = .ok (.i2l, 1) := by decide +kernel
theorem dL_stand_7 : decode cL_stand 7 = .ok (.putfield 13, 3) := by decide +kernel
theorem dL_stand_10 : decode cL_stand 10 = .ok (.goto 6, 3) := by decide +kernel
theorem dL_stand_13 : decode cL_stand 13 = .ok (.astore_n 3, 1) := by decide +kernel
theorem dL_stand_14 : decode cL_stand 14 = .ok (.iconst 1, 1) := by decide +kernel
theorem dL_stand_15 : decode cL_stand 15 = .ok (.ireturn, 1) := by decide +kernel
theorem dL_stand_16 : decode cL_stand 16 = .ok (.iconst 0, 1) := by decide +kernel
theorem dL_stand_17 : decode cL_stand 17 = .ok (.ireturn, 1) := by decide +kernel
set_option maxRecDepth 20000 in
theorem ggL_go_X1_go : GoodIn wsL_go wsX1_go := goodIn_ca (goodIn_rc _ [(0, 6), (0, 7), (0, 8), (0, 9), (0, 10), (0, 11), (0, 12), (0, 5), (0, 13), (0, 14), (0, 15), (0, 16), (0, 17), (0, 18), (0, 19), (0, 20), (0, 21), (0, 22), (0, 23), (0, 24), (0, 25), (0, 26), (0, 27), (0, 28), (0, 29), (0, 30), (0, 31), (1, 0), (1, 1), (1, 2), (1, 5), (1, 6), (1, 7), (1, 8), (1, 9), (1, 10), (1, 11), (1, 12), (1, 13), (1, 14), (1, 15), (1, 16), (1, 17)] (by rfl) (by decide +kernel)) (goodIn_sub (fun _ h => List.mem_cons_of_mem _ (List.mem_append_right _ h)) (by decide +kernel))
set_option maxRecDepth 20000 in
theorem gL_go_X1_go : GoodIn wsL_go (wsV RL 48 RX1 yX1_go wsX1_go) := goodIn_app (goodIn_of _ (by decide +kernel)) ggL_go_X1_go
theorem dL_go_0 : decode cL_go 0 = .ok (.aload_n 2, 1) := by decide +kernel
theorem dL_go_1 : decode cL_go 1 = .ok (.aload_n 0, 1) := by decide +kernel
theorem dL_go_2 : decode cL_go 2 = .ok (.iload_n 1, 1) := by decide +kernel
theorem dL_go_3 : decode cL_go 3 = .ok (.invokevirtual 48, 3) := by decide +kernel
theorem dL_go_6 : decode cL_go 6 = .ok (.i2l, 1) := by decide +kernel
theorem dL_go_7 : decode cL_go 7 = .ok (.putfield 13, 3) := by decide +kernel
theorem dL_go_10 : decode cL_go 10 = .ok (.goto 6, 3) := by decide +kernel
theorem dL_go_13 : decode cL_go 13 = .ok (.astore_n 3, 1) := by decide +kernel
theorem dL_go_14 : decode cL_go 14 = .ok (.iconst 1, 1) := by decide +kernel
theorem dL_go_15 : decode cL_go 15 = .ok (.ireturn, 1) := by decide +kernel
theorem dL_go_16 : decode cL_go 16 = .ok (.iconst 0, 1) := by decide +kernel
theorem dL_go_17 : decode cL_go 17 = .ok (.ireturn, 1) := by decide +kernel
set_option maxRecDepth 20000 in
theorem ggL_follow_X1_follow : GoodIn wsL_follow wsX1_follow := goodIn_ca (goodIn_rc _ [(0, 6), (0, 7), (0, 8), (0, 9), (0, 10), (0, 5), (0, 11), (0, 12), (0, 13), (0, 14), (0, 15), (0, 16), (0, 17), (0, 18), (0, 19), (0, 20), (0, 21), (0, 22), (0, 23), (0, 24), (0, 25), (0, 26), (0, 27), (0, 28), (0, 29), (0, 30), (0, 31), (1, 0), (1, 1), (1, 2), (1, 3), (1, 4), (1, 5), (1, 6), (1, 7), (1, 8), (1, 9), (1, 10), (1, 11), (1, 12), (1, 13), (1, 14), (1, 15), (1, 16), (1, 17), (1, 18), (1, 19), (1, 20), (1, 21), (1, 22), (1, 23), (1, 24), (1, 25), (1, 26), (1, 27), (1, 28), (1, 29), (1, 30), (1, 31), (2, 0), (2, 1), (2, 2), (2, 3), (2, 4), (2, 5), (2, 6), (2, 7), (2, 8), (2, 9), (2, 10), (2, 11), (2, 12), (2, 13), (2, 14), (2, 15), (2, 16), (2, 17), (2, 18), (2, 19), (2, 20), (2, 21), (2, 22), (2, 23), (2, 24), (2, 25), (2, 26), (2, 27), (2, 30), (2, 31), (3, 0), (3, 1), (3, 2), (3, 3), (3, 4), (3, 5), (3, 6), (3, 7), (3, 8), (3, 9), (3, 10)] (by rfl) (by decide +kernel)) (goodIn_sub (fun _ h => List.mem_cons_of_mem _ (List.mem_append_right _ h)) (by decide +kernel))
set_option maxRecDepth 20000 in
theorem gL_follow_X1_follow : GoodIn wsL_follow (wsV RL 51 RX1 yX1_follow wsX1_follow) := goodIn_app (goodIn_of _ (by decide +kernel)) ggL_follow_X1_follow
theorem dL_follow_0 : decode cL_follow 0 = .ok (.aload_n 2, 1) := by decide +kernel
theorem dL_follow_1 : decode cL_follow 1 = .ok (.aload_n 0, 1) := by decide +kernel
theorem dL_follow_2 : decode cL_follow 2 = .ok (.iload_n 1, 1) := by decide +kernel
theorem dL_follow_3 : decode cL_follow 3 = .ok (.invokevirtual 51, 3) := by decide +kernel
theorem dL_follow_6 : decode cL_follow 6 = .ok (.i2l, 1) := by decide +kernel
theorem dL_follow_7 : decode cL_follow 7 = .ok (.putfield 13, 3) := by decide +kernel
theorem dL_follow_10 : decode cL_follow 10 = .ok (.goto 6, 3) := by decide +kernel
theorem dL_follow_13 : decode cL_follow 13 = .ok (.astore_n 3, 1) := by decide +kernel
theorem dL_follow_14 : decode cL_follow 14 = .ok (.iconst 1, 1) := by decide +kernel
theorem dL_follow_15 : decode cL_follow 15 = .ok (.ireturn, 1) := by decide +kernel
theorem dL_follow_16 : decode cL_follow 16 = .ok (.iconst 0, 1) := by decide +kernel
theorem dL_follow_17 : decode cL_follow 17 = .ok (.ireturn, 1) := by decide +kernel
set_option maxRecDepth 20000 in
theorem ggL_told_X1_told : GoodIn wsL_told wsX1_told := goodIn_ca (goodIn_rc _ [(0, 6), (0, 7), (0, 8), (0, 9), (0, 10), (0, 11), (0, 5), (0, 12), (0, 13), (0, 14), (0, 15), (0, 16), (0, 17), (0, 18), (0, 19), (0, 20), (0, 21), (0, 22), (0, 23), (0, 24), (0, 25), (0, 26), (0, 27), (0, 28), (0, 29), (0, 30), (0, 31), (1, 0), (1, 1), (1, 2), (1, 3), (1, 4), (1, 5), (1, 6), (1, 7), (1, 8), (1, 9), (1, 10), (1, 11), (1, 12), (1, 13), (1, 16), (1, 17), (1, 18), (1, 19), (1, 20), (1, 21), (1, 22), (1, 23), (1, 24), (1, 25), (1, 26), (1, 27), (1, 28)] (by rfl) (by decide +kernel)) (goodIn_sub (fun _ h => List.mem_cons_of_mem _ (List.mem_append_right _ h)) (by decide +kernel))
set_option maxRecDepth 20000 in
theorem gL_told_X1_told : GoodIn wsL_told (wsV RL 54 RX1 yX1_told wsX1_told) := goodIn_app (goodIn_of _ (by decide +kernel)) ggL_told_X1_told
theorem dL_told_0 : decode cL_told 0 = .ok (.aload_n 2, 1) := by decide +kernel
theorem dL_told_1 : decode cL_told 1 = .ok (.aload_n 0, 1) := by decide +kernel
theorem dL_told_2 : decode cL_told 2 = .ok (.iload_n 1, 1) := by decide +kernel
theorem dL_told_3 : decode cL_told 3 = .ok (.invokevirtual 54, 3) := by decide +kernel
theorem dL_told_6 : decode cL_told 6 = .ok (.i2l, 1) := by decide +kernel
theorem dL_told_7 : decode cL_told 7 = .ok (.putfield 13, 3) := by decide +kernel
theorem dL_told_10 : decode cL_told 10 = .ok (.goto 6, 3) := by decide +kernel
theorem dL_told_13 : decode cL_told 13 = .ok (.astore_n 3, 1) := by decide +kernel
theorem dL_told_14 : decode cL_told 14 = .ok (.iconst 1, 1) := by decide +kernel
theorem dL_told_15 : decode cL_told 15 = .ok (.ireturn, 1) := by decide +kernel
theorem dL_told_16 : decode cL_told 16 = .ok (.iconst 0, 1) := by decide +kernel
theorem dL_told_17 : decode cL_told 17 = .ok (.ireturn, 1) := by decide +kernel
set_option maxRecDepth 20000 in
theorem ggL_ofPlace_X1_ofPlace : GoodIn wsL_ofPlace wsX1_ofPlace := goodIn_ca (goodIn_ca (goodIn_rc _ [(0, 7), (0, 8), (0, 9), (0, 10), (0, 11), (0, 6), (0, 12), (0, 13), (0, 14), (0, 15), (0, 16), (0, 17), (0, 18), (0, 19), (0, 20), (0, 21), (0, 22), (0, 23), (0, 24), (0, 25), (0, 26), (0, 27), (0, 28), (0, 29), (0, 30), (0, 31), (1, 0), (1, 1), (1, 2), (1, 3), (1, 4), (1, 5), (1, 6), (1, 7), (1, 8), (1, 9), (1, 10), (1, 11), (1, 12), (1, 13), (1, 16), (1, 17), (1, 18), (1, 19), (1, 20), (1, 21), (1, 22), (1, 23), (1, 24), (1, 25), (1, 26), (1, 27), (1, 28)] (by rfl) (by decide +kernel)) (goodIn_sub (fun _ h => List.mem_cons_of_mem _ (List.mem_append_left _ (List.mem_append_right _ h))) (by decide +kernel))) (goodIn_sub (fun _ h => List.mem_cons_of_mem _ (List.mem_append_right _ h)) (by decide +kernel))
set_option maxRecDepth 20000 in
theorem gL_ofPlace_X1_ofPlace : GoodIn wsL_ofPlace (wsV RL 57 RX1 yX1_ofPlace wsX1_ofPlace) := goodIn_app (goodIn_of _ (by decide +kernel)) ggL_ofPlace_X1_ofPlace
theorem dL_ofPlace_0 : decode cL_ofPlace 0 = .ok (.aload_n 3, 1) := by decide +kernel
theorem dL_ofPlace_1 : decode cL_ofPlace 1 = .ok (.aload_n 0, 1) := by decide +kernel
theorem dL_ofPlace_2 : decode cL_ofPlace 2 = .ok (.iload_n 1, 1) := by decide +kernel
theorem dL_ofPlace_3 : decode cL_ofPlace 3 = .ok (.iload_n 2, 1) := by decide +kernel
theorem dL_ofPlace_4 : decode cL_ofPlace 4 = .ok (.invokevirtual 57, 3) := by decide +kernel
theorem dL_ofPlace_7 : decode cL_ofPlace 7 = .ok (.i2l, 1) := by decide +kernel
theorem dL_ofPlace_8 : decode cL_ofPlace 8 = .ok (.putfield 13, 3) := by decide +kernel
theorem dL_ofPlace_11 : decode cL_ofPlace 11 = .ok (.goto 11, 3) := by decide +kernel
theorem dL_ofPlace_14 : decode cL_ofPlace 14 = .ok (.astore 4, 2) := by decide +kernel
theorem dL_ofPlace_16 : decode cL_ofPlace 16 = .ok (.iconst 1, 1) := by decide +kernel
theorem dL_ofPlace_17 : decode cL_ofPlace 17 = .ok (.ireturn, 1) := by decide +kernel
theorem dL_ofPlace_18 : decode cL_ofPlace 18 = .ok (.astore 4, 2) := by decide +kernel
theorem dL_ofPlace_20 : decode cL_ofPlace 20 = .ok (.iconst 2, 1) := by decide +kernel
theorem dL_ofPlace_21 : decode cL_ofPlace 21 = .ok (.ireturn, 1) := by decide +kernel
theorem dL_ofPlace_22 : decode cL_ofPlace 22 = .ok (.iconst 0, 1) := by decide +kernel
theorem dL_ofPlace_23 : decode cL_ofPlace 23 = .ok (.ireturn, 1) := by decide +kernel
set_option maxRecDepth 20000 in
theorem ggL_isWay_X1_isWay : GoodIn wsL_isWay wsX1_isWay := goodIn_ca (goodIn_rc _ [(0, 6), (0, 7), (0, 8), (0, 9), (0, 10), (0, 5), (0, 11), (0, 12), (0, 13), (0, 14), (0, 15), (0, 16), (0, 17), (0, 18), (0, 19), (0, 20), (0, 21), (0, 22), (0, 25), (0, 26), (0, 27), (0, 28), (0, 29), (0, 30), (0, 31), (1, 0), (1, 1), (1, 2), (1, 3), (1, 4), (1, 5)] (by rfl) (by decide +kernel)) (goodIn_sub (fun _ h => List.mem_cons_of_mem _ (List.mem_append_right _ h)) (by decide +kernel))
set_option maxRecDepth 20000 in
theorem gL_isWay_X1_isWay : GoodIn wsL_isWay (wsV RL 60 RX1 yX1_isWay wsX1_isWay) := goodIn_app (goodIn_of _ (by decide +kernel)) ggL_isWay_X1_isWay
theorem dL_isWay_0 : decode cL_isWay 0 = .ok (.aload_n 3, 1) := by decide +kernel
theorem dL_isWay_1 : decode cL_isWay 1 = .ok (.aload_n 0, 1) := by decide +kernel
theorem dL_isWay_2 : decode cL_isWay 2 = .ok (.iload_n 1, 1) := by decide +kernel
theorem dL_isWay_3 : decode cL_isWay 3 = .ok (.iload_n 2, 1) := by decide +kernel
theorem dL_isWay_4 : decode cL_isWay 4 = .ok (.invokevirtual 60, 3) := by decide +kernel
theorem dL_isWay_7 : decode cL_isWay 7 = .ok (.ifCond .eq 7, 3) := by decide +kernel
theorem dL_isWay_10 : decode cL_isWay 10 = .ok (.lconst 1, 1) := by decide +kernel
theorem dL_isWay_11 : decode cL_isWay 11 = .ok (.goto 4, 3) := by decide +kernel
theorem dL_isWay_14 : decode cL_isWay 14 = .ok (.lconst 0, 1) := by decide +kernel
theorem dL_isWay_15 : decode cL_isWay 15 = .ok (.putfield 13, 3) := by decide +kernel
theorem dL_isWay_18 : decode cL_isWay 18 = .ok (.goto 7, 3) := by decide +kernel
theorem dL_isWay_21 : decode cL_isWay 21 = .ok (.astore 4, 2) := by decide +kernel
theorem dL_isWay_23 : decode cL_isWay 23 = .ok (.iconst 1, 1) := by decide +kernel
theorem dL_isWay_24 : decode cL_isWay 24 = .ok (.ireturn, 1) := by decide +kernel
theorem dL_isWay_25 : decode cL_isWay 25 = .ok (.iconst 0, 1) := by decide +kernel
theorem dL_isWay_26 : decode cL_isWay 26 = .ok (.ireturn, 1) := by decide +kernel
set_option maxRecDepth 20000 in
theorem ggL_ways_X1_ways : GoodIn wsL_ways wsX1_ways := goodIn_ca (goodIn_rc _ [(0, 6), (0, 7), (0, 8), (0, 9), (0, 10), (0, 11), (0, 12), (0, 13), (0, 5), (0, 14), (0, 15), (0, 16), (0, 17), (0, 18), (0, 19), (0, 20), (0, 21), (0, 22), (0, 23), (0, 24), (0, 25), (0, 26), (0, 27), (0, 28), (0, 29), (0, 30), (0, 31), (1, 0), (1, 1), (1, 2), (1, 3), (1, 4), (1, 5), (1, 6), (1, 7), (1, 8), (1, 9), (1, 10), (1, 11), (1, 12), (1, 13), (1, 14), (1, 15), (1, 16), (1, 17), (1, 18), (1, 19), (1, 20), (1, 21), (1, 22), (1, 23), (1, 24), (1, 25), (1, 26), (1, 27), (1, 28), (1, 29), (1, 30), (1, 31), (2, 0), (2, 1), (2, 2), (2, 3), (2, 4), (2, 5), (2, 6), (2, 7), (2, 8), (2, 9), (2, 10), (2, 11), (2, 12), (2, 13), (2, 14), (2, 15), (2, 16), (2, 17), (2, 18), (2, 19), (2, 20), (2, 21), (2, 22), (2, 23), (2, 24), (2, 25), (2, 26), (2, 27), (2, 28), (2, 29), (2, 30), (2, 31), (3, 0), (3, 1), (3, 2), (3, 3), (3, 4), (3, 5), (3, 6), (3, 7), (3, 8), (3, 9), (3, 10), (3, 11), (3, 12), (3, 13), (3, 14), (3, 15), (3, 16), (3, 17), (3, 18), (3, 19), (3, 20), (3, 21), (3, 22), (3, 23), (3, 24), (3, 25), (3, 26), (3, 27), (3, 28), (3, 29), (3, 30), (3, 31), (4, 0), (4, 1), (4, 2), (4, 3), (4, 4), (4, 5), (4, 6), (4, 7), (4, 8), (4, 9), (4, 10), (4, 11), (4, 12), (4, 13), (4, 14), (4, 15), (4, 16), (4, 17), (4, 18), (4, 19), (4, 20), (4, 21), (4, 22), (4, 23), (4, 24), (4, 25), (4, 26), (4, 27), (4, 28), (4, 29), (4, 30), (4, 31), (5, 0), (5, 1), (5, 2), (5, 3), (5, 4), (5, 5), (5, 6), (5, 7), (5, 8), (5, 9), (5, 10), (5, 11), (5, 12), (5, 13), (5, 14), (5, 15), (5, 16), (5, 17), (5, 18), (5, 19), (5, 20), (5, 21), (5, 22), (5, 23), (5, 24), (5, 25), (5, 26), (5, 27), (5, 28), (5, 29), (5, 30), (5, 31), (6, 0), (6, 1), (6, 2), (6, 3), (6, 4), (6, 5), (6, 6), (6, 7), (6, 8), (6, 9), (6, 10), (6, 11), (6, 12), (6, 13), (6, 14), (6, 15), (6, 16), (6, 17), (6, 18), (6, 19), (6, 20), (6, 21), (6, 22), (6, 23), (6, 24), (6, 25), (6, 26), (6, 27), (6, 28), (6, 29), (6, 30), (6, 31), (7, 0), (7, 1), (7, 2), (7, 3), (7, 4), (7, 5), (7, 6), (7, 7), (7, 8), (7, 9), (7, 10), (7, 11), (7, 12), (7, 13), (7, 14), (7, 15), (7, 16), (7, 17), (7, 20), (7, 21), (7, 22), (7, 23), (7, 24), (7, 25), (7, 26), (7, 27), (7, 28), (7, 29), (7, 30), (7, 31), (8, 0), (8, 1), (8, 2), (8, 3), (8, 4), (8, 5), (8, 6), (8, 7), (8, 8)] (by rfl) (by decide +kernel)) (goodIn_sub (fun _ h => List.mem_cons_of_mem _ (List.mem_append_right _ h)) (by decide +kernel))
set_option maxRecDepth 20000 in
theorem gL_ways_X1_ways : GoodIn wsL_ways (wsV RL 64 RX1 yX1_ways wsX1_ways) := goodIn_app (goodIn_of _ (by decide +kernel)) ggL_ways_X1_ways
theorem dL_ways_0 : decode cL_ways 0 = .ok (.aload_n 2, 1) := by decide +kernel
theorem dL_ways_1 : decode cL_ways 1 = .ok (.aload_n 0, 1) := by decide +kernel
theorem dL_ways_2 : decode cL_ways 2 = .ok (.iload_n 1, 1) := by decide +kernel
theorem dL_ways_3 : decode cL_ways 3 = .ok (.invokevirtual 64, 3) := by decide +kernel
theorem dL_ways_6 : decode cL_ways 6 = .ok (.putfield 68, 3) := by decide +kernel
theorem dL_ways_9 : decode cL_ways 9 = .ok (.goto 6, 3) := by decide +kernel
theorem dL_ways_12 : decode cL_ways 12 = .ok (.astore_n 3, 1) := by decide +kernel
theorem dL_ways_13 : decode cL_ways 13 = .ok (.iconst 1, 1) := by decide +kernel
theorem dL_ways_14 : decode cL_ways 14 = .ok (.ireturn, 1) := by decide +kernel
theorem dL_ways_15 : decode cL_ways 15 = .ok (.iconst 0, 1) := by decide +kernel
theorem dL_ways_16 : decode cL_ways 16 = .ok (.ireturn, 1) := by decide +kernel
set_option maxRecDepth 20000 in
theorem ggL_ahead_X1_ahead : GoodIn wsL_ahead wsX1_ahead := goodIn_ca (goodIn_rc _ [(0, 6), (0, 7), (0, 8), (0, 9), (0, 10), (0, 5), (0, 11), (0, 12), (0, 13), (0, 14), (0, 15), (0, 16), (0, 17), (0, 18), (0, 19), (0, 20), (0, 21), (0, 22), (0, 23), (0, 24), (0, 25), (0, 26), (0, 27), (0, 28), (0, 29), (0, 30), (0, 31), (1, 2), (1, 3), (1, 4), (1, 5), (1, 6), (1, 7), (1, 8), (1, 9), (1, 10), (1, 11), (1, 12), (1, 13), (1, 14)] (by rfl) (by decide +kernel)) (goodIn_sub (fun _ h => List.mem_cons_of_mem _ (List.mem_append_right _ h)) (by decide +kernel))
set_option maxRecDepth 20000 in
theorem gL_ahead_X1_ahead : GoodIn wsL_ahead (wsV RL 72 RX1 yX1_ahead wsX1_ahead) := goodIn_app (goodIn_of _ (by decide +kernel)) ggL_ahead_X1_ahead
theorem dL_ahead_0 : decode cL_ahead 0 = .ok (.aload_n 3, 1) := by decide +kernel
theorem dL_ahead_1 : decode cL_ahead 1 = .ok (.aload_n 0, 1) := by decide +kernel
theorem dL_ahead_2 : decode cL_ahead 2 = .ok (.iload_n 1, 1) := by decide +kernel
theorem dL_ahead_3 : decode cL_ahead 3 = .ok (.iload_n 2, 1) := by decide +kernel
theorem dL_ahead_4 : decode cL_ahead 4 = .ok (.invokevirtual 72, 3) := by decide +kernel
theorem dL_ahead_7 : decode cL_ahead 7 = .ok (.i2l, 1) := by decide +kernel
theorem dL_ahead_8 : decode cL_ahead 8 = .ok (.putfield 13, 3) := by decide +kernel
theorem dL_ahead_11 : decode cL_ahead 11 = .ok (.goto 7, 3) := by decide +kernel
theorem dL_ahead_14 : decode cL_ahead 14 = .ok (.astore 4, 2) := by decide +kernel
theorem dL_ahead_16 : decode cL_ahead 16 = .ok (.iconst 1, 1) := by decide +kernel
theorem dL_ahead_17 : decode cL_ahead 17 = .ok (.ireturn, 1) := by decide +kernel
theorem dL_ahead_18 : decode cL_ahead 18 = .ok (.iconst 0, 1) := by decide +kernel
theorem dL_ahead_19 : decode cL_ahead 19 = .ok (.ireturn, 1) := by decide +kernel
set_option maxRecDepth 20000 in
theorem ggL_coming_X1_coming : GoodIn wsL_coming wsX1_coming := goodIn_ca (goodIn_rc _ [(0, 6), (0, 7), (0, 8), (0, 9), (0, 5), (0, 10), (0, 11), (0, 12), (0, 13), (0, 14), (0, 15), (0, 16), (0, 17), (0, 18), (0, 19), (0, 20), (0, 21), (0, 22), (0, 23), (0, 24), (0, 25), (0, 26), (0, 27), (0, 28), (0, 29), (0, 30), (0, 31), (1, 0), (1, 1), (1, 2), (1, 3), (1, 4), (1, 5), (1, 6), (1, 7), (1, 8), (1, 9), (1, 10), (1, 11), (1, 12), (1, 13), (1, 14), (1, 15), (1, 16), (1, 17), (1, 18), (1, 21), (1, 22), (1, 23), (1, 24), (1, 25), (1, 26), (1, 27), (1, 28), (1, 29), (1, 30), (1, 31), (2, 0), (2, 1)] (by rfl) (by decide +kernel)) (goodIn_sub (fun _ h => List.mem_cons_of_mem _ (List.mem_append_right _ h)) (by decide +kernel))
set_option maxRecDepth 20000 in
theorem gL_coming_X1_coming : GoodIn wsL_coming (wsV RL 75 RX1 yX1_coming wsX1_coming) := goodIn_app (goodIn_of _ (by decide +kernel)) ggL_coming_X1_coming
theorem dL_coming_0 : decode cL_coming 0 = .ok (.aload_n 2, 1) := by decide +kernel
theorem dL_coming_1 : decode cL_coming 1 = .ok (.aload_n 0, 1) := by decide +kernel
theorem dL_coming_2 : decode cL_coming 2 = .ok (.iload_n 1, 1) := by decide +kernel
theorem dL_coming_3 : decode cL_coming 3 = .ok (.invokevirtual 75, 3) := by decide +kernel
theorem dL_coming_6 : decode cL_coming 6 = .ok (.i2l, 1) := by decide +kernel
theorem dL_coming_7 : decode cL_coming 7 = .ok (.putfield 13, 3) := by decide +kernel
theorem dL_coming_10 : decode cL_coming 10 = .ok (.goto 6, 3) := by decide +kernel
theorem dL_coming_13 : decode cL_coming 13 = .ok (.astore_n 3, 1) := by decide +kernel
theorem dL_coming_14 : decode cL_coming 14 = .ok (.iconst 1, 1) := by decide +kernel
theorem dL_coming_15 : decode cL_coming 15 = .ok (.ireturn, 1) := by decide +kernel
theorem dL_coming_16 : decode cL_coming 16 = .ok (.iconst 0, 1) := by decide +kernel
theorem dL_coming_17 : decode cL_coming 17 = .ok (.ireturn, 1) := by decide +kernel
set_option maxRecDepth 20000 in
theorem ggL_keeping_X1_keeping : GoodIn wsL_keeping wsX1_keeping := goodIn_ca (goodIn_rc _ [(0, 6), (0, 7), (0, 8), (0, 9), (0, 5), (0, 10), (0, 11), (0, 12), (0, 13), (0, 14), (0, 15), (0, 16), (0, 17), (0, 18), (0, 19), (0, 20), (0, 21), (0, 22), (0, 23), (0, 24), (0, 25), (0, 26), (0, 27), (0, 28), (0, 29), (0, 30), (0, 31), (1, 0), (1, 1), (1, 2), (1, 3), (1, 4), (1, 5), (1, 6), (1, 7), (1, 8), (1, 9), (1, 10), (1, 11), (1, 12), (1, 13), (1, 14), (1, 15), (1, 16), (1, 17), (1, 18), (1, 21), (1, 22), (1, 23), (1, 24), (1, 25), (1, 26), (1, 27), (1, 28), (1, 29), (1, 30), (1, 31), (2, 0), (2, 1)] (by rfl) (by decide +kernel)) (goodIn_sub (fun _ h => List.mem_cons_of_mem _ (List.mem_append_right _ h)) (by decide +kernel))
set_option maxRecDepth 20000 in
theorem gL_keeping_X1_keeping : GoodIn wsL_keeping (wsV RL 78 RX1 yX1_keeping wsX1_keeping) := goodIn_app (goodIn_of _ (by decide +kernel)) ggL_keeping_X1_keeping
theorem dL_keeping_0 : decode cL_keeping 0 = .ok (.aload_n 2, 1) := by decide +kernel
theorem dL_keeping_1 : decode cL_keeping 1 = .ok (.aload_n 0, 1) := by decide +kernel
theorem dL_keeping_2 : decode cL_keeping 2 = .ok (.iload_n 1, 1) := by decide +kernel
theorem dL_keeping_3 : decode cL_keeping 3 = .ok (.invokevirtual 78, 3) := by decide +kernel
theorem dL_keeping_6 : decode cL_keeping 6 = .ok (.i2l, 1) := by decide +kernel
theorem dL_keeping_7 : decode cL_keeping 7 = .ok (.putfield 13, 3) := by decide +kernel
theorem dL_keeping_10 : decode cL_keeping 10 = .ok (.goto 6, 3) := by decide +kernel
theorem dL_keeping_13 : decode cL_keeping 13 = .ok (.astore_n 3, 1) := by decide +kernel
theorem dL_keeping_14 : decode cL_keeping 14 = .ok (.iconst 1, 1) := by decide +kernel
theorem dL_keeping_15 : decode cL_keeping 15 = .ok (.ireturn, 1) := by decide +kernel
theorem dL_keeping_16 : decode cL_keeping 16 = .ok (.iconst 0, 1) := by decide +kernel
theorem dL_keeping_17 : decode cL_keeping 17 = .ok (.ireturn, 1) := by decide +kernel
set_option maxRecDepth 20000 in
theorem ggL_again_X1_again : GoodIn wsL_again wsX1_again := goodIn_ca (goodIn_rc _ [(0, 6), (0, 7), (0, 8), (0, 9), (0, 5), (0, 10), (0, 11), (0, 12), (0, 13), (0, 14), (0, 15), (0, 16), (0, 17), (0, 18), (0, 19), (0, 20), (0, 21), (0, 22), (0, 23), (0, 24), (0, 25), (0, 26), (0, 27), (0, 28), (0, 29), (0, 30), (0, 31), (1, 0), (1, 1), (1, 2), (1, 3), (1, 4), (1, 5), (1, 6), (1, 7), (1, 8), (1, 9), (1, 10), (1, 11), (1, 12), (1, 13), (1, 14), (1, 15), (1, 16), (1, 17), (1, 18), (1, 21), (1, 22), (1, 23), (1, 24), (1, 25), (1, 26), (1, 27), (1, 28), (1, 29), (1, 30), (1, 31), (2, 0), (2, 1)] (by rfl) (by decide +kernel)) (goodIn_sub (fun _ h => List.mem_cons_of_mem _ (List.mem_append_right _ h)) (by decide +kernel))
set_option maxRecDepth 20000 in
theorem gL_again_X1_again : GoodIn wsL_again (wsV RL 81 RX1 yX1_again wsX1_again) := goodIn_app (goodIn_of _ (by decide +kernel)) ggL_again_X1_again
theorem dL_again_0 : decode cL_again 0 = .ok (.aload_n 2, 1) := by decide +kernel
theorem dL_again_1 : decode cL_again 1 = .ok (.aload_n 0, 1) := by decide +kernel
theorem dL_again_2 : decode cL_again 2 = .ok (.iload_n 1, 1) := by decide +kernel
theorem dL_again_3 : decode cL_again 3 = .ok (.invokevirtual 81, 3) := by decide +kernel
theorem dL_again_6 : decode cL_again 6 = .ok (.i2l, 1) := by decide +kernel
theorem dL_again_7 : decode cL_again 7 = .ok (.putfield 13, 3) := by decide +kernel
theorem dL_again_10 : decode cL_again 10 = .ok (.goto 6, 3) := by decide +kernel
theorem dL_again_13 : decode cL_again 13 = .ok (.astore_n 3, 1) := by decide +kernel
theorem dL_again_14 : decode cL_again 14 = .ok (.iconst 1, 1) := by decide +kernel
theorem dL_again_15 : decode cL_again 15 = .ok (.ireturn, 1) := by decide +kernel
theorem dL_again_16 : decode cL_again 16 = .ok (.iconst 0, 1) := by decide +kernel
theorem dL_again_17 : decode cL_again 17 = .ok (.ireturn, 1) := by decide +kernel
set_option maxRecDepth 20000 in
theorem ggL_ranked_X1_ranked : GoodIn wsL_ranked wsX1_ranked := goodIn_ca (goodIn_rc _ [(0, 6), (0, 7), (0, 8), (0, 9), (0, 5), (0, 10), (0, 11), (0, 12), (0, 13), (0, 14), (0, 15), (0, 16), (0, 17), (0, 18), (0, 19), (0, 20), (0, 21), (0, 22), (0, 23), (0, 24), (0, 25), (0, 26), (0, 27), (0, 28), (0, 29), (0, 30), (0, 31), (1, 0), (1, 1), (1, 2), (1, 3), (1, 4), (1, 5), (1, 6), (1, 7), (1, 8), (1, 9), (1, 10), (1, 11), (1, 12), (1, 13), (1, 14), (1, 15), (1, 16), (1, 17), (1, 18), (1, 21), (1, 22), (1, 23), (1, 24), (1, 25), (1, 26), (1, 27), (1, 28), (1, 29), (1, 30), (1, 31), (2, 0), (2, 1)] (by rfl) (by decide +kernel)) (goodIn_sub (fun _ h => List.mem_cons_of_mem _ (List.mem_append_right _ h)) (by decide +kernel))
set_option maxRecDepth 20000 in
theorem gL_ranked_X1_ranked : GoodIn wsL_ranked (wsV RL 84 RX1 yX1_ranked wsX1_ranked) := goodIn_app (goodIn_of _ (by decide +kernel)) ggL_ranked_X1_ranked
theorem dL_ranked_0 : decode cL_ranked 0 = .ok (.aload_n 2, 1) := by decide +kernel
theorem dL_ranked_1 : decode cL_ranked 1 = .ok (.aload_n 0, 1) := by decide +kernel
theorem dL_ranked_2 : decode cL_ranked 2 = .ok (.iload_n 1, 1) := by decide +kernel
theorem dL_ranked_3 : decode cL_ranked 3 = .ok (.invokevirtual 84, 3) := by decide +kernel
theorem dL_ranked_6 : decode cL_ranked 6 = .ok (.i2l, 1) := by decide +kernel
theorem dL_ranked_7 : decode cL_ranked 7 = .ok (.putfield 13, 3) := by decide +kernel
theorem dL_ranked_10 : decode cL_ranked 10 = .ok (.goto 6, 3) := by decide +kernel
theorem dL_ranked_13 : decode cL_ranked 13 = .ok (.astore_n 3, 1) := by decide +kernel
theorem dL_ranked_14 : decode cL_ranked 14 = .ok (.iconst 1, 1) := by decide +kernel
theorem dL_ranked_15 : decode cL_ranked 15 = .ok (.ireturn, 1) := by decide +kernel
theorem dL_ranked_16 : decode cL_ranked 16 = .ok (.iconst 0, 1) := by decide +kernel
theorem dL_ranked_17 : decode cL_ranked 17 = .ok (.ireturn, 1) := by decide +kernel
set_option maxRecDepth 20000 in
theorem ggL_winner_X1_winner : GoodIn wsL_winner wsX1_winner := goodIn_ca (goodIn_ca (goodIn_rc _ [(0, 7), (0, 8), (0, 9), (0, 10), (0, 11), (0, 6), (0, 12), (0, 13), (0, 14), (0, 15), (0, 16), (0, 17), (0, 18), (0, 19), (0, 20), (0, 21), (0, 22), (0, 23), (0, 24), (0, 25), (0, 26), (0, 27), (0, 28), (0, 29), (0, 30), (0, 31), (1, 0), (1, 1), (1, 2), (1, 3), (1, 4), (1, 5), (1, 6), (1, 7), (1, 8), (1, 9), (1, 10), (1, 11), (1, 12), (1, 13), (1, 14), (1, 15), (1, 16), (1, 17), (1, 18), (1, 19), (1, 20), (1, 21), (1, 22), (1, 23), (1, 24), (1, 25), (1, 28), (1, 29), (1, 30), (1, 31), (2, 0), (2, 1), (2, 2), (2, 3), (2, 4), (2, 5), (2, 6), (2, 7), (2, 8)] (by rfl) (by decide +kernel)) (goodIn_sub (fun _ h => List.mem_cons_of_mem _ (List.mem_append_left _ (List.mem_append_right _ h))) (by decide +kernel))) (goodIn_sub (fun _ h => List.mem_cons_of_mem _ (List.mem_append_right _ h)) (by decide +kernel))
set_option maxRecDepth 20000 in
theorem gL_winner_X1_winner : GoodIn wsL_winner (wsV RL 87 RX1 yX1_winner wsX1_winner) := goodIn_app (goodIn_of _ (by decide +kernel)) ggL_winner_X1_winner
theorem dL_winner_0 : decode cL_winner 0 = .ok (.aload_n 3, 1) := by decide +kernel
theorem dL_winner_1 : decode cL_winner 1 = .ok (.aload_n 0, 1) := by decide +kernel
theorem dL_winner_2 : decode cL_winner 2 = .ok (.iload_n 1, 1) := by decide +kernel
theorem dL_winner_3 : decode cL_winner 3 = .ok (.iload_n 2, 1) := by decide +kernel
theorem dL_winner_4 : decode cL_winner 4 = .ok (.invokevirtual 87, 3) := by decide +kernel
theorem dL_winner_7 : decode cL_winner 7 = .ok (.i2l, 1) := by decide +kernel
theorem dL_winner_8 : decode cL_winner 8 = .ok (.putfield 13, 3) := by decide +kernel
theorem dL_winner_11 : decode cL_winner 11 = .ok (.goto 11, 3) := by decide +kernel
theorem dL_winner_14 : decode cL_winner 14 = .ok (.astore 4, 2) := by decide +kernel
theorem dL_winner_16 : decode cL_winner 16 = .ok (.iconst 1, 1) := by decide +kernel
theorem dL_winner_17 : decode cL_winner 17 = .ok (.ireturn, 1) := by decide +kernel
theorem dL_winner_18 : decode cL_winner 18 = .ok (.astore 4, 2) := by decide +kernel
theorem dL_winner_20 : decode cL_winner 20 = .ok (.iconst 2, 1) := by decide +kernel
theorem dL_winner_21 : decode cL_winner 21 = .ok (.ireturn, 1) := by decide +kernel
theorem dL_winner_22 : decode cL_winner 22 = .ok (.iconst 0, 1) := by decide +kernel
theorem dL_winner_23 : decode cL_winner 23 = .ok (.ireturn, 1) := by decide +kernel
set_option maxRecDepth 20000 in
theorem ggL_rounds_X1_rounds : GoodIn wsL_rounds wsX1_rounds := goodIn_ca (goodIn_ca (goodIn_rc _ [(0, 7), (0, 8), (0, 9), (0, 10), (0, 11), (0, 6), (0, 12), (0, 13), (0, 14), (0, 15), (0, 16), (0, 17), (0, 18), (0, 19), (0, 20), (0, 21), (0, 22), (0, 23), (0, 24), (0, 25), (0, 26), (0, 27), (0, 28), (0, 29), (0, 30), (0, 31), (1, 0), (1, 1), (1, 2), (1, 3), (1, 4), (1, 7), (1, 8), (1, 9), (1, 10), (1, 11), (1, 12), (1, 13), (1, 14), (1, 15), (1, 16), (1, 17), (1, 18), (1, 19)] (by rfl) (by decide +kernel)) (goodIn_sub (fun _ h => List.mem_cons_of_mem _ (List.mem_append_left _ (List.mem_append_right _ h))) (by decide +kernel))) (goodIn_sub (fun _ h => List.mem_cons_of_mem _ (List.mem_append_right _ h)) (by decide +kernel))
set_option maxRecDepth 20000 in
theorem gL_rounds_X1_rounds : GoodIn wsL_rounds (wsV RL 90 RX1 yX1_rounds wsX1_rounds) := goodIn_app (goodIn_of _ (by decide +kernel)) ggL_rounds_X1_rounds
theorem dL_rounds_0 : decode cL_rounds 0 = .ok (.aload_n 3, 1) := by decide +kernel
theorem dL_rounds_1 : decode cL_rounds 1 = .ok (.aload_n 0, 1) := by decide +kernel
theorem dL_rounds_2 : decode cL_rounds 2 = .ok (.iload_n 1, 1) := by decide +kernel
theorem dL_rounds_3 : decode cL_rounds 3 = .ok (.iload_n 2, 1) := by decide +kernel
theorem dL_rounds_4 : decode cL_rounds 4 = .ok (.invokevirtual 90, 3) := by decide +kernel
theorem dL_rounds_7 : decode cL_rounds 7 = .ok (.i2l, 1) := by decide +kernel
theorem dL_rounds_8 : decode cL_rounds 8 = .ok (.putfield 13, 3) := by decide +kernel
theorem dL_rounds_11 : decode cL_rounds 11 = .ok (.goto 11, 3) := by decide +kernel
theorem dL_rounds_14 : decode cL_rounds 14 = .ok (.astore 4, 2) := by decide +kernel
theorem dL_rounds_16 : decode cL_rounds 16 = .ok (.iconst 1, 1) := by decide +kernel
theorem dL_rounds_17 : decode cL_rounds 17 = .ok (.ireturn, 1) := by decide +kernel
theorem dL_rounds_18 : decode cL_rounds 18 = .ok (.astore 4, 2) := by decide +kernel
theorem dL_rounds_20 : decode cL_rounds 20 = .ok (.iconst 2, 1) := by decide +kernel
theorem dL_rounds_21 : decode cL_rounds 21 = .ok (.ireturn, 1) := by decide +kernel
theorem dL_rounds_22 : decode cL_rounds 22 = .ok (.iconst 0, 1) := by decide +kernel
theorem dL_rounds_23 : decode cL_rounds 23 = .ok (.ireturn, 1) := by decide +kernel
set_option maxRecDepth 20000 in
theorem ggL_againRounds_X1_againRounds : GoodIn wsL_againRounds wsX1_againRounds := goodIn_ca (goodIn_ca (goodIn_rc _ [(0, 7), (0, 8), (0, 9), (0, 10), (0, 11), (0, 6), (0, 12), (0, 13), (0, 14), (0, 15), (0, 16), (0, 17), (0, 18), (0, 19), (0, 20), (0, 21), (0, 22), (0, 23), (0, 24), (0, 25), (0, 26), (0, 27), (0, 28), (0, 29), (0, 30), (0, 31), (1, 0), (1, 1), (1, 2), (1, 3), (1, 4), (1, 5), (1, 6), (1, 7), (1, 8), (1, 9), (1, 10), (1, 11), (1, 12), (1, 13), (1, 14), (1, 15), (1, 16), (1, 17), (1, 18), (1, 19), (1, 20), (1, 21), (1, 22), (1, 23), (1, 24), (1, 25), (1, 26), (1, 27), (1, 28), (1, 29), (1, 30), (1, 31), (2, 2), (2, 3), (2, 4), (2, 5), (2, 6), (2, 7), (2, 8), (2, 9), (2, 10), (2, 11), (2, 12), (2, 13), (2, 14)] (by rfl) (by decide +kernel)) (goodIn_sub (fun _ h => List.mem_cons_of_mem _ (List.mem_append_left _ (List.mem_append_right _ h))) (by decide +kernel))) (goodIn_sub (fun _ h => List.mem_cons_of_mem _ (List.mem_append_right _ h)) (by decide +kernel))
set_option maxRecDepth 20000 in
theorem gL_againRounds_X1_againRounds : GoodIn wsL_againRounds (wsV RL 93 RX1 yX1_againRounds wsX1_againRounds) := goodIn_app (goodIn_of _ (by decide +kernel)) ggL_againRounds_X1_againRounds
theorem dL_againRounds_0 : decode cL_againRounds 0 = .ok (.aload_n 3, 1) := by decide +kernel
theorem dL_againRounds_1 : decode cL_againRounds 1 = .ok (.aload_n 0, 1) := by decide +kernel
theorem dL_againRounds_2 : decode cL_againRounds 2 = .ok (.iload_n 1, 1) := by decide +kernel
theorem dL_againRounds_3 : decode cL_againRounds 3 = .ok (.iload_n 2, 1) := by decide +kernel
theorem dL_againRounds_4 : decode cL_againRounds 4 = .ok (.invokevirtual 93, 3) := by decide +kernel
theorem dL_againRounds_7 : decode cL_againRounds 7 = .ok (.i2l, 1) := by decide +kernel
theorem dL_againRounds_8 : decode cL_againRounds 8 = .ok (.putfield 13, 3) := by decide +kernel
theorem dL_againRounds_11 : decode cL_againRounds 11 = .ok (.goto 11, 3) := by decide +kernel
theorem dL_againRounds_14 : decode cL_againRounds 14 = .ok (.astore 4, 2) := by decide +kernel
theorem dL_againRounds_16 : decode cL_againRounds 16 = .ok (.iconst 1, 1) := by decide +kernel
theorem dL_againRounds_17 : decode cL_againRounds 17 = .ok (.ireturn, 1) := by decide +kernel
theorem dL_againRounds_18 : decode cL_againRounds 18 = .ok (.astore 4, 2) := by decide +kernel
theorem dL_againRounds_20 : decode cL_againRounds 20 = .ok (.iconst 2, 1) := by decide +kernel
theorem dL_againRounds_21 : decode cL_againRounds 21 = .ok (.ireturn, 1) := by decide +kernel
theorem dL_againRounds_22 : decode cL_againRounds 22 = .ok (.iconst 0, 1) := by decide +kernel
theorem dL_againRounds_23 : decode cL_againRounds 23 = .ok (.ireturn, 1) := by decide +kernel
set_option maxRecDepth 20000 in
theorem ggL_falls_X1_falls : GoodIn wsL_falls wsX1_falls := goodIn_ca (goodIn_rc _ [(0, 6), (0, 7), (0, 8), (0, 9), (0, 5), (0, 10), (0, 11), (0, 12), (0, 13), (0, 14), (0, 15), (0, 16), (0, 17), (0, 18), (0, 19), (0, 20), (0, 21), (0, 22), (0, 23), (0, 24), (0, 25), (0, 26), (0, 27), (0, 28), (0, 29), (0, 30), (0, 31), (1, 0), (1, 3), (1, 4), (1, 5), (1, 6), (1, 7), (1, 8), (1, 9), (1, 10), (1, 11), (1, 12), (1, 13), (1, 14), (1, 15)] (by rfl) (by decide +kernel)) (goodIn_sub (fun _ h => List.mem_cons_of_mem _ (List.mem_append_right _ h)) (by decide +kernel))
set_option maxRecDepth 20000 in
theorem gL_falls_X1_falls : GoodIn wsL_falls (wsV RL 96 RX1 yX1_falls wsX1_falls) := goodIn_app (goodIn_of _ (by decide +kernel)) ggL_falls_X1_falls
theorem dL_falls_0 : decode cL_falls 0 = .ok (.aload_n 2, 1) := by decide +kernel
theorem dL_falls_1 : decode cL_falls 1 = .ok (.aload_n 0, 1) := by decide +kernel
theorem dL_falls_2 : decode cL_falls 2 = .ok (.iload_n 1, 1) := by decide +kernel
theorem dL_falls_3 : decode cL_falls 3 = .ok (.invokevirtual 96, 3) := by decide +kernel
theorem dL_falls_6 : decode cL_falls 6 = .ok (.i2l, 1) := by decide +kernel
theorem dL_falls_7 : decode cL_falls 7 = .ok (.putfield 13, 3) := by decide +kernel
theorem dL_falls_10 : decode cL_falls 10 = .ok (.goto 6, 3) := by decide +kernel
theorem dL_falls_13 : decode cL_falls 13 = .ok (.astore_n 3, 1) := by decide +kernel
theorem dL_falls_14 : decode cL_falls 14 = .ok (.iconst 1, 1) := by decide +kernel
theorem dL_falls_15 : decode cL_falls 15 = .ok (.ireturn, 1) := by decide +kernel
theorem dL_falls_16 : decode cL_falls 16 = .ok (.iconst 0, 1) := by decide +kernel
theorem dL_falls_17 : decode cL_falls 17 = .ok (.ireturn, 1) := by decide +kernel
set_option maxRecDepth 20000 in
theorem ggL_choice_X1_choice : GoodIn wsL_choice wsX1_choice := goodIn_ca (goodIn_ca (goodIn_rc _ [(0, 7), (0, 8), (0, 9), (0, 10), (0, 11), (0, 6), (0, 12), (0, 13), (0, 14), (0, 15), (0, 16), (0, 17), (0, 18), (0, 19), (0, 20), (0, 21), (0, 22), (0, 23), (0, 24), (0, 25), (0, 26), (0, 27), (0, 28), (0, 29), (0, 30), (0, 31), (1, 0), (1, 1), (1, 2), (1, 3), (1, 4), (1, 5), (1, 6), (1, 7), (1, 8), (1, 9), (1, 10), (1, 11), (1, 12), (1, 13), (1, 14), (1, 15), (1, 16), (1, 17), (1, 18), (1, 19), (1, 20), (1, 21), (1, 22), (1, 23), (1, 24), (1, 25), (1, 26), (1, 27), (1, 28), (1, 29), (1, 30), (1, 31), (2, 0), (2, 1), (2, 2), (2, 3), (2, 4), (2, 5), (2, 6), (2, 7), (2, 8), (2, 9), (2, 10), (2, 11), (2, 12), (2, 13), (2, 14), (2, 15), (2, 16), (2, 17), (2, 18), (2, 19), (2, 20), (2, 21), (2, 24), (2, 25), (2, 26), (2, 27), (2, 28), (2, 29), (2, 30), (2, 31), (3, 0), (3, 1), (3, 2), (3, 3), (3, 4)] (by rfl) (by decide +kernel)) (goodIn_sub (fun _ h => List.mem_cons_of_mem _ (List.mem_append_left _ (List.mem_append_right _ h))) (by decide +kernel))) (goodIn_sub (fun _ h => List.mem_cons_of_mem _ (List.mem_append_right _ h)) (by decide +kernel))
set_option maxRecDepth 20000 in
theorem gL_choice_X1_choice : GoodIn wsL_choice (wsV RL 99 RX1 yX1_choice wsX1_choice) := goodIn_app (goodIn_of _ (by decide +kernel)) ggL_choice_X1_choice
theorem dL_choice_0 : decode cL_choice 0 = .ok (.aload 4, 2) := by decide +kernel
theorem dL_choice_2 : decode cL_choice 2 = .ok (.aload_n 0, 1) := by decide +kernel
theorem dL_choice_3 : decode cL_choice 3 = .ok (.iload_n 1, 1) := by decide +kernel
theorem dL_choice_4 : decode cL_choice 4 = .ok (.iload_n 2, 1) := by decide +kernel
theorem dL_choice_5 : decode cL_choice 5 = .ok (.iload_n 3, 1) := by decide +kernel
theorem dL_choice_6 : decode cL_choice 6 = .ok (.invokevirtual 99, 3) := by decide +kernel
theorem dL_choice_9 : decode cL_choice 9 = .ok (.i2l, 1) := by decide +kernel
theorem dL_choice_10 : decode cL_choice 10 = .ok (.putfield 13, 3) := by decide +kernel
theorem dL_choice_13 : decode cL_choice 13 = .ok (.goto 11, 3) := by decide +kernel
theorem dL_choice_16 : decode cL_choice 16 = .ok (.astore 5, 2) := by decide +kernel
theorem dL_choice_18 : decode cL_choice 18 = .ok (.iconst 1, 1) := by decide +kernel
theorem dL_choice_19 : decode cL_choice 19 = .ok (.ireturn, 1) := by decide +kernel
theorem dL_choice_20 : decode cL_choice 20 = .ok (.astore 5, 2) := by decide +kernel
theorem dL_choice_22 : decode cL_choice 22 = .ok (.iconst 2, 1) := by decide +kernel
theorem dL_choice_23 : decode cL_choice 23 = .ok (.ireturn, 1) := by decide +kernel
theorem dL_choice_24 : decode cL_choice 24 = .ok (.iconst 0, 1) := by decide +kernel
theorem dL_choice_25 : decode cL_choice 25 = .ok (.ireturn, 1) := by decide +kernel
set_option maxRecDepth 20000 in
theorem ggL_isSure_X1_isSure : GoodIn wsL_isSure wsX1_isSure := goodIn_ca (goodIn_rc _ [(0, 6), (0, 7), (0, 8), (0, 5), (0, 9), (0, 10), (0, 11), (0, 12), (0, 13), (0, 14), (0, 15), (0, 16), (0, 17), (0, 18), (0, 19), (0, 20), (0, 21), (0, 22), (0, 23), (0, 24), (0, 25), (0, 26), (0, 27), (0, 28), (0, 29), (0, 30), (0, 31), (1, 0), (1, 1), (1, 2), (1, 3), (1, 4), (1, 5), (1, 6), (1, 7), (1, 8), (1, 9), (1, 10), (1, 11), (1, 12), (1, 13), (1, 14), (1, 15), (1, 16), (1, 17), (1, 18), (1, 19), (1, 20), (1, 21), (1, 22), (1, 23), (1, 24), (1, 25), (1, 26), (1, 27), (1, 28), (1, 29), (1, 30), (1, 31), (2, 0), (2, 1), (2, 2), (2, 3), (2, 4), (2, 5), (2, 6), (2, 7), (2, 8), (2, 9), (2, 10), (2, 11), (2, 12), (2, 13), (2, 14), (2, 15), (2, 16), (2, 17), (2, 18), (2, 19), (2, 20), (2, 21), (2, 22), (2, 23), (2, 26), (2, 27), (2, 28), (2, 29), (2, 30), (2, 31), (3, 0), (3, 1), (3, 2), (3, 3), (3, 4), (3, 5), (3, 6)] (by rfl) (by decide +kernel)) (goodIn_sub (fun _ h => List.mem_cons_of_mem _ (List.mem_append_right _ h)) (by decide +kernel))
set_option maxRecDepth 20000 in
theorem gL_isSure_X1_isSure : GoodIn wsL_isSure (wsV RL 103 RX1 yX1_isSure wsX1_isSure) := goodIn_app (goodIn_of _ (by decide +kernel)) ggL_isSure_X1_isSure
theorem dL_isSure_0 : decode cL_isSure 0 = .ok (.aload_n 3, 1) := by decide +kernel
theorem dL_isSure_1 : decode cL_isSure 1 = .ok (.aload_n 0, 1) := by decide +kernel
theorem dL_isSure_2 : decode cL_isSure 2 = .ok (.iload_n 1, 1) := by decide +kernel
theorem dL_isSure_3 : decode cL_isSure 3 = .ok (.iload_n 2, 1) := by decide +kernel
theorem dL_isSure_4 : decode cL_isSure 4 = .ok (.invokevirtual 103, 3) := by decide +kernel
theorem dL_isSure_7 : decode cL_isSure 7 = .ok (.ifCond .eq 7, 3) := by decide +kernel
theorem dL_isSure_10 : decode cL_isSure 10 = .ok (.lconst 1, 1) := by decide +kernel
theorem dL_isSure_11 : decode cL_isSure 11 = .ok (.goto 4, 3) := by decide +kernel
theorem dL_isSure_14 : decode cL_isSure 14 = .ok (.lconst 0, 1) := by decide +kernel
theorem dL_isSure_15 : decode cL_isSure 15 = .ok (.putfield 13, 3) := by decide +kernel
theorem dL_isSure_18 : decode cL_isSure 18 = .ok (.goto 7, 3) := by decide +kernel
theorem dL_isSure_21 : decode cL_isSure 21 = .ok (.astore 4, 2) := by decide +kernel
theorem dL_isSure_23 : decode cL_isSure 23 = .ok (.iconst 1, 1) := by decide +kernel
theorem dL_isSure_24 : decode cL_isSure 24 = .ok (.ireturn, 1) := by decide +kernel
theorem dL_isSure_25 : decode cL_isSure 25 = .ok (.iconst 0, 1) := by decide +kernel
theorem dL_isSure_26 : decode cL_isSure 26 = .ok (.ireturn, 1) := by decide +kernel
set_option maxRecDepth 20000 in
theorem ggL_play_X1_play : GoodIn wsL_play wsX1_play := goodIn_ca (goodIn_ca (goodIn_rc _ [(0, 7), (0, 8), (0, 9), (0, 10), (0, 11), (0, 12), (0, 13), (0, 14), (0, 6), (0, 15), (0, 16), (0, 17), (0, 18), (0, 19), (0, 20), (0, 21), (0, 22), (0, 23), (0, 24), (0, 25), (0, 26), (0, 27), (0, 28), (0, 29), (0, 30), (0, 31), (1, 0), (1, 1), (1, 2), (1, 3), (1, 4), (1, 5), (1, 6), (1, 7), (1, 8), (1, 9), (1, 10), (1, 11), (1, 12), (1, 13), (1, 14), (1, 15), (1, 16), (1, 17), (1, 18), (1, 19), (1, 20), (1, 21), (1, 22), (1, 23), (1, 24), (1, 25), (1, 26), (1, 27), (1, 28), (1, 29), (1, 30), (1, 31), (2, 0), (2, 1), (2, 2), (2, 3), (2, 4), (2, 5), (2, 6), (2, 7), (2, 8), (2, 9), (2, 10), (2, 11), (2, 12), (2, 13), (2, 14), (2, 15), (2, 16), (2, 17), (2, 18), (2, 19), (2, 20), (2, 21), (2, 22), (2, 23), (2, 24), (2, 25), (2, 26), (2, 27), (2, 28), (2, 29), (2, 30), (2, 31), (3, 0), (3, 1), (3, 2), (3, 3), (3, 4), (3, 5), (3, 6), (3, 7), (3, 8), (3, 9), (3, 10), (3, 11), (3, 12), (3, 13), (3, 14), (3, 15), (3, 16), (3, 17), (3, 18), (3, 19), (3, 20), (3, 21), (3, 22), (3, 23), (3, 24), (3, 25), (3, 26), (3, 27), (3, 28), (3, 29), (3, 30), (3, 31), (4, 0), (4, 1), (4, 2), (4, 3), (4, 4), (4, 5), (4, 6), (4, 7), (4, 8), (4, 9), (4, 10), (4, 11), (4, 12), (4, 13), (4, 14), (4, 15), (4, 16), (4, 17), (4, 18), (4, 19), (4, 20), (4, 21), (4, 22), (4, 23), (4, 24), (4, 25), (4, 26), (4, 27), (4, 28), (4, 29), (4, 30), (4, 31), (5, 0), (5, 1), (5, 2), (5, 3), (5, 4), (5, 5), (5, 6), (5, 7), (5, 8), (5, 9), (5, 10), (5, 11), (5, 12), (5, 13), (5, 14), (5, 15), (5, 16), (5, 17), (5, 18), (5, 19), (5, 20), (5, 21), (5, 22), (5, 23), (5, 24), (5, 25), (5, 26), (5, 27), (5, 28), (5, 29), (5, 30), (5, 31), (6, 0), (6, 1), (6, 2), (6, 3), (6, 4), (6, 5), (6, 6), (6, 7), (6, 8), (6, 9), (6, 10), (6, 11), (6, 12), (6, 13), (6, 14), (6, 15), (6, 16), (6, 17), (6, 18), (6, 19), (6, 20), (6, 21), (6, 22), (6, 23), (6, 24), (6, 25), (6, 26), (6, 27), (6, 28), (6, 29), (6, 30), (6, 31), (7, 0), (7, 1), (7, 2), (7, 3), (7, 4), (7, 5), (7, 6), (7, 7), (7, 8), (7, 9), (7, 10), (7, 11), (7, 12), (7, 13), (7, 14), (7, 15), (7, 16), (7, 17), (7, 18), (7, 19), (7, 20), (7, 21), (7, 22), (7, 23), (7, 24), (7, 25), (7, 26), (7, 27), (7, 28), (7, 29), (7, 30), (7, 31), (8, 0), (8, 1), (8, 2), (8, 3), (8, 4), (8, 5), (8, 6), (8, 7), (8, 8), (8, 9), (8, 10), (8, 11), (8, 12), (8, 13), (8, 14), (8, 15), (8, 16), (8, 17), (8, 18), (8, 19), (8, 20), (8, 21), (8, 22), (8, 23), (8, 24), (8, 25), (8, 26), (8, 27), (8, 28), (8, 29), (8, 30), (8, 31), (9, 0), (9, 1), (9, 2), (9, 3), (9, 4), (9, 5), (9, 6), (9, 7), (9, 8), (9, 9), (9, 10), (9, 11), (9, 12), (9, 13), (9, 14), (9, 15), (9, 16), (9, 17), (9, 18), (9, 19), (9, 20), (9, 21), (9, 22), (9, 23), (9, 24), (9, 27), (9, 28), (9, 29), (9, 30), (9, 31), (10, 0), (10, 1), (10, 2), (10, 3), (10, 4), (10, 5), (10, 6), (10, 7), (10, 8), (10, 9), (10, 10), (10, 11), (10, 12), (10, 13), (10, 14), (10, 15)] (by rfl) (by decide +kernel)) (goodIn_sub (fun _ h => List.mem_cons_of_mem _ (List.mem_append_left _ (List.mem_append_right _ h))) (by decide +kernel))) (goodIn_sub (fun _ h => List.mem_cons_of_mem _ (List.mem_append_right _ h)) (by decide +kernel))
set_option maxRecDepth 20000 in
theorem gL_play_X1_play : GoodIn wsL_play (wsV RL 106 RX1 yX1_play wsX1_play) := goodIn_app (goodIn_of _ (by decide +kernel)) ggL_play_X1_play
theorem dL_play_0 : decode cL_play 0 = .ok (.aload_n 3, 1) := by decide +kernel
theorem dL_play_1 : decode cL_play 1 = .ok (.aload_n 0, 1) := by decide +kernel
theorem dL_play_2 : decode cL_play 2 = .ok (.iload_n 1, 1) := by decide +kernel
theorem dL_play_3 : decode cL_play 3 = .ok (.iload_n 2, 1) := by decide +kernel
theorem dL_play_4 : decode cL_play 4 = .ok (.invokevirtual 106, 3) := by decide +kernel
theorem dL_play_7 : decode cL_play 7 = .ok (.putfield 68, 3) := by decide +kernel
theorem dL_play_10 : decode cL_play 10 = .ok (.goto 11, 3) := by decide +kernel
theorem dL_play_13 : decode cL_play 13 = .ok (.astore 4, 2) := by decide +kernel
theorem dL_play_15 : decode cL_play 15 = .ok (.iconst 1, 1) := by decide +kernel
theorem dL_play_16 : decode cL_play 16 = .ok (.ireturn, 1) := by decide +kernel
theorem dL_play_17 : decode cL_play 17 = .ok (.astore 4, 2) := by decide +kernel
theorem dL_play_19 : decode cL_play 19 = .ok (.iconst 2, 1) := by decide +kernel
theorem dL_play_20 : decode cL_play 20 = .ok (.ireturn, 1) := by decide +kernel
theorem dL_play_21 : decode cL_play 21 = .ok (.iconst 0, 1) := by decide +kernel
theorem dL_play_22 : decode cL_play 22 = .ok (.ireturn, 1) := by decide +kernel
set_option maxRecDepth 20000 in
theorem ggL_choices_X1_choices : GoodIn wsL_choices wsX1_choices := goodIn_ca (goodIn_rc _ [(0, 6), (0, 7), (0, 8), (0, 9), (0, 5), (0, 10), (0, 11), (0, 12), (0, 13), (0, 14), (0, 15), (0, 16), (0, 17), (0, 18), (0, 19), (0, 20), (0, 21), (0, 22), (0, 23), (0, 24), (0, 25), (0, 26), (0, 27), (0, 28), (0, 29), (0, 30), (0, 31), (1, 0), (1, 1), (1, 2), (1, 3), (1, 4), (1, 5), (1, 6), (1, 9), (1, 10), (1, 11), (1, 12), (1, 13), (1, 14), (1, 15), (1, 16), (1, 17), (1, 18), (1, 19), (1, 20), (1, 21)] (by rfl) (by decide +kernel)) (goodIn_sub (fun _ h => List.mem_cons_of_mem _ (List.mem_append_right _ h)) (by decide +kernel))
set_option maxRecDepth 20000 in
theorem gL_choices_X1_choices : GoodIn wsL_choices (wsV RL 110 RX1 yX1_choices wsX1_choices) := goodIn_app (goodIn_of _ (by decide +kernel)) ggL_choices_X1_choices
theorem dL_choices_0 : decode cL_choices 0 = .ok (.aload_n 2, 1) := by decide +kernel
theorem dL_choices_1 : decode cL_choices 1 = .ok (.aload_n 0, 1) := by decide +kernel
theorem dL_choices_2 : decode cL_choices 2 = .ok (.iload_n 1, 1) := by decide +kernel
theorem dL_choices_3 : decode cL_choices 3 = .ok (.invokevirtual 110, 3) := by decide +kernel
theorem dL_choices_6 : decode cL_choices 6 = .ok (.i2l, 1) := by decide +kernel
theorem dL_choices_7 : decode cL_choices 7 = .ok (.putfield 13, 3) := by decide +kernel
theorem dL_choices_10 : decode cL_choices 10 = .ok (.goto 6, 3) := by decide +kernel
theorem dL_choices_13 : decode cL_choices 13 = .ok (.astore_n 3, 1) := by decide +kernel
theorem dL_choices_14 : decode cL_choices 14 = .ok (.iconst 1, 1) := by decide +kernel
theorem dL_choices_15 : decode cL_choices 15 = .ok (.ireturn, 1) := by decide +kernel
theorem dL_choices_16 : decode cL_choices 16 = .ok (.iconst 0, 1) := by decide +kernel
theorem dL_choices_17 : decode cL_choices 17 = .ok (.ireturn, 1) := by decide +kernel
set_option maxRecDepth 20000 in
theorem ggL_tried_X1_tried : GoodIn wsL_tried wsX1_tried := goodIn_ca (goodIn_rc _ [(0, 6), (0, 7), (0, 8), (0, 9), (0, 10), (0, 5), (0, 11), (0, 12), (0, 13), (0, 14), (0, 15), (0, 16), (0, 17), (0, 18), (0, 19), (0, 20), (0, 21), (0, 22), (0, 23), (0, 24), (0, 25), (0, 26), (0, 27), (0, 28), (0, 29), (0, 30), (0, 31), (1, 0), (1, 1), (1, 2), (1, 3), (1, 4), (1, 5), (1, 6), (1, 7), (1, 8), (1, 9), (1, 10), (1, 11), (1, 12), (1, 13), (1, 14), (1, 15), (1, 16), (1, 17), (1, 18), (1, 19), (1, 20), (1, 21), (1, 22), (1, 23), (1, 24), (1, 25), (1, 26), (1, 27), (1, 28), (1, 29), (1, 30), (1, 31), (2, 0), (2, 1), (2, 2), (2, 3), (2, 4), (2, 5), (2, 6), (2, 7), (2, 8), (2, 9), (2, 10), (2, 11), (2, 12), (2, 13), (2, 14), (2, 15), (2, 16), (2, 17), (2, 18), (2, 19), (2, 20), (2, 21), (2, 22), (2, 23), (2, 24), (2, 25), (2, 26), (2, 27), (2, 30), (2, 31), (3, 0), (3, 1), (3, 2), (3, 3), (3, 4), (3, 5), (3, 6), (3, 7), (3, 8), (3, 9), (3, 10)] (by rfl) (by decide +kernel)) (goodIn_sub (fun _ h => List.mem_cons_of_mem _ (List.mem_append_right _ h)) (by decide +kernel))
set_option maxRecDepth 20000 in
theorem gL_tried_X1_tried : GoodIn wsL_tried (wsV RL 113 RX1 yX1_tried wsX1_tried) := goodIn_app (goodIn_of _ (by decide +kernel)) ggL_tried_X1_tried
theorem dL_tried_0 : decode cL_tried 0 = .ok (.aload_n 3, 1) := by decide +kernel
theorem dL_tried_1 : decode cL_tried 1 = .ok (.aload_n 0, 1) := by decide +kernel
theorem dL_tried_2 : decode cL_tried 2 = .ok (.iload_n 1, 1) := by decide +kernel
theorem dL_tried_3 : decode cL_tried 3 = .ok (.iload_n 2, 1) := by decide +kernel
theorem dL_tried_4 : decode cL_tried 4 = .ok (.invokevirtual 113, 3) := by decide +kernel
theorem dL_tried_7 : decode cL_tried 7 = .ok (.i2l, 1) := by decide +kernel
theorem dL_tried_8 : decode cL_tried 8 = .ok (.putfield 13, 3) := by decide +kernel
theorem dL_tried_11 : decode cL_tried 11 = .ok (.goto 7, 3) := by decide +kernel
theorem dL_tried_14 : decode cL_tried 14 = .ok (.astore 4, 2) := by decide +kernel
theorem dL_tried_16 : decode cL_tried 16 = .ok (.iconst 1, 1) := by decide +kernel
theorem dL_tried_17 : decode cL_tried 17 = .ok (.ireturn, 1) := by decide +kernel
theorem dL_tried_18 : decode cL_tried 18 = .ok (.iconst 0, 1) := by decide +kernel
theorem dL_tried_19 : decode cL_tried 19 = .ok (.ireturn, 1) := by decide +kernel
set_option maxRecDepth 20000 in
theorem ggL_withGoal_X1_withGoal : GoodIn wsL_withGoal wsX1_withGoal := goodIn_ca (goodIn_ca (goodIn_rc _ [(0, 7), (0, 8), (0, 9), (0, 10), (0, 11), (0, 12), (0, 6), (0, 13), (0, 14), (0, 15), (0, 16), (0, 17), (0, 18), (0, 19), (0, 20), (0, 21), (0, 22), (0, 23), (0, 24), (0, 25), (0, 26), (0, 27), (0, 28), (0, 29), (0, 30), (0, 31), (1, 0), (1, 1), (1, 2), (1, 3), (1, 4), (1, 5), (1, 6), (1, 7), (1, 8), (1, 9), (1, 10), (1, 11), (1, 12), (1, 13), (1, 14), (1, 15), (1, 16), (1, 17), (1, 18), (1, 19), (1, 20), (1, 21), (1, 22), (1, 23), (1, 24), (1, 25), (1, 26), (1, 27), (1, 28), (1, 29), (1, 30), (1, 31), (2, 0), (2, 1), (2, 2), (2, 5), (2, 6), (2, 7), (2, 8), (2, 9), (2, 10), (2, 11), (2, 12), (2, 13), (2, 14), (2, 15), (2, 16), (2, 17)] (by rfl) (by decide +kernel)) (goodIn_sub (fun _ h => List.mem_cons_of_mem _ (List.mem_append_left _ (List.mem_append_right _ h))) (by decide +kernel))) (goodIn_sub (fun _ h => List.mem_cons_of_mem _ (List.mem_append_right _ h)) (by decide +kernel))
set_option maxRecDepth 20000 in
theorem gL_withGoal_X1_withGoal : GoodIn wsL_withGoal (wsV RL 116 RX1 yX1_withGoal wsX1_withGoal) := goodIn_app (goodIn_of _ (by decide +kernel)) ggL_withGoal_X1_withGoal
theorem dL_withGoal_0 : decode cL_withGoal 0 = .ok (.aload 4, 2) := by decide +kernel
theorem dL_withGoal_2 : decode cL_withGoal 2 = .ok (.aload_n 0, 1) := by decide +kernel
theorem dL_withGoal_3 : decode cL_withGoal 3 = .ok (.iload_n 1, 1) := by decide +kernel
theorem dL_withGoal_4 : decode cL_withGoal 4 = .ok (.iload_n 2, 1) := by decide +kernel
theorem dL_withGoal_5 : decode cL_withGoal 5 = .ok (.iload_n 3, 1) := by decide +kernel
theorem dL_withGoal_6 : decode cL_withGoal 6 = .ok (.invokevirtual 116, 3) := by decide +kernel
theorem dL_withGoal_9 : decode cL_withGoal 9 = .ok (.i2l, 1) := by decide +kernel
theorem dL_withGoal_10 : decode cL_withGoal 10 = .ok (.putfield 13, 3) := by decide +kernel
theorem dL_withGoal_13 : decode cL_withGoal 13 = .ok (.goto 11, 3) := by decide +kernel
theorem dL_withGoal_16 : decode cL_withGoal 16 = .ok (.astore 5, 2) := by decide +kernel
theorem dL_withGoal_18 : decode cL_withGoal 18 = .ok (.iconst 1, 1) := by decide +kernel
theorem dL_withGoal_19 : decode cL_withGoal 19 = .ok (.ireturn, 1) := by decide +kernel
theorem dL_withGoal_20 : decode cL_withGoal 20 = .ok (.astore 5, 2) := by decide +kernel
theorem dL_withGoal_22 : decode cL_withGoal 22 = .ok (.iconst 2, 1) := by decide +kernel
theorem dL_withGoal_23 : decode cL_withGoal 23 = .ok (.ireturn, 1) := by decide +kernel
theorem dL_withGoal_24 : decode cL_withGoal 24 = .ok (.iconst 0, 1) := by decide +kernel
theorem dL_withGoal_25 : decode cL_withGoal 25 = .ok (.ireturn, 1) := by decide +kernel
set_option maxRecDepth 20000 in
theorem ggL_withWay_X1_withWay : GoodIn wsL_withWay wsX1_withWay := goodIn_ca (goodIn_ca (goodIn_rc _ [(0, 7), (0, 8), (0, 9), (0, 10), (0, 11), (0, 12), (0, 6), (0, 13), (0, 14), (0, 15), (0, 16), (0, 17), (0, 18), (0, 19), (0, 20), (0, 21), (0, 22), (0, 23), (0, 24), (0, 25), (0, 26), (0, 27), (0, 28), (0, 29), (0, 30), (0, 31), (1, 0), (1, 1), (1, 2), (1, 3), (1, 4), (1, 5), (1, 6), (1, 7), (1, 8), (1, 9), (1, 10), (1, 11), (1, 12), (1, 13), (1, 14), (1, 15), (1, 16), (1, 17), (1, 18), (1, 19), (1, 20), (1, 21), (1, 22), (1, 23), (1, 24), (1, 25), (1, 26), (1, 27), (1, 28), (1, 29), (1, 30), (1, 31), (2, 0), (2, 1), (2, 2), (2, 3), (2, 4), (2, 5), (2, 6), (2, 7), (2, 8), (2, 9), (2, 10), (2, 13), (2, 14), (2, 15), (2, 16), (2, 17), (2, 18), (2, 19), (2, 20), (2, 21), (2, 22), (2, 23), (2, 24), (2, 25)] (by rfl) (by decide +kernel)) (goodIn_sub (fun _ h => List.mem_cons_of_mem _ (List.mem_append_left _ (List.mem_append_right _ h))) (by decide +kernel))) (goodIn_sub (fun _ h => List.mem_cons_of_mem _ (List.mem_append_right _ h)) (by decide +kernel))
set_option maxRecDepth 20000 in
theorem gL_withWay_X1_withWay : GoodIn wsL_withWay (wsV RL 119 RX1 yX1_withWay wsX1_withWay) := goodIn_app (goodIn_of _ (by decide +kernel)) ggL_withWay_X1_withWay
theorem dL_withWay_0 : decode cL_withWay 0 = .ok (.aload 5, 2) := by decide +kernel
theorem dL_withWay_2 : decode cL_withWay 2 = .ok (.aload_n 0, 1) := by decide +kernel
theorem dL_withWay_3 : decode cL_withWay 3 = .ok (.iload_n 1, 1) := by decide +kernel
theorem dL_withWay_4 : decode cL_withWay 4 = .ok (.iload_n 2, 1) := by decide +kernel
theorem dL_withWay_5 : decode cL_withWay 5 = .ok (.iload_n 3, 1) := by decide +kernel
theorem dL_withWay_6 : decode cL_withWay 6 = .ok (.iload 4, 2) := by decide +kernel
theorem dL_withWay_8 : decode cL_withWay 8 = .ok (.invokevirtual 119, 3) := by decide +kernel
theorem dL_withWay_11 : decode cL_withWay 11 = .ok (.i2l, 1) := by decide +kernel
theorem dL_withWay_12 : decode cL_withWay 12 = .ok (.putfield 13, 3) := by decide +kernel
theorem dL_withWay_15 : decode cL_withWay 15 = .ok (.goto 11, 3) := by decide +kernel
theorem dL_withWay_18 : decode cL_withWay 18 = .ok (.astore 6, 2) := by decide +kernel
theorem dL_withWay_20 : decode cL_withWay 20 = .ok (.iconst 1, 1) := by decide +kernel
theorem dL_withWay_21 : decode cL_withWay 21 = .ok (.ireturn, 1) := by decide +kernel
theorem dL_withWay_22 : decode cL_withWay 22 = .ok (.astore 6, 2) := by decide +kernel
theorem dL_withWay_24 : decode cL_withWay 24 = .ok (.iconst 2, 1) := by decide +kernel
theorem dL_withWay_25 : decode cL_withWay 25 = .ok (.ireturn, 1) := by decide +kernel
theorem dL_withWay_26 : decode cL_withWay 26 = .ok (.iconst 0, 1) := by decide +kernel
theorem dL_withWay_27 : decode cL_withWay 27 = .ok (.ireturn, 1) := by decide +kernel
set_option maxRecDepth 20000 in
theorem ggL_house_X1_house : GoodIn wsL_house wsX1_house := goodIn_ca (goodIn_rc _ [(0, 6), (0, 7), (0, 8), (0, 9), (0, 10), (0, 11), (0, 5), (0, 12), (0, 13), (0, 14), (0, 17), (0, 18), (0, 19), (0, 20), (0, 21), (0, 22), (0, 23)] (by rfl) (by decide +kernel)) (goodIn_sub (fun _ h => List.mem_cons_of_mem _ (List.mem_append_right _ h)) (by decide +kernel))
set_option maxRecDepth 20000 in
theorem gL_house_X1_house : GoodIn wsL_house (wsV RL 123 RX1 yX1_house wsX1_house) := goodIn_app (goodIn_of _ (by decide +kernel)) ggL_house_X1_house
theorem dL_house_0 : decode cL_house 0 = .ok (.aload_n 2, 1) := by decide +kernel
theorem dL_house_1 : decode cL_house 1 = .ok (.aload_n 0, 1) := by decide +kernel
theorem dL_house_2 : decode cL_house 2 = .ok (.iload_n 1, 1) := by decide +kernel
theorem dL_house_3 : decode cL_house 3 = .ok (.invokevirtual 123, 3) := by decide +kernel
theorem dL_house_6 : decode cL_house 6 = .ok (.i2l, 1) := by decide +kernel
theorem dL_house_7 : decode cL_house 7 = .ok (.putfield 13, 3) := by decide +kernel
theorem dL_house_10 : decode cL_house 10 = .ok (.goto 6, 3) := by decide +kernel
theorem dL_house_13 : decode cL_house 13 = .ok (.astore_n 3, 1) := by decide +kernel
theorem dL_house_14 : decode cL_house 14 = .ok (.iconst 1, 1) := by decide +kernel
theorem dL_house_15 : decode cL_house 15 = .ok (.ireturn, 1) := by decide +kernel
theorem dL_house_16 : decode cL_house 16 = .ok (.iconst 0, 1) := by decide +kernel
theorem dL_house_17 : decode cL_house 17 = .ok (.ireturn, 1) := by decide +kernel
set_option maxRecDepth 20000 in
theorem ggL_law_X1_init : GoodIn wsL_law wsX1_init := goodIn_rc _ [(0, 11), (0, 12), (0, 13), (0, 14), (0, 15), (0, 16), (0, 17), (0, 18), (0, 19), (0, 20), (0, 21), (0, 22), (0, 23), (0, 24), (0, 25), (0, 26), (32, 17), (32, 18), (32, 19), (32, 20), (32, 21), (32, 22), (31, 29), (31, 30), (31, 31), (32, 0), (32, 1), (32, 2), (32, 3)] (by rfl) (by decide +kernel)
set_option maxRecDepth 20000 in
theorem gL_law_X1_init : GoodIn wsL_law (wsX1_init) := ggL_law_X1_init
set_option maxRecDepth 20000 in
theorem ggL_law_X3_init : GoodIn wsL_law wsX3_init := goodIn_rc _ [(0, 29), (0, 30), (0, 13), (0, 14), (0, 31), (1, 0), (1, 1), (0, 5), (1, 2), (1, 3), (1, 4), (1, 5), (0, 24), (1, 6), (1, 7), (1, 8), (1, 9), (32, 4), (32, 5), (32, 6), (32, 7), (32, 8), (32, 9), (32, 10), (32, 11), (32, 12), (32, 13), (32, 14)] (by rfl) (by decide +kernel)
set_option maxRecDepth 20000 in
theorem gL_law_X3_init : GoodIn wsL_law (wsX3_init) := ggL_law_X3_init
set_option maxRecDepth 20000 in
theorem ggL_law_X2_init : GoodIn wsL_law wsX2_init := goodIn_rc _ [(1, 11), (1, 12), (0, 13), (0, 14)] (by rfl) (by decide +kernel)
set_option maxRecDepth 20000 in
theorem gL_law_X2_init_n130 : GoodIn wsL_law (wsX2_init) := ggL_law_X2_init
set_option maxRecDepth 20000 in
theorem ggL_law_L_places : GoodIn wsL_law wsL_places := goodIn_ca (goodIn_rc _ [(1, 16), (1, 17), (1, 18), (1, 19), (1, 20), (0, 2), (1, 21), (0, 18), (1, 22), (1, 23), (1, 24), (1, 25), (1, 26), (1, 27), (1, 28), (1, 29), (1, 30), (1, 31), (2, 0), (0, 17), (2, 1), (0, 26), (2, 2), (2, 3), (2, 4), (2, 5), (0, 25), (32, 15), (32, 16), (31, 29), (31, 30), (31, 31), (32, 0), (32, 1), (32, 2), (32, 3), (32, 17), (32, 18), (32, 19), (32, 20), (32, 21), (32, 22)] (by rfl) (by decide +kernel)) (goodIn_sub (fun _ h => List.mem_append_left _ (List.mem_append_right _ h)) (by decide +kernel))
set_option maxRecDepth 20000 in
theorem gL_law_L_places : GoodIn wsL_law (va_wsS RL 131 yL_places wsL_places) := goodIn_app (goodIn_of _ (by decide +kernel)) ggL_law_L_places
set_option maxRecDepth 20000 in
theorem ggL_law_X3_places : GoodIn wsL_law wsX3_places := goodIn_rc _ [(2, 9), (1, 3), (2, 10), (2, 11), (2, 12), (0, 5), (2, 13), (2, 14), (2, 15), (2, 16), (2, 17), (2, 18), (0, 31), (1, 0), (1, 1), (1, 2), (1, 4), (1, 5), (0, 24), (1, 6), (1, 7), (1, 8), (1, 9), (2, 19), (2, 20), (2, 21), (2, 22), (2, 23), (32, 4), (32, 5), (32, 6), (32, 7), (32, 8), (32, 9), (32, 10), (32, 11), (32, 12), (32, 13), (32, 14)] (by rfl) (by decide +kernel)
set_option maxRecDepth 20000 in
theorem gL_law_X3_places : GoodIn wsL_law (wsV RL 136 RX3 yX3_places wsX3_places) := goodIn_app (goodIn_of _ (by decide +kernel)) ggL_law_X3_places
set_option maxRecDepth 20000 in
theorem ggL_law_L_give : GoodIn wsL_law wsL_give := goodIn_ca (goodIn_ca (goodIn_rc _ [(2, 26), (2, 27), (1, 17), (2, 28), (2, 29), (2, 30), (0, 2), (2, 31), (0, 18), (1, 24), (3, 0), (3, 1), (3, 2), (3, 3), (3, 4), (3, 5), (3, 6), (3, 7), (3, 8), (1, 25), (1, 26), (1, 27), (1, 28), (1, 29), (3, 9), (3, 10), (3, 11), (0, 17), (3, 12), (2, 2), (3, 13), (3, 14), (3, 15), (3, 16), (32, 15), (32, 16), (31, 29), (31, 30), (31, 31), (32, 0), (32, 1), (32, 2), (32, 3), (32, 17), (32, 18), (32, 19), (32, 20), (32, 21), (32, 22)] (by rfl) (by decide +kernel)) (goodIn_sub (fun _ h => List.mem_append_right _ h) (by decide +kernel))) (goodIn_sub (fun _ h => List.mem_append_left _ (List.mem_append_right _ h)) (by decide +kernel))
set_option maxRecDepth 20000 in
theorem gL_law_L_give : GoodIn wsL_law (va_wsS RL 137 yL_give wsL_give) := goodIn_app (goodIn_of _ (by decide +kernel)) ggL_law_L_give
set_option maxRecDepth 20000 in
theorem ggL_law_X3_give : GoodIn wsL_law wsX3_give := goodIn_rc _ [(3, 20), (1, 4), (3, 21), (3, 22), (3, 23), (0, 5), (3, 24), (1, 3), (3, 25), (3, 26), (3, 27), (2, 14), (2, 15), (2, 16), (2, 17), (2, 18), (3, 28), (3, 29), (3, 30), (3, 31), (2, 19), (2, 20), (2, 21), (2, 22), (2, 23), (32, 4), (32, 5), (32, 6), (32, 7), (32, 8), (32, 9), (32, 10), (32, 11), (32, 12), (32, 13), (32, 14)] (by rfl) (by decide +kernel)
set_option maxRecDepth 20000 in
theorem gL_law_X3_give : GoodIn wsL_law (wsV RL 140 RX3 yX3_give wsX3_give) := goodIn_app (goodIn_of _ (by decide +kernel)) ggL_law_X3_give
set_option maxRecDepth 20000 in
theorem ggL_law_L_rank : GoodIn wsL_law wsL_rank := goodIn_ca (goodIn_ca (goodIn_rc _ [(4, 2), (2, 27), (1, 17), (4, 3), (4, 4), (4, 5), (0, 2), (4, 6), (0, 18), (1, 24), (3, 0), (3, 1), (3, 2), (3, 3), (3, 4), (3, 5), (1, 25), (1, 26), (1, 27), (1, 28), (1, 29), (4, 7), (4, 8), (4, 9), (0, 17), (4, 10), (2, 4), (2, 5), (4, 11), (4, 12), (4, 13), (4, 14), (4, 15), (4, 16), (32, 15), (32, 16), (31, 29), (31, 30), (31, 31), (32, 0), (32, 1), (32, 2), (32, 3), (32, 17), (32, 18), (32, 19), (32, 20), (32, 21), (32, 22)] (by rfl) (by decide +kernel)) (goodIn_sub (fun _ h => List.mem_append_right _ h) (by decide +kernel))) (goodIn_sub (fun _ h => List.mem_append_left _ (List.mem_append_right _ h)) (by decide +kernel))
set_option maxRecDepth 20000 in
theorem gL_law_L_rank : GoodIn wsL_law (va_wsS RL 141 yL_rank wsL_rank) := goodIn_app (goodIn_of _ (by decide +kernel)) ggL_law_L_rank
set_option maxRecDepth 20000 in
theorem ggL_law_X3_rank : GoodIn wsL_law wsX3_rank := goodIn_rc _ [(4, 20), (1, 6), (3, 21), (3, 22), (3, 23), (0, 5), (3, 24), (1, 3), (2, 14), (2, 15), (2, 16), (2, 17), (2, 18), (2, 19), (2, 20), (2, 21), (2, 22), (2, 23), (32, 4), (32, 5), (32, 6), (32, 7), (32, 8), (32, 9), (32, 10), (32, 11), (32, 12), (32, 13), (32, 14)] (by rfl) (by decide +kernel)
set_option maxRecDepth 20000 in
theorem gL_law_X3_rank : GoodIn wsL_law (wsV RL 143 RX3 yX3_rank wsX3_rank) := goodIn_app (goodIn_of _ (by decide +kernel)) ggL_law_X3_rank
set_option maxRecDepth 20000 in
theorem ggL_law_L_goal : GoodIn wsL_law wsL_goal := goodIn_ca (goodIn_rc _ [(4, 23), (1, 17), (4, 24), (4, 25), (4, 26), (0, 2), (4, 27), (0, 18), (1, 24), (4, 28), (4, 29), (4, 30), (4, 31), (5, 0), (5, 1), (5, 2), (0, 17), (5, 3), (0, 26), (1, 25), (1, 26), (1, 27), (1, 28), (1, 29), (32, 15), (32, 16), (31, 29), (31, 30), (31, 31), (32, 0), (32, 1), (32, 2), (32, 3), (32, 17), (32, 18), (32, 19), (32, 20), (32, 21), (32, 22)] (by rfl) (by decide +kernel)) (goodIn_sub (fun _ h => List.mem_append_left _ (List.mem_append_right _ h)) (by decide +kernel))
set_option maxRecDepth 20000 in
theorem gL_law_L_goal : GoodIn wsL_law (va_wsS RL 144 yL_goal wsL_goal) := goodIn_app (goodIn_of _ (by decide +kernel)) ggL_law_L_goal
set_option maxRecDepth 20000 in
theorem ggL_law_X3_goal : GoodIn wsL_law wsX3_goal := goodIn_rc _ [(5, 7), (1, 5), (5, 8), (5, 9), (5, 10), (0, 5), (5, 11), (1, 3), (2, 10), (2, 11), (2, 12), (2, 13), (2, 14), (2, 15), (2, 16), (2, 17), (2, 18), (2, 19), (2, 20), (2, 21), (2, 22), (2, 23), (32, 4), (32, 5), (32, 6), (32, 7), (32, 8), (32, 9), (32, 10), (32, 11), (32, 12), (32, 13), (32, 14)] (by rfl) (by decide +kernel)
set_option maxRecDepth 20000 in
theorem gL_law_X3_goal : GoodIn wsL_law (wsV RL 146 RX3 yX3_goal wsX3_goal) := goodIn_app (goodIn_of _ (by decide +kernel)) ggL_law_X3_goal
set_option maxRecDepth 20000 in
theorem ggL_law_L_way : GoodIn wsL_law wsL_way := goodIn_ca (goodIn_rc _ [(5, 14), (2, 27), (5, 15), (5, 16), (5, 17), (0, 2), (5, 18), (0, 18), (1, 24), (3, 0), (3, 1), (3, 2), (3, 3), (3, 4), (3, 5), (5, 19), (5, 20), (5, 21), (0, 17), (5, 22), (0, 25), (5, 23), (4, 11), (4, 12), (5, 24), (5, 25), (5, 26), (5, 27), (0, 26), (5, 28), (5, 29), (5, 30), (5, 31), (6, 0), (6, 1), (6, 2), (6, 3), (6, 4), (6, 5), (6, 6), (6, 7), (6, 8), (6, 9), (6, 10), (6, 11), (6, 12), (6, 13), (6, 14), (6, 15), (6, 16), (32, 15), (32, 16), (31, 29), (31, 30), (31, 31), (32, 0), (32, 1), (32, 2), (32, 3), (32, 17), (32, 18), (32, 19), (32, 20), (32, 21), (32, 22)] (by rfl) (by decide +kernel)) (goodIn_sub (fun _ h => List.mem_append_right _ h) (by decide +kernel))
set_option maxRecDepth 20000 in
theorem gL_law_L_way : GoodIn wsL_law (va_wsS RL 147 yL_way wsL_way) := goodIn_app (goodIn_of _ (by decide +kernel)) ggL_law_L_way
set_option maxRecDepth 20000 in
theorem ggL_law_X3_way : GoodIn wsL_law wsX3_way := goodIn_rc _ [(6, 20), (1, 7), (3, 21), (3, 22), (3, 23), (0, 5), (3, 24), (1, 3), (2, 10), (2, 11), (2, 12), (2, 13), (2, 14), (2, 15), (2, 16), (2, 17), (2, 18), (6, 21), (6, 22), (6, 23), (2, 19), (2, 20), (2, 21), (2, 22), (2, 23), (6, 24), (6, 25), (6, 26), (6, 27), (6, 28), (5, 30), (5, 31), (6, 0), (6, 1), (6, 2), (6, 3), (6, 29), (6, 30), (6, 31), (7, 0), (7, 1), (32, 4), (32, 5), (32, 6), (32, 7), (32, 8), (32, 9), (32, 10), (32, 11), (32, 12), (32, 13), (32, 14)] (by rfl) (by decide +kernel)
set_option maxRecDepth 20000 in
theorem gL_law_X3_way : GoodIn wsL_law (wsV RL 149 RX3 yX3_way wsX3_way) := goodIn_app (goodIn_of _ (by decide +kernel)) ggL_law_X3_way
set_option maxRecDepth 20000 in
theorem ggL_law_L_lose : GoodIn wsL_law wsL_lose := goodIn_ca (goodIn_rc _ [(7, 4), (2, 27), (7, 5), (7, 6), (7, 7), (0, 2), (7, 8), (0, 18), (1, 24), (3, 0), (3, 1), (3, 2), (3, 3), (3, 4), (3, 5), (5, 19), (5, 20), (5, 21), (0, 17), (5, 22), (0, 25), (5, 23), (4, 11), (4, 12), (7, 9), (7, 10), (7, 11), (7, 12), (5, 28), (6, 13), (6, 14), (6, 15), (6, 16), (32, 15), (32, 16), (31, 29), (31, 30), (31, 31), (32, 0), (32, 1), (32, 2), (32, 3), (32, 17), (32, 18), (32, 19), (32, 20), (32, 21), (32, 22)] (by rfl) (by decide +kernel)) (goodIn_sub (fun _ h => List.mem_append_right _ h) (by decide +kernel))
set_option maxRecDepth 20000 in
theorem gL_law_L_lose : GoodIn wsL_law (va_wsS RL 150 yL_lose wsL_lose) := goodIn_app (goodIn_of _ (by decide +kernel)) ggL_law_L_lose
set_option maxRecDepth 20000 in
theorem ggL_law_X3_lose : GoodIn wsL_law wsX3_lose := goodIn_rc _ [(7, 16), (1, 7), (3, 21), (3, 22), (3, 23), (0, 5), (3, 24), (1, 3), (2, 10), (2, 11), (2, 12), (2, 13), (2, 14), (2, 15), (2, 16), (2, 17), (2, 18), (6, 21), (6, 22), (6, 23), (2, 19), (2, 20), (2, 21), (2, 22), (2, 23), (32, 4), (32, 5), (32, 6), (32, 7), (32, 8), (32, 9), (32, 10), (32, 11), (32, 12), (32, 13), (32, 14)] (by rfl) (by decide +kernel)
set_option maxRecDepth 20000 in
theorem gL_law_X3_lose : GoodIn wsL_law (wsV RL 152 RX3 yX3_lose wsX3_lose) := goodIn_app (goodIn_of _ (by decide +kernel)) ggL_law_X3_lose
set_option maxRecDepth 20000 in
theorem ggL_law_L_circle : GoodIn wsL_law wsL_circle := goodIn_ca (goodIn_rc _ [(7, 19), (1, 17), (7, 20), (7, 21), (7, 22), (0, 2), (7, 23), (0, 18), (0, 19), (1, 24), (1, 25), (1, 26), (1, 27), (1, 28), (1, 29), (5, 24), (5, 25), (5, 26), (0, 17), (5, 27), (0, 26), (5, 28), (5, 20), (5, 21), (5, 22), (0, 25), (5, 29), (5, 30), (5, 31), (6, 0), (6, 1), (6, 2), (6, 3), (7, 24), (7, 25), (7, 26), (7, 27), (2, 2), (2, 3), (2, 4), (2, 5), (7, 28), (7, 29), (7, 30), (7, 31), (6, 9), (6, 10), (6, 11), (6, 12), (6, 13), (6, 14), (6, 15), (6, 16), (6, 4), (6, 5), (6, 6), (6, 7), (6, 8), (32, 15), (32, 16), (31, 29), (31, 30), (31, 31), (32, 0), (32, 1), (32, 2), (32, 3), (32, 17), (32, 18), (32, 19), (32, 20), (32, 21), (32, 22)] (by rfl) (by decide +kernel)) (goodIn_sub (fun _ h => List.mem_append_left _ (List.mem_append_right _ h)) (by decide +kernel))
set_option maxRecDepth 20000 in
theorem gL_law_L_circle : GoodIn wsL_law (va_wsS RL 153 yL_circle wsL_circle) := goodIn_app (goodIn_of _ (by decide +kernel)) ggL_law_L_circle
set_option maxRecDepth 20000 in
theorem ggL_law_X3_circle : GoodIn wsL_law wsX3_circle := goodIn_rc _ [(8, 3), (1, 3), (1, 7), (2, 10), (2, 11), (2, 12), (0, 5), (2, 13), (2, 14), (2, 15), (2, 16), (2, 17), (2, 18), (6, 21), (6, 22), (6, 23), (6, 24), (6, 25), (6, 26), (6, 27), (6, 28), (5, 30), (5, 31), (6, 0), (6, 1), (6, 2), (6, 3), (6, 29), (6, 30), (6, 31), (7, 0), (7, 1), (2, 19), (2, 20), (2, 21), (2, 22), (2, 23), (32, 4), (32, 5), (32, 6), (32, 7), (32, 8), (32, 9), (32, 10), (32, 11), (32, 12), (32, 13), (32, 14)] (by rfl) (by decide +kernel)
set_option maxRecDepth 20000 in
theorem gL_law_X3_circle : GoodIn wsL_law (wsV RL 155 RX3 yX3_circle wsX3_circle) := goodIn_app (goodIn_of _ (by decide +kernel)) ggL_law_X3_circle
set_option maxRecDepth 20000 in
theorem ggL_law_L_strew : GoodIn wsL_law wsL_strew := goodIn_ca (goodIn_rc _ [(8, 6), (1, 17), (8, 7), (8, 8), (8, 9), (0, 2), (8, 10), (0, 18), (1, 24), (1, 25), (1, 26), (1, 27), (1, 28), (1, 29), (1, 30), (1, 31), (2, 0), (0, 17), (2, 1), (0, 26), (2, 2), (2, 3), (2, 4), (2, 5), (0, 25), (3, 13), (3, 14), (3, 15), (3, 16), (4, 13), (4, 14), (4, 15), (4, 16), (7, 28), (7, 29), (7, 30), (7, 31), (6, 9), (6, 10), (6, 11), (6, 12), (5, 28), (5, 20), (5, 21), (5, 22), (6, 13), (6, 14), (6, 15), (6, 16), (5, 24), (5, 25), (5, 26), (5, 27), (5, 29), (5, 30), (5, 31), (6, 0), (6, 1), (6, 2), (6, 3), (32, 15), (32, 16), (31, 29), (31, 30), (31, 31), (32, 0), (32, 1), (32, 2), (32, 3), (32, 17), (32, 18), (32, 19), (32, 20), (32, 21), (32, 22)] (by rfl) (by decide +kernel)) (goodIn_sub (fun _ h => List.mem_append_left _ (List.mem_append_right _ h)) (by decide +kernel))
set_option maxRecDepth 20000 in
theorem gL_law_L_strew : GoodIn wsL_law (va_wsS RL 156 yL_strew wsL_strew) := goodIn_app (goodIn_of _ (by decide +kernel)) ggL_law_L_strew
set_option maxRecDepth 20000 in
theorem ggL_law_X3_strew : GoodIn wsL_law wsX3_strew := goodIn_rc _ [(8, 14), (1, 4), (1, 5), (1, 3), (1, 6), (1, 7), (2, 10), (2, 11), (2, 12), (0, 5), (2, 13), (2, 14), (2, 15), (2, 16), (2, 17), (2, 18), (6, 24), (6, 25), (6, 26), (6, 27), (6, 28), (5, 30), (5, 31), (6, 0), (6, 1), (6, 2), (6, 3), (2, 19), (2, 20), (2, 21), (2, 22), (2, 23), (32, 4), (32, 5), (32, 6), (32, 7), (32, 8), (32, 9), (32, 10), (32, 11), (32, 12), (32, 13), (32, 14)] (by rfl) (by decide +kernel)
set_option maxRecDepth 20000 in
theorem gL_law_X3_strew : GoodIn wsL_law (wsV RL 158 RX3 yX3_strew wsX3_strew) := goodIn_app (goodIn_of _ (by decide +kernel)) ggL_law_X3_strew
set_option maxRecDepth 20000 in
theorem ggL_law_X1_change : GoodIn wsL_law wsX1_change := goodIn_rc _ [(8, 18), (0, 18), (1, 24), (5, 0), (5, 1), (5, 2), (0, 17), (5, 3), (0, 26), (8, 19), (8, 20), (8, 21), (8, 22), (2, 2), (8, 23), (8, 24), (5, 30), (5, 31), (6, 0), (6, 1), (6, 2), (6, 3), (31, 29), (31, 30), (31, 31), (32, 0), (32, 1), (32, 2), (32, 3), (32, 17), (32, 18), (32, 19), (32, 20), (32, 21), (32, 22)] (by rfl) (by decide +kernel)
set_option maxRecDepth 20000 in
theorem gL_law_X1_change : GoodIn wsL_law (wsV RL 159 RX1 yX1_change wsX1_change) := goodIn_app (goodIn_of _ (by decide +kernel)) ggL_law_X1_change
set_option maxRecDepth 20000 in
theorem ggL_law_X3_change : GoodIn wsL_law wsX3_change := goodIn_rc _ [(8, 28), (2, 18), (1, 4), (1, 3), (5, 8), (5, 9), (5, 10), (0, 5), (5, 11), (6, 28), (5, 30), (5, 31), (6, 0), (6, 1), (6, 2), (6, 3), (2, 19), (2, 20), (2, 21), (2, 22), (2, 23), (32, 4), (32, 5), (32, 6), (32, 7), (32, 8), (32, 9), (32, 10), (32, 11), (32, 12), (32, 13), (32, 14)] (by rfl) (by decide +kernel)
set_option maxRecDepth 20000 in
theorem gL_law_X3_change : GoodIn wsL_law (wsV RL 163 RX3 yX3_change wsX3_change) := goodIn_app (goodIn_of _ (by decide +kernel)) ggL_law_X3_change
set_option maxRecDepth 20000 in
theorem ggL_law_L_stand : GoodIn wsL_law wsL_stand := goodIn_ca (goodIn_rc _ [(8, 31), (2, 27), (9, 0), (9, 1), (9, 2), (0, 2), (9, 3), (1, 22), (1, 23), (1, 24), (3, 0), (3, 1), (3, 2), (3, 3), (3, 4), (3, 5), (0, 18), (32, 15), (32, 16), (31, 29), (31, 30), (31, 31), (32, 0), (32, 1), (32, 2), (32, 3), (32, 17), (32, 18), (32, 19), (32, 20), (32, 21), (32, 22)] (by rfl) (by decide +kernel)) (goodIn_sub (fun _ h => List.mem_append_right _ h) (by decide +kernel))
set_option maxRecDepth 20000 in
theorem gL_law_L_stand : GoodIn wsL_law (va_wsS RL 164 yL_stand wsL_stand) := goodIn_app (goodIn_of _ (by decide +kernel)) ggL_law_L_stand
set_option maxRecDepth 20000 in
theorem ggL_law_X3_stand : GoodIn wsL_law wsX3_stand := goodIn_rc _ [(9, 7), (1, 8), (1, 9), (3, 21), (3, 22), (3, 23), (0, 5), (3, 24), (1, 3), (2, 10), (2, 11), (2, 12), (2, 13), (2, 14), (2, 15), (2, 16), (2, 17), (2, 18), (2, 19), (2, 20), (2, 21), (2, 22), (2, 23), (32, 4), (32, 5), (32, 6), (32, 7), (32, 8), (32, 9), (32, 10), (32, 11), (32, 12), (32, 13), (32, 14)] (by rfl) (by decide +kernel)
set_option maxRecDepth 20000 in
theorem gL_law_X3_stand : GoodIn wsL_law (wsV RL 166 RX3 yX3_stand wsX3_stand) := goodIn_app (goodIn_of _ (by decide +kernel)) ggL_law_X3_stand
set_option maxRecDepth 20000 in
theorem ggL_law_L_go : GoodIn wsL_law wsL_go := goodIn_ca (goodIn_rc _ [(9, 10), (2, 27), (9, 11), (9, 12), (9, 13), (0, 2), (9, 14), (0, 18), (1, 22), (1, 23), (3, 0), (3, 1), (3, 2), (3, 3), (3, 4), (3, 5), (5, 19), (5, 20), (5, 21), (0, 17), (5, 22), (0, 25), (5, 23), (4, 11), (4, 12), (6, 4), (6, 5), (6, 6), (6, 7), (6, 8), (9, 15), (9, 16), (9, 17), (9, 18), (1, 24), (32, 15), (32, 16), (31, 29), (31, 30), (31, 31), (32, 0), (32, 1), (32, 2), (32, 3), (32, 17), (32, 18), (32, 19), (32, 20), (32, 21), (32, 22)] (by rfl) (by decide +kernel)) (goodIn_sub (fun _ h => List.mem_append_right _ h) (by decide +kernel))
set_option maxRecDepth 20000 in
theorem gL_law_L_go : GoodIn wsL_law (va_wsS RL 167 yL_go wsL_go) := goodIn_app (goodIn_of _ (by decide +kernel)) ggL_law_L_go
set_option maxRecDepth 20000 in
theorem ggL_law_X3_go : GoodIn wsL_law wsX3_go := goodIn_rc _ [(9, 22), (1, 7), (1, 8), (1, 9), (3, 21), (3, 22), (3, 23), (0, 5), (3, 24), (1, 3), (2, 10), (2, 11), (2, 12), (2, 13), (2, 14), (2, 15), (2, 16), (2, 17), (2, 18), (6, 21), (6, 22), (6, 23), (6, 29), (6, 30), (6, 31), (7, 0), (7, 1), (2, 19), (2, 20), (2, 21), (2, 22), (2, 23), (32, 4), (32, 5), (32, 6), (32, 7), (32, 8), (32, 9), (32, 10), (32, 11), (32, 12), (32, 13), (32, 14)] (by rfl) (by decide +kernel)
set_option maxRecDepth 20000 in
theorem gL_law_X3_go : GoodIn wsL_law (wsV RL 169 RX3 yX3_go wsX3_go) := goodIn_app (goodIn_of _ (by decide +kernel)) ggL_law_X3_go
set_option maxRecDepth 20000 in
theorem ggL_law_L_follow : GoodIn wsL_law wsL_follow := goodIn_ca (goodIn_rc _ [(9, 25), (1, 17), (9, 26), (9, 27), (9, 28), (0, 2), (9, 29), (0, 18), (1, 22), (1, 25), (1, 26), (1, 27), (1, 28), (1, 29), (3, 9), (3, 10), (3, 11), (0, 17), (3, 12), (2, 2), (9, 30), (9, 31), (10, 0), (10, 1), (10, 2), (10, 3), (10, 4), (10, 5), (2, 3), (10, 6), (10, 7), (10, 8), (10, 9), (10, 10), (10, 11), (10, 12), (10, 13), (0, 26), (0, 25), (8, 23), (5, 1), (5, 2), (5, 3), (10, 14), (10, 15), (10, 16), (10, 17), (10, 18), (10, 19), (10, 20), (10, 21), (2, 4), (2, 5), (10, 22), (10, 23), (10, 24), (10, 25), (10, 26), (10, 27), (10, 28), (10, 29), (10, 30), (8, 20), (8, 21), (8, 22), (4, 11), (4, 12), (5, 28), (5, 20), (5, 21), (5, 22), (10, 31), (11, 0), (11, 1), (11, 2), (11, 3), (5, 23), (11, 4), (11, 5), (11, 6), (11, 7), (6, 4), (6, 5), (6, 6), (6, 7), (6, 8), (9, 15), (9, 16), (9, 17), (9, 18), (1, 23), (1, 24), (32, 15), (32, 16), (31, 29), (31, 30), (31, 31), (32, 0), (32, 1), (32, 2), (32, 3), (32, 17), (32, 18), (32, 19), (32, 20), (32, 21), (32, 22)] (by rfl) (by decide +kernel)) (goodIn_sub (fun _ h => List.mem_append_left _ (List.mem_append_right _ h)) (by decide +kernel))
set_option maxRecDepth 20000 in
theorem gL_law_L_follow : GoodIn wsL_law (va_wsS RL 170 yL_follow wsL_follow) := goodIn_app (goodIn_of _ (by decide +kernel)) ggL_law_L_follow
set_option maxRecDepth 20000 in
theorem ggL_law_X3_follow : GoodIn wsL_law wsX3_follow := goodIn_rc _ [(11, 11), (1, 8), (1, 9), (2, 10), (2, 11), (2, 12), (0, 5), (2, 13), (2, 14), (2, 15), (2, 16), (2, 17), (2, 18), (3, 28), (3, 29), (3, 30), (3, 31), (1, 4), (11, 12), (11, 13), (11, 14), (11, 15), (1, 5), (1, 3), (1, 7), (11, 16), (11, 17), (11, 18), (11, 19), (11, 20), (11, 21), (11, 22), (11, 23), (11, 24), (11, 25), (11, 26), (11, 27), (11, 28), (11, 29), (11, 30), (11, 31), (12, 0), (12, 1), (12, 2), (12, 3), (5, 8), (5, 9), (5, 10), (5, 11), (12, 4), (12, 5), (12, 6), (12, 7), (12, 8), (12, 9), (12, 10), (12, 11), (12, 12), (12, 13), (12, 14), (12, 15), (12, 16), (12, 17), (12, 18), (12, 19), (1, 6), (6, 21), (6, 22), (6, 23), (12, 20), (12, 21), (12, 22), (12, 23), (6, 29), (6, 30), (6, 31), (7, 0), (7, 1), (2, 19), (2, 20), (2, 21), (2, 22), (2, 23), (32, 4), (32, 5), (32, 6), (32, 7), (32, 8), (32, 9), (32, 10), (32, 11), (32, 12), (32, 13), (32, 14)] (by rfl) (by decide +kernel)
set_option maxRecDepth 20000 in
theorem gL_law_X3_follow : GoodIn wsL_law (wsV RL 172 RX3 yX3_follow wsX3_follow) := goodIn_app (goodIn_of _ (by decide +kernel)) ggL_law_X3_follow
set_option maxRecDepth 20000 in
theorem ggL_law_L_told : GoodIn wsL_law wsL_told := goodIn_ca (goodIn_rc _ [(12, 26), (1, 17), (12, 27), (12, 28), (12, 29), (0, 2), (12, 30), (0, 18), (1, 22), (1, 23), (1, 25), (1, 26), (1, 27), (1, 28), (1, 29), (5, 24), (5, 25), (5, 26), (0, 17), (5, 27), (0, 26), (5, 28), (5, 20), (5, 21), (5, 22), (0, 25), (5, 29), (5, 30), (5, 31), (6, 0), (6, 1), (6, 2), (6, 3), (8, 19), (8, 20), (8, 21), (8, 22), (2, 2), (8, 23), (5, 1), (5, 2), (5, 3), (12, 31), (13, 0), (13, 1), (13, 2), (32, 15), (32, 16), (31, 29), (31, 30), (31, 31), (32, 0), (32, 1), (32, 2), (32, 3), (32, 17), (32, 18), (32, 19), (32, 20), (32, 21), (32, 22)] (by rfl) (by decide +kernel)) (goodIn_sub (fun _ h => List.mem_append_left _ (List.mem_append_right _ h)) (by decide +kernel))
set_option maxRecDepth 20000 in
theorem gL_law_L_told : GoodIn wsL_law (va_wsS RL 173 yL_told wsL_told) := goodIn_app (goodIn_of _ (by decide +kernel)) ggL_law_L_told
set_option maxRecDepth 20000 in
theorem ggL_law_X3_told : GoodIn wsL_law wsX3_told := goodIn_rc _ [(13, 6), (2, 10), (2, 11), (2, 12), (0, 5), (2, 13), (2, 14), (2, 15), (2, 16), (2, 17), (2, 18), (13, 7), (13, 8), (13, 9), (13, 10), (1, 3), (1, 5), (1, 4), (1, 8), (1, 9), (6, 24), (6, 25), (6, 26), (6, 27), (1, 7), (6, 28), (5, 30), (5, 31), (6, 0), (6, 1), (6, 2), (6, 3), (13, 11), (13, 12), (13, 13), (13, 14), (32, 4), (32, 5), (32, 6), (32, 7), (32, 8), (32, 9), (32, 10), (32, 11), (32, 12), (32, 13), (32, 14)] (by rfl) (by decide +kernel)
set_option maxRecDepth 20000 in
theorem gL_law_X3_told : GoodIn wsL_law (wsV RL 175 RX3 yX3_told wsX3_told) := goodIn_app (goodIn_of _ (by decide +kernel)) ggL_law_X3_told
set_option maxRecDepth 20000 in
theorem ggL_law_L_ofPlace : GoodIn wsL_law wsL_ofPlace := goodIn_ca (goodIn_ca (goodIn_rc _ [(13, 17), (2, 27), (1, 17), (13, 18), (13, 19), (13, 20), (0, 2), (13, 21), (0, 18), (3, 0), (3, 1), (3, 2), (3, 3), (3, 4), (3, 5), (1, 25), (1, 26), (1, 27), (1, 28), (1, 29), (3, 9), (3, 10), (3, 11), (0, 17), (3, 12), (2, 2), (4, 7), (4, 8), (4, 9), (4, 10), (2, 4), (2, 5), (4, 11), (4, 12), (5, 23), (5, 19), (5, 20), (5, 21), (5, 22), (0, 25), (13, 22), (13, 23), (13, 24), (13, 25), (0, 26), (5, 28), (32, 15), (32, 16), (31, 29), (31, 30), (31, 31), (32, 0), (32, 1), (32, 2), (32, 3), (32, 17), (32, 18), (32, 19), (32, 20), (32, 21), (32, 22)] (by rfl) (by decide +kernel)) (goodIn_sub (fun _ h => List.mem_append_right _ h) (by decide +kernel))) (goodIn_sub (fun _ h => List.mem_append_left _ (List.mem_append_right _ h)) (by decide +kernel))
set_option maxRecDepth 20000 in
theorem gL_law_L_ofPlace : GoodIn wsL_law (va_wsS RL 176 yL_ofPlace wsL_ofPlace) := goodIn_app (goodIn_of _ (by decide +kernel)) ggL_law_L_ofPlace
set_option maxRecDepth 20000 in
theorem ggL_law_X3_ofPlace : GoodIn wsL_law wsX3_ofPlace := goodIn_rc _ [(13, 29), (3, 21), (3, 22), (3, 23), (0, 5), (3, 24), (1, 3), (2, 14), (2, 15), (2, 16), (2, 17), (2, 18), (13, 30), (13, 31), (14, 0), (14, 1), (1, 6), (1, 5), (1, 7), (3, 28), (3, 29), (3, 30), (3, 31), (1, 4), (6, 21), (6, 22), (6, 23), (32, 4), (32, 5), (32, 6), (32, 7), (32, 8), (32, 9), (32, 10), (32, 11), (32, 12), (32, 13), (32, 14)] (by rfl) (by decide +kernel)
set_option maxRecDepth 20000 in
theorem gL_law_X3_ofPlace : GoodIn wsL_law (wsV RL 178 RX3 yX3_ofPlace wsX3_ofPlace) := goodIn_app (goodIn_of _ (by decide +kernel)) ggL_law_X3_ofPlace
set_option maxRecDepth 20000 in
theorem ggL_law_L_isWay : GoodIn wsL_law wsL_isWay := goodIn_ca (goodIn_rc _ [(14, 4), (2, 27), (14, 5), (14, 6), (14, 7), (0, 2), (14, 8), (0, 18), (3, 0), (3, 1), (3, 2), (3, 3), (3, 4), (3, 5), (5, 19), (5, 20), (5, 21), (0, 17), (5, 22), (0, 25), (5, 23), (4, 11), (4, 12), (32, 15), (32, 16), (31, 29), (31, 30), (31, 31), (32, 0), (32, 1), (32, 2), (32, 3), (32, 17), (32, 18), (32, 19), (32, 20), (32, 21), (32, 22)] (by rfl) (by decide +kernel)) (goodIn_sub (fun _ h => List.mem_append_right _ h) (by decide +kernel))
set_option maxRecDepth 20000 in
theorem gL_law_L_isWay : GoodIn wsL_law (va_wsS RL 179 yL_isWay wsL_isWay) := goodIn_app (goodIn_of _ (by decide +kernel)) ggL_law_L_isWay
set_option maxRecDepth 20000 in
theorem ggL_law_X3_isWay : GoodIn wsL_law wsX3_isWay := goodIn_rc _ [(14, 12), (1, 7), (3, 21), (3, 22), (3, 23), (0, 5), (3, 24), (1, 3), (2, 10), (2, 11), (2, 12), (2, 13), (2, 14), (2, 15), (2, 16), (2, 17), (2, 18), (6, 21), (6, 22), (6, 23), (32, 4), (32, 5), (32, 6), (32, 7), (32, 8), (32, 9), (32, 10), (32, 11), (32, 12), (32, 13), (32, 14)] (by rfl) (by decide +kernel)
set_option maxRecDepth 20000 in
theorem gL_law_X3_isWay : GoodIn wsL_law (wsV RL 181 RX3 yX3_isWay wsX3_isWay) := goodIn_app (goodIn_of _ (by decide +kernel)) ggL_law_X3_isWay
set_option maxRecDepth 20000 in
theorem ggL_law_L_ways : GoodIn wsL_law wsL_ways := goodIn_ca (goodIn_rc _ [(14, 15), (2, 27), (14, 16), (14, 17), (14, 18), (0, 2), (14, 19), (0, 18), (14, 20), (14, 21), (14, 22), (3, 0), (3, 1), (3, 2), (3, 3), (3, 4), (3, 5), (5, 19), (5, 20), (5, 21), (0, 17), (5, 22), (0, 25), (14, 23), (14, 24), (14, 25), (14, 26), (14, 27), (14, 28), (14, 29), (14, 30), (0, 13), (0, 14), (14, 31), (15, 0), (15, 1), (15, 2), (15, 3), (15, 4), (15, 5), (15, 6), (15, 7), (15, 8), (15, 9), (15, 10), (5, 23), (4, 11), (4, 12), (15, 11), (15, 12), (15, 13), (15, 14), (15, 15), (15, 16), (15, 17), (15, 18), (15, 19), (15, 20), (15, 21), (15, 22), (15, 23), (15, 24), (15, 25), (15, 26), (15, 27), (15, 28), (15, 29), (15, 30), (15, 31), (16, 0), (16, 1), (16, 2), (16, 3), (16, 4), (16, 5), (16, 6), (16, 7), (16, 8), (16, 9), (16, 10), (16, 11), (16, 12), (16, 13), (16, 14), (16, 15), (16, 16), (16, 17), (16, 18), (16, 19), (16, 20), (16, 21), (16, 22), (16, 23), (16, 24), (16, 25), (16, 26), (16, 27), (16, 28), (16, 29), (16, 30), (16, 31), (17, 0), (17, 1), (17, 2), (17, 3), (17, 4), (17, 5), (17, 6), (17, 7), (17, 8), (17, 9), (17, 10), (17, 11), (17, 12), (17, 13), (17, 14), (17, 15), (17, 16), (17, 17), (17, 18), (17, 19), (17, 20), (17, 21), (17, 22), (17, 23), (17, 24), (17, 25), (17, 26), (17, 27), (17, 28), (17, 29), (17, 30), (17, 31), (18, 0), (18, 1), (18, 2), (18, 3), (18, 4), (18, 5), (18, 6), (18, 7), (18, 8), (18, 9), (18, 10), (18, 11), (18, 12), (18, 13), (18, 14), (18, 15), (18, 16), (18, 17), (18, 18), (18, 19), (18, 20), (18, 21), (18, 22), (18, 23), (18, 24), (18, 25), (18, 26), (18, 27), (18, 28), (18, 29), (18, 30), (18, 31), (19, 0), (19, 1), (19, 2), (19, 3), (5, 31), (19, 4), (19, 5), (19, 6), (19, 7), (19, 8), (19, 9), (19, 10), (19, 11), (19, 12), (19, 13), (19, 14), (19, 15), (19, 16), (19, 17), (19, 18), (19, 19), (19, 20), (19, 21), (19, 22), (19, 23), (19, 24), (19, 25), (19, 26), (19, 27), (19, 28), (19, 29), (19, 30), (19, 31), (20, 0), (20, 1), (20, 2), (20, 3), (20, 4), (20, 5), (20, 6), (20, 7), (20, 8), (20, 9), (20, 10), (20, 11), (20, 12), (20, 13), (20, 14), (20, 15), (20, 16), (20, 17), (20, 18), (20, 19), (20, 20), (20, 21), (20, 22), (20, 23), (20, 24), (20, 25), (20, 26), (20, 27), (20, 28), (20, 29), (20, 30), (20, 31), (21, 0), (21, 1), (21, 2), (21, 3), (21, 4), (21, 5), (21, 6), (21, 7), (21, 8), (21, 9), (21, 10), (21, 11), (32, 15), (32, 16), (31, 29), (31, 30), (31, 31), (32, 0), (32, 1), (32, 2), (32, 3), (32, 23), (32, 24), (32, 25), (32, 26), (32, 17), (32, 18), (32, 19), (32, 20), (32, 21), (32, 22), (32, 27), (32, 28), (32, 29), (32, 30)] (by rfl) (by decide +kernel)) (goodIn_sub (fun _ h => List.mem_append_right _ h) (by decide +kernel))
set_option maxRecDepth 20000 in
theorem gL_law_L_ways : GoodIn wsL_law (va_wsS RL 182 yL_ways wsL_ways) := goodIn_app (goodIn_of _ (by decide +kernel)) ggL_law_L_ways
set_option maxRecDepth 20000 in
theorem ggL_law_X3_ways : GoodIn wsL_law wsX3_ways := goodIn_rc _ [(21, 15), (21, 16), (14, 21), (14, 22), (1, 3), (1, 7), (3, 21), (3, 22), (3, 23), (0, 5), (3, 24), (2, 10), (2, 11), (2, 12), (2, 13), (2, 14), (2, 15), (2, 16), (2, 17), (2, 18), (21, 17), (14, 24), (14, 25), (14, 26), (14, 27), (14, 28), (14, 29), (14, 30), (0, 13), (0, 14), (14, 31), (15, 0), (15, 1), (15, 2), (15, 3), (15, 4), (15, 5), (15, 6), (15, 7), (15, 8), (15, 9), (15, 10), (6, 21), (6, 22), (6, 23), (21, 18), (15, 12), (15, 13), (15, 14), (15, 15), (15, 16), (15, 17), (15, 18), (15, 19), (15, 20), (21, 19), (21, 20), (21, 21), (21, 22), (21, 23), (21, 24), (21, 25), (21, 26), (21, 27), (21, 28), (21, 29), (21, 30), (21, 31), (15, 29), (15, 30), (15, 31), (16, 0), (16, 1), (16, 2), (16, 3), (16, 4), (16, 5), (16, 6), (16, 7), (16, 8), (16, 9), (16, 10), (16, 11), (16, 12), (16, 13), (16, 14), (16, 15), (16, 16), (16, 17), (16, 18), (16, 19), (16, 20), (16, 21), (16, 22), (16, 23), (16, 24), (16, 25), (16, 26), (16, 27), (16, 28), (16, 29), (16, 30), (16, 31), (17, 0), (17, 1), (17, 2), (17, 3), (17, 4), (17, 5), (17, 6), (17, 7), (17, 8), (17, 9), (22, 0), (22, 1), (22, 2), (18, 11), (19, 13), (19, 14), (19, 15), (17, 28), (17, 29), (17, 30), (19, 16), (19, 17), (18, 1), (19, 18), (18, 3), (19, 19), (19, 20), (18, 6), (19, 21), (18, 8), (18, 9), (18, 10), (18, 12), (18, 13), (22, 3), (22, 4), (22, 5), (22, 6), (20, 9), (22, 7), (22, 8), (22, 9), (22, 10), (20, 10), (20, 8), (22, 11), (22, 12), (22, 13), (22, 14), (22, 15), (22, 16), (22, 17), (22, 18), (22, 19), (22, 20), (22, 21), (17, 14), (17, 15), (17, 16), (17, 17), (17, 18), (17, 19), (17, 20), (17, 12), (17, 21), (17, 22), (17, 23), (17, 24), (17, 25), (17, 26), (17, 27), (17, 31), (18, 0), (18, 2), (18, 4), (18, 5), (18, 7), (22, 22), (22, 23), (22, 24), (22, 25), (22, 26), (22, 27), (22, 28), (18, 27), (18, 28), (18, 29), (18, 30), (18, 31), (19, 0), (19, 1), (19, 2), (19, 3), (5, 31), (19, 4), (19, 5), (19, 6), (19, 7), (19, 8), (19, 9), (19, 10), (19, 11), (19, 12), (19, 22), (19, 23), (19, 24), (19, 25), (19, 26), (22, 29), (19, 28), (19, 29), (19, 30), (19, 31), (20, 0), (20, 1), (20, 2), (20, 3), (20, 4), (20, 5), (20, 6), (20, 7), (20, 11), (20, 12), (20, 13), (20, 14), (20, 15), (20, 16), (20, 17), (20, 18), (20, 19), (20, 20), (20, 21), (20, 22), (20, 23), (20, 24), (20, 25), (20, 26), (20, 27), (20, 28), (20, 29), (20, 30), (20, 31), (21, 0), (21, 1), (21, 2), (21, 3), (21, 4), (21, 5), (21, 6), (21, 7), (21, 8), (21, 9), (21, 10), (21, 11), (32, 23), (32, 24), (32, 25), (32, 26), (32, 4), (32, 5), (32, 6), (32, 7), (32, 8), (32, 9), (32, 10), (32, 11), (32, 12), (32, 13), (32, 14), (32, 27), (32, 28), (32, 29), (32, 30)] (by rfl) (by decide +kernel)
set_option maxRecDepth 20000 in
theorem gL_law_X3_ways : GoodIn wsL_law (wsV RL 184 RX3 yX3_ways wsX3_ways) := goodIn_app (goodIn_of _ (by decide +kernel)) ggL_law_X3_ways
set_option maxRecDepth 20000 in
theorem ggL_law_L_ahead : GoodIn wsL_law wsL_ahead := goodIn_ca (goodIn_rc _ [(23, 0), (1, 17), (23, 1), (23, 2), (23, 3), (0, 2), (23, 4), (0, 18), (4, 28), (4, 29), (4, 30), (4, 31), (5, 0), (5, 1), (5, 2), (0, 17), (5, 3), (0, 26), (1, 25), (1, 26), (1, 27), (1, 28), (1, 29), (3, 6), (3, 7), (3, 8), (23, 5), (10, 11), (10, 12), (10, 13), (0, 25), (2, 2), (32, 15), (32, 16), (31, 29), (31, 30), (31, 31), (32, 0), (32, 1), (32, 2), (32, 3), (32, 17), (32, 18), (32, 19), (32, 20), (32, 21), (32, 22)] (by rfl) (by decide +kernel)) (goodIn_sub (fun _ h => List.mem_append_left _ (List.mem_append_right _ h)) (by decide +kernel))
set_option maxRecDepth 20000 in
theorem gL_law_L_ahead : GoodIn wsL_law (va_wsS RL 185 yL_ahead wsL_ahead) := goodIn_app (goodIn_of _ (by decide +kernel)) ggL_law_L_ahead
set_option maxRecDepth 20000 in
theorem ggL_law_X3_ahead : GoodIn wsL_law wsX3_ahead := goodIn_rc _ [(23, 9), (5, 8), (5, 9), (5, 10), (0, 5), (5, 11), (1, 3), (3, 25), (3, 26), (3, 27), (2, 10), (2, 11), (2, 12), (2, 13), (2, 14), (2, 15), (2, 16), (2, 17), (2, 18), (11, 28), (11, 29), (11, 30), (11, 31), (1, 7), (3, 28), (3, 29), (3, 30), (3, 31), (1, 4), (32, 4), (32, 5), (32, 6), (32, 7), (32, 8), (32, 9), (32, 10), (32, 11), (32, 12), (32, 13), (32, 14)] (by rfl) (by decide +kernel)
set_option maxRecDepth 20000 in
theorem gL_law_X3_ahead : GoodIn wsL_law (wsV RL 187 RX3 yX3_ahead wsX3_ahead) := goodIn_app (goodIn_of _ (by decide +kernel)) ggL_law_X3_ahead
set_option maxRecDepth 20000 in
theorem ggL_law_L_coming : GoodIn wsL_law wsL_coming := goodIn_ca (goodIn_rc _ [(23, 12), (1, 17), (23, 13), (23, 14), (23, 15), (0, 2), (23, 16), (0, 18), (3, 6), (3, 7), (3, 8), (1, 25), (1, 26), (1, 27), (1, 28), (1, 29), (23, 17), (10, 3), (10, 4), (0, 17), (10, 5), (2, 3), (10, 6), (10, 7), (10, 8), (10, 9), (10, 10), (10, 11), (10, 12), (10, 13), (0, 26), (0, 25), (2, 2), (8, 23), (5, 1), (5, 2), (5, 3), (10, 14), (10, 15), (10, 16), (10, 17), (10, 18), (10, 19), (10, 20), (10, 21), (2, 4), (2, 5), (10, 22), (10, 23), (10, 24), (10, 25), (32, 15), (32, 16), (31, 29), (31, 30), (31, 31), (32, 0), (32, 1), (32, 2), (32, 3), (32, 17), (32, 18), (32, 19), (32, 20), (32, 21), (32, 22)] (by rfl) (by decide +kernel)) (goodIn_sub (fun _ h => List.mem_append_left _ (List.mem_append_right _ h)) (by decide +kernel))
set_option maxRecDepth 20000 in
theorem gL_law_L_coming : GoodIn wsL_law (va_wsS RL 188 yL_coming wsL_coming) := goodIn_app (goodIn_of _ (by decide +kernel)) ggL_law_L_coming
set_option maxRecDepth 20000 in
theorem ggL_law_X3_coming : GoodIn wsL_law wsX3_coming := goodIn_rc _ [(23, 21), (3, 25), (3, 26), (0, 5), (3, 27), (2, 10), (2, 11), (2, 12), (2, 13), (2, 14), (2, 15), (2, 16), (2, 17), (2, 18), (11, 20), (11, 21), (11, 22), (11, 23), (1, 5), (11, 24), (11, 25), (11, 26), (11, 27), (11, 28), (11, 29), (11, 30), (11, 31), (1, 3), (1, 7), (3, 28), (3, 29), (3, 30), (3, 31), (1, 4), (32, 4), (32, 5), (32, 6), (32, 7), (32, 8), (32, 9), (32, 10), (32, 11), (32, 12), (32, 13), (32, 14)] (by rfl) (by decide +kernel)
set_option maxRecDepth 20000 in
theorem gL_law_X3_coming : GoodIn wsL_law (wsV RL 190 RX3 yX3_coming wsX3_coming) := goodIn_app (goodIn_of _ (by decide +kernel)) ggL_law_X3_coming
set_option maxRecDepth 20000 in
theorem ggL_law_L_keeping : GoodIn wsL_law wsL_keeping := goodIn_ca (goodIn_rc _ [(23, 24), (1, 17), (23, 25), (23, 26), (23, 27), (0, 2), (23, 28), (0, 18), (3, 6), (3, 7), (3, 8), (1, 25), (1, 26), (1, 27), (1, 28), (1, 29), (23, 17), (10, 3), (10, 4), (0, 17), (10, 5), (2, 3), (10, 6), (10, 7), (10, 8), (10, 9), (10, 10), (10, 11), (10, 12), (10, 13), (0, 26), (0, 25), (2, 2), (8, 23), (5, 1), (5, 2), (5, 3), (10, 14), (10, 15), (10, 16), (10, 17), (10, 18), (10, 19), (10, 20), (10, 21), (2, 4), (2, 5), (10, 22), (10, 23), (10, 24), (10, 25), (32, 15), (32, 16), (31, 29), (31, 30), (31, 31), (32, 0), (32, 1), (32, 2), (32, 3), (32, 17), (32, 18), (32, 19), (32, 20), (32, 21), (32, 22)] (by rfl) (by decide +kernel)) (goodIn_sub (fun _ h => List.mem_append_left _ (List.mem_append_right _ h)) (by decide +kernel))
set_option maxRecDepth 20000 in
theorem gL_law_L_keeping : GoodIn wsL_law (va_wsS RL 191 yL_keeping wsL_keeping) := goodIn_app (goodIn_of _ (by decide +kernel)) ggL_law_L_keeping
set_option maxRecDepth 20000 in
theorem ggL_law_X3_keeping : GoodIn wsL_law wsX3_keeping := goodIn_rc _ [(24, 0), (3, 25), (3, 26), (0, 5), (3, 27), (2, 10), (2, 11), (2, 12), (2, 13), (2, 14), (2, 15), (2, 16), (2, 17), (2, 18), (12, 0), (12, 1), (12, 2), (12, 3), (5, 8), (5, 9), (5, 10), (5, 11), (1, 3), (11, 20), (11, 21), (11, 22), (11, 23), (1, 5), (11, 24), (11, 25), (11, 26), (11, 27), (11, 28), (11, 29), (11, 30), (11, 31), (1, 7), (3, 28), (3, 29), (3, 30), (3, 31), (1, 4), (32, 4), (32, 5), (32, 6), (32, 7), (32, 8), (32, 9), (32, 10), (32, 11), (32, 12), (32, 13), (32, 14)] (by rfl) (by decide +kernel)
set_option maxRecDepth 20000 in
theorem gL_law_X3_keeping : GoodIn wsL_law (wsV RL 193 RX3 yX3_keeping wsX3_keeping) := goodIn_app (goodIn_of _ (by decide +kernel)) ggL_law_X3_keeping
set_option maxRecDepth 20000 in
theorem ggL_law_L_again : GoodIn wsL_law wsL_again := goodIn_ca (goodIn_rc _ [(24, 3), (1, 17), (24, 4), (24, 5), (24, 6), (0, 2), (24, 7), (0, 18), (3, 6), (3, 7), (3, 8), (1, 25), (1, 26), (1, 27), (1, 28), (1, 29), (23, 17), (10, 3), (10, 4), (0, 17), (10, 5), (2, 3), (10, 6), (10, 7), (10, 8), (10, 9), (10, 10), (10, 11), (10, 12), (10, 13), (0, 26), (0, 25), (2, 2), (8, 23), (5, 1), (5, 2), (5, 3), (10, 14), (10, 15), (10, 16), (10, 17), (10, 18), (10, 19), (10, 20), (10, 21), (2, 4), (2, 5), (10, 22), (10, 23), (10, 24), (10, 25), (32, 15), (32, 16), (31, 29), (31, 30), (31, 31), (32, 0), (32, 1), (32, 2), (32, 3), (32, 17), (32, 18), (32, 19), (32, 20), (32, 21), (32, 22)] (by rfl) (by decide +kernel)) (goodIn_sub (fun _ h => List.mem_append_left _ (List.mem_append_right _ h)) (by decide +kernel))
set_option maxRecDepth 20000 in
theorem gL_law_L_again : GoodIn wsL_law (va_wsS RL 194 yL_again wsL_again) := goodIn_app (goodIn_of _ (by decide +kernel)) ggL_law_L_again
set_option maxRecDepth 20000 in
theorem ggL_law_X3_again : GoodIn wsL_law wsX3_again := goodIn_rc _ [(24, 11), (3, 25), (3, 26), (0, 5), (3, 27), (2, 10), (2, 11), (2, 12), (2, 13), (2, 14), (2, 15), (2, 16), (2, 17), (2, 18), (12, 4), (12, 5), (12, 6), (12, 7), (5, 8), (5, 9), (5, 10), (5, 11), (1, 3), (12, 8), (12, 9), (12, 10), (12, 11), (1, 5), (11, 28), (11, 29), (11, 30), (11, 31), (1, 7), (3, 28), (3, 29), (3, 30), (3, 31), (1, 4), (11, 24), (11, 25), (11, 26), (11, 27), (32, 4), (32, 5), (32, 6), (32, 7), (32, 8), (32, 9), (32, 10), (32, 11), (32, 12), (32, 13), (32, 14)] (by rfl) (by decide +kernel)
set_option maxRecDepth 20000 in
theorem gL_law_X3_again : GoodIn wsL_law (wsV RL 196 RX3 yX3_again wsX3_again) := goodIn_app (goodIn_of _ (by decide +kernel)) ggL_law_X3_again
set_option maxRecDepth 20000 in
theorem ggL_law_L_ranked : GoodIn wsL_law wsL_ranked := goodIn_ca (goodIn_rc _ [(24, 14), (1, 17), (24, 15), (24, 16), (24, 17), (0, 2), (24, 18), (0, 18), (3, 6), (3, 7), (3, 8), (1, 25), (1, 26), (1, 27), (1, 28), (1, 29), (23, 17), (10, 3), (10, 4), (0, 17), (10, 5), (2, 3), (10, 6), (10, 7), (10, 8), (10, 9), (10, 10), (10, 11), (10, 12), (10, 13), (0, 26), (0, 25), (2, 2), (8, 23), (5, 1), (5, 2), (5, 3), (10, 14), (10, 15), (10, 16), (10, 17), (10, 18), (10, 19), (10, 20), (10, 21), (2, 4), (2, 5), (10, 22), (10, 23), (10, 24), (10, 25), (32, 15), (32, 16), (31, 29), (31, 30), (31, 31), (32, 0), (32, 1), (32, 2), (32, 3), (32, 17), (32, 18), (32, 19), (32, 20), (32, 21), (32, 22)] (by rfl) (by decide +kernel)) (goodIn_sub (fun _ h => List.mem_append_left _ (List.mem_append_right _ h)) (by decide +kernel))
set_option maxRecDepth 20000 in
theorem gL_law_L_ranked : GoodIn wsL_law (va_wsS RL 197 yL_ranked wsL_ranked) := goodIn_app (goodIn_of _ (by decide +kernel)) ggL_law_L_ranked
set_option maxRecDepth 20000 in
theorem ggL_law_X3_ranked : GoodIn wsL_law wsX3_ranked := goodIn_rc _ [(24, 22), (3, 25), (3, 26), (0, 5), (3, 27), (2, 10), (2, 11), (2, 12), (2, 13), (2, 14), (2, 15), (2, 16), (2, 17), (2, 18), (11, 16), (11, 17), (11, 18), (11, 19), (11, 20), (11, 21), (11, 22), (11, 23), (1, 5), (11, 24), (11, 25), (11, 26), (11, 27), (11, 28), (11, 29), (11, 30), (11, 31), (1, 3), (1, 7), (3, 28), (3, 29), (3, 30), (3, 31), (1, 4), (12, 0), (12, 1), (12, 2), (12, 3), (5, 8), (5, 9), (5, 10), (5, 11), (12, 4), (12, 5), (12, 6), (12, 7), (12, 8), (12, 9), (12, 10), (12, 11), (12, 12), (12, 13), (12, 14), (12, 15), (12, 16), (12, 17), (12, 18), (12, 19), (1, 6), (32, 4), (32, 5), (32, 6), (32, 7), (32, 8), (32, 9), (32, 10), (32, 11), (32, 12), (32, 13), (32, 14)] (by rfl) (by decide +kernel)
set_option maxRecDepth 20000 in
theorem gL_law_X3_ranked : GoodIn wsL_law (wsV RL 199 RX3 yX3_ranked wsX3_ranked) := goodIn_app (goodIn_of _ (by decide +kernel)) ggL_law_X3_ranked
set_option maxRecDepth 20000 in
theorem ggL_law_L_winner : GoodIn wsL_law wsL_winner := goodIn_ca (goodIn_ca (goodIn_rc _ [(24, 25), (2, 27), (1, 17), (24, 26), (24, 27), (24, 28), (0, 2), (24, 29), (0, 18), (3, 0), (3, 1), (3, 2), (3, 3), (3, 4), (3, 5), (1, 25), (1, 26), (1, 27), (1, 28), (1, 29), (23, 17), (10, 3), (10, 4), (0, 17), (10, 5), (2, 3), (10, 6), (10, 7), (10, 8), (10, 9), (10, 10), (10, 11), (10, 12), (10, 13), (0, 26), (0, 25), (2, 2), (8, 23), (5, 1), (5, 2), (5, 3), (10, 14), (10, 15), (10, 16), (10, 17), (10, 18), (10, 19), (10, 20), (10, 21), (2, 4), (2, 5), (10, 22), (10, 23), (10, 24), (10, 25), (5, 23), (4, 11), (4, 12), (32, 15), (32, 16), (31, 29), (31, 30), (31, 31), (32, 0), (32, 1), (32, 2), (32, 3), (32, 17), (32, 18), (32, 19), (32, 20), (32, 21), (32, 22)] (by rfl) (by decide +kernel)) (goodIn_sub (fun _ h => List.mem_append_right _ h) (by decide +kernel))) (goodIn_sub (fun _ h => List.mem_append_left _ (List.mem_append_right _ h)) (by decide +kernel))
set_option maxRecDepth 20000 in
theorem gL_law_L_winner : GoodIn wsL_law (va_wsS RL 200 yL_winner wsL_winner) := goodIn_app (goodIn_of _ (by decide +kernel)) ggL_law_L_winner
set_option maxRecDepth 20000 in
theorem ggL_law_X3_winner : GoodIn wsL_law wsX3_winner := goodIn_rc _ [(25, 1), (3, 21), (3, 22), (3, 23), (0, 5), (3, 24), (1, 3), (2, 14), (2, 15), (2, 16), (2, 17), (2, 18), (11, 16), (11, 17), (11, 18), (11, 19), (11, 20), (11, 21), (11, 22), (11, 23), (1, 5), (11, 24), (11, 25), (11, 26), (11, 27), (11, 28), (11, 29), (11, 30), (11, 31), (1, 7), (3, 28), (3, 29), (3, 30), (3, 31), (1, 4), (12, 0), (12, 1), (12, 2), (12, 3), (5, 8), (5, 9), (5, 10), (5, 11), (12, 4), (12, 5), (12, 6), (12, 7), (12, 8), (12, 9), (12, 10), (12, 11), (12, 12), (12, 13), (12, 14), (12, 15), (12, 16), (12, 17), (12, 18), (12, 19), (1, 6), (6, 21), (6, 22), (6, 23), (32, 4), (32, 5), (32, 6), (32, 7), (32, 8), (32, 9), (32, 10), (32, 11), (32, 12), (32, 13), (32, 14)] (by rfl) (by decide +kernel)
set_option maxRecDepth 20000 in
theorem gL_law_X3_winner : GoodIn wsL_law (wsV RL 202 RX3 yX3_winner wsX3_winner) := goodIn_app (goodIn_of _ (by decide +kernel)) ggL_law_X3_winner
set_option maxRecDepth 20000 in
theorem ggL_law_L_rounds : GoodIn wsL_law wsL_rounds := goodIn_ca (goodIn_ca (goodIn_rc _ [(25, 4), (2, 27), (1, 17), (25, 5), (25, 6), (25, 7), (0, 2), (25, 8), (0, 18), (3, 0), (3, 1), (3, 2), (3, 3), (3, 4), (3, 5), (3, 6), (3, 7), (3, 8), (1, 25), (1, 26), (1, 27), (1, 28), (1, 29), (25, 9), (25, 10), (25, 11), (0, 17), (25, 12), (10, 10), (10, 11), (10, 12), (10, 13), (0, 26), (0, 25), (2, 2), (4, 11), (4, 12), (32, 15), (32, 16), (31, 29), (31, 30), (31, 31), (32, 0), (32, 1), (32, 2), (32, 3), (32, 17), (32, 18), (32, 19), (32, 20), (32, 21), (32, 22)] (by rfl) (by decide +kernel)) (goodIn_sub (fun _ h => List.mem_append_right _ h) (by decide +kernel))) (goodIn_sub (fun _ h => List.mem_append_left _ (List.mem_append_right _ h)) (by decide +kernel))
set_option maxRecDepth 20000 in
theorem gL_law_L_rounds : GoodIn wsL_law (va_wsS RL 203 yL_rounds wsL_rounds) := goodIn_app (goodIn_of _ (by decide +kernel)) ggL_law_L_rounds
set_option maxRecDepth 20000 in
theorem ggL_law_X3_rounds : GoodIn wsL_law wsX3_rounds := goodIn_rc _ [(25, 16), (3, 21), (3, 22), (3, 23), (0, 5), (3, 24), (1, 3), (3, 25), (3, 26), (3, 27), (2, 14), (2, 15), (2, 16), (2, 17), (2, 18), (11, 20), (11, 21), (11, 22), (11, 23), (1, 5), (11, 24), (11, 25), (11, 26), (11, 27), (11, 28), (11, 29), (11, 30), (11, 31), (1, 7), (3, 28), (3, 29), (3, 30), (3, 31), (1, 4), (12, 20), (12, 21), (12, 22), (12, 23), (6, 21), (6, 22), (6, 23), (32, 4), (32, 5), (32, 6), (32, 7), (32, 8), (32, 9), (32, 10), (32, 11), (32, 12), (32, 13), (32, 14)] (by rfl) (by decide +kernel)
set_option maxRecDepth 20000 in
theorem gL_law_X3_rounds : GoodIn wsL_law (wsV RL 205 RX3 yX3_rounds wsX3_rounds) := goodIn_app (goodIn_of _ (by decide +kernel)) ggL_law_X3_rounds
set_option maxRecDepth 20000 in
theorem ggL_law_L_againRounds : GoodIn wsL_law wsL_againRounds := goodIn_ca (goodIn_ca (goodIn_rc _ [(25, 19), (2, 27), (1, 17), (25, 20), (25, 21), (25, 22), (0, 2), (25, 23), (0, 18), (3, 0), (3, 1), (3, 2), (3, 3), (3, 4), (3, 5), (3, 6), (3, 7), (3, 8), (1, 25), (1, 26), (1, 27), (1, 28), (1, 29), (23, 17), (10, 3), (10, 4), (0, 17), (10, 5), (2, 3), (10, 6), (10, 7), (10, 8), (10, 9), (10, 10), (10, 11), (10, 12), (10, 13), (0, 26), (0, 25), (2, 2), (8, 23), (5, 1), (5, 2), (5, 3), (10, 14), (10, 15), (10, 16), (10, 17), (10, 18), (10, 19), (10, 20), (10, 21), (2, 4), (2, 5), (10, 22), (10, 23), (10, 24), (10, 25), (25, 9), (25, 10), (25, 11), (25, 12), (4, 11), (4, 12), (32, 15), (32, 16), (31, 29), (31, 30), (31, 31), (32, 0), (32, 1), (32, 2), (32, 3), (32, 17), (32, 18), (32, 19), (32, 20), (32, 21), (32, 22)] (by rfl) (by decide +kernel)) (goodIn_sub (fun _ h => List.mem_append_right _ h) (by decide +kernel))) (goodIn_sub (fun _ h => List.mem_append_left _ (List.mem_append_right _ h)) (by decide +kernel))
set_option maxRecDepth 20000 in
theorem gL_law_L_againRounds : GoodIn wsL_law (va_wsS RL 206 yL_againRounds wsL_againRounds) := goodIn_app (goodIn_of _ (by decide +kernel)) ggL_law_L_againRounds
set_option maxRecDepth 20000 in
theorem ggL_law_X3_againRounds : GoodIn wsL_law wsX3_againRounds := goodIn_rc _ [(25, 27), (3, 21), (3, 22), (3, 23), (0, 5), (3, 24), (1, 3), (3, 25), (3, 26), (3, 27), (2, 14), (2, 15), (2, 16), (2, 17), (2, 18), (12, 4), (12, 5), (12, 6), (12, 7), (5, 8), (5, 9), (5, 10), (5, 11), (12, 8), (12, 9), (12, 10), (12, 11), (1, 5), (11, 28), (11, 29), (11, 30), (11, 31), (1, 7), (3, 28), (3, 29), (3, 30), (3, 31), (1, 4), (11, 24), (11, 25), (11, 26), (11, 27), (12, 20), (12, 21), (12, 22), (12, 23), (6, 21), (6, 22), (6, 23), (32, 4), (32, 5), (32, 6), (32, 7), (32, 8), (32, 9), (32, 10), (32, 11), (32, 12), (32, 13), (32, 14)] (by rfl) (by decide +kernel)
set_option maxRecDepth 20000 in
theorem gL_law_X3_againRounds : GoodIn wsL_law (wsV RL 208 RX3 yX3_againRounds wsX3_againRounds) := goodIn_app (goodIn_of _ (by decide +kernel)) ggL_law_X3_againRounds
set_option maxRecDepth 20000 in
theorem ggL_law_L_falls : GoodIn wsL_law wsL_falls := goodIn_ca (goodIn_rc _ [(25, 30), (1, 17), (25, 31), (26, 0), (26, 1), (0, 2), (26, 2), (0, 18), (3, 6), (3, 7), (3, 8), (1, 25), (1, 26), (1, 27), (1, 28), (1, 29), (5, 0), (5, 1), (5, 2), (0, 17), (5, 3), (0, 26), (23, 5), (10, 11), (10, 12), (10, 13), (0, 25), (2, 2), (26, 3), (10, 7), (10, 8), (10, 9), (10, 10), (32, 15), (32, 16), (31, 29), (31, 30), (31, 31), (32, 0), (32, 1), (32, 2), (32, 3), (32, 17), (32, 18), (32, 19), (32, 20), (32, 21), (32, 22)] (by rfl) (by decide +kernel)) (goodIn_sub (fun _ h => List.mem_append_left _ (List.mem_append_right _ h)) (by decide +kernel))
set_option maxRecDepth 20000 in
theorem gL_law_L_falls : GoodIn wsL_law (va_wsS RL 209 yL_falls wsL_falls) := goodIn_app (goodIn_of _ (by decide +kernel)) ggL_law_L_falls
set_option maxRecDepth 20000 in
theorem ggL_law_X3_falls : GoodIn wsL_law wsX3_falls := goodIn_rc _ [(26, 7), (3, 25), (3, 26), (0, 5), (3, 27), (2, 10), (2, 11), (2, 12), (2, 13), (2, 14), (2, 15), (2, 16), (2, 17), (2, 18), (26, 8), (26, 9), (26, 10), (26, 11), (5, 8), (5, 9), (5, 10), (5, 11), (1, 3), (12, 8), (12, 9), (12, 10), (12, 11), (1, 5), (11, 28), (11, 29), (11, 30), (11, 31), (1, 7), (3, 28), (3, 29), (3, 30), (3, 31), (1, 4), (11, 24), (11, 25), (11, 26), (11, 27), (32, 4), (32, 5), (32, 6), (32, 7), (32, 8), (32, 9), (32, 10), (32, 11), (32, 12), (32, 13), (32, 14)] (by rfl) (by decide +kernel)
set_option maxRecDepth 20000 in
theorem gL_law_X3_falls : GoodIn wsL_law (wsV RL 211 RX3 yX3_falls wsX3_falls) := goodIn_app (goodIn_of _ (by decide +kernel)) ggL_law_X3_falls
set_option maxRecDepth 20000 in
theorem ggL_law_L_choice : GoodIn wsL_law wsL_choice := goodIn_ca (goodIn_ca (goodIn_rc _ [(26, 14), (2, 27), (1, 17), (26, 15), (26, 16), (26, 17), (0, 2), (26, 18), (0, 18), (3, 0), (3, 1), (3, 2), (3, 3), (3, 4), (3, 5), (1, 25), (1, 26), (1, 27), (1, 28), (1, 29), (3, 6), (3, 7), (3, 8), (9, 30), (9, 31), (10, 0), (0, 17), (10, 1), (10, 2), (10, 3), (10, 4), (10, 5), (2, 3), (10, 6), (10, 7), (10, 8), (10, 9), (10, 10), (10, 11), (10, 12), (10, 13), (0, 26), (0, 25), (2, 2), (8, 23), (5, 1), (5, 2), (5, 3), (10, 14), (10, 15), (10, 16), (10, 17), (10, 18), (10, 19), (10, 20), (10, 21), (2, 4), (2, 5), (10, 22), (10, 23), (10, 24), (10, 25), (10, 26), (10, 27), (10, 28), (10, 29), (10, 30), (8, 20), (8, 21), (8, 22), (4, 11), (4, 12), (5, 28), (5, 20), (5, 21), (5, 22), (10, 31), (11, 0), (11, 1), (11, 2), (11, 3), (5, 23), (11, 4), (11, 5), (11, 6), (11, 7), (32, 15), (32, 16), (31, 29), (31, 30), (31, 31), (32, 0), (32, 1), (32, 2), (32, 3), (32, 17), (32, 18), (32, 19), (32, 20), (32, 21), (32, 22)] (by rfl) (by decide +kernel)) (goodIn_sub (fun _ h => List.mem_append_right _ h) (by decide +kernel))) (goodIn_sub (fun _ h => List.mem_append_left _ (List.mem_append_right _ h)) (by decide +kernel))
set_option maxRecDepth 20000 in
theorem gL_law_L_choice : GoodIn wsL_law (va_wsS RL 212 yL_choice wsL_choice) := goodIn_app (goodIn_of _ (by decide +kernel)) ggL_law_L_choice
set_option maxRecDepth 20000 in
theorem ggL_law_X3_choice : GoodIn wsL_law wsX3_choice := goodIn_rc _ [(26, 22), (3, 21), (3, 22), (3, 23), (0, 5), (3, 24), (1, 3), (3, 25), (3, 26), (3, 27), (2, 14), (2, 15), (2, 16), (2, 17), (2, 18), (11, 12), (11, 13), (11, 14), (11, 15), (1, 5), (1, 7), (11, 16), (11, 17), (11, 18), (11, 19), (11, 20), (11, 21), (11, 22), (11, 23), (11, 24), (11, 25), (11, 26), (11, 27), (11, 28), (11, 29), (11, 30), (11, 31), (3, 28), (3, 29), (3, 30), (3, 31), (1, 4), (12, 0), (12, 1), (12, 2), (12, 3), (5, 8), (5, 9), (5, 10), (5, 11), (12, 4), (12, 5), (12, 6), (12, 7), (12, 8), (12, 9), (12, 10), (12, 11), (12, 12), (12, 13), (12, 14), (12, 15), (12, 16), (12, 17), (12, 18), (12, 19), (1, 6), (6, 21), (6, 22), (6, 23), (12, 20), (12, 21), (12, 22), (12, 23), (32, 4), (32, 5), (32, 6), (32, 7), (32, 8), (32, 9), (32, 10), (32, 11), (32, 12), (32, 13), (32, 14)] (by rfl) (by decide +kernel)
set_option maxRecDepth 20000 in
theorem gL_law_X3_choice : GoodIn wsL_law (wsV RL 215 RX3 yX3_choice wsX3_choice) := goodIn_app (goodIn_of _ (by decide +kernel)) ggL_law_X3_choice
set_option maxRecDepth 20000 in
theorem ggL_law_L_isSure : GoodIn wsL_law wsL_isSure := goodIn_ca (goodIn_rc _ [(26, 25), (1, 17), (26, 26), (26, 27), (26, 28), (0, 2), (26, 29), (1, 25), (1, 26), (1, 27), (1, 28), (1, 29), (3, 6), (3, 7), (3, 8), (26, 30), (26, 31), (27, 0), (27, 1), (0, 19), (0, 18), (7, 24), (7, 25), (7, 26), (0, 17), (7, 27), (0, 26), (2, 2), (2, 3), (2, 4), (2, 5), (0, 25), (5, 28), (5, 20), (5, 21), (5, 22), (23, 17), (10, 3), (10, 4), (10, 5), (10, 6), (10, 7), (10, 8), (10, 9), (10, 10), (10, 11), (10, 12), (10, 13), (8, 23), (5, 1), (5, 2), (5, 3), (10, 14), (10, 15), (10, 16), (10, 17), (10, 18), (10, 19), (10, 20), (10, 21), (10, 22), (10, 23), (10, 24), (10, 25), (27, 2), (10, 27), (10, 28), (10, 29), (10, 30), (8, 20), (8, 21), (8, 22), (4, 11), (4, 12), (10, 31), (11, 0), (11, 1), (11, 2), (11, 3), (5, 23), (11, 4), (11, 5), (11, 6), (11, 7), (27, 3), (6, 14), (6, 15), (6, 16), (32, 15), (32, 16), (31, 29), (31, 30), (31, 31), (32, 0), (32, 1), (32, 2), (32, 3), (32, 17), (32, 18), (32, 19), (32, 20), (32, 21), (32, 22)] (by rfl) (by decide +kernel)) (goodIn_sub (fun _ h => List.mem_append_left _ (List.mem_append_right _ h)) (by decide +kernel))
set_option maxRecDepth 20000 in
theorem gL_law_L_isSure : GoodIn wsL_law (va_wsS RL 216 yL_isSure wsL_isSure) := goodIn_app (goodIn_of _ (by decide +kernel)) ggL_law_L_isSure
set_option maxRecDepth 20000 in
theorem ggL_law_X3_isSure : GoodIn wsL_law wsX3_isSure := goodIn_rc _ [(27, 7), (3, 25), (3, 26), (0, 5), (3, 27), (2, 10), (2, 11), (2, 12), (2, 13), (2, 14), (2, 15), (2, 16), (2, 17), (2, 18), (32, 4), (32, 5), (32, 6), (32, 7), (32, 8), (32, 9), (32, 10), (32, 11), (32, 12), (32, 13), (32, 14)] (by rfl) (by decide +kernel)
set_option maxRecDepth 20000 in
theorem gL_law_X3_isSure : GoodIn wsL_law (wsV RL 218 RX3 yX3_isSure wsX3_isSure) := goodIn_app (goodIn_of _ (by decide +kernel)) ggL_law_X3_isSure
set_option maxRecDepth 20000 in
theorem ggL_law_L_play : GoodIn wsL_law wsL_play := goodIn_ca (goodIn_ca (goodIn_rc _ [(27, 10), (2, 27), (1, 17), (27, 11), (27, 12), (27, 13), (0, 2), (27, 14), (14, 20), (14, 21), (14, 22), (0, 18), (3, 0), (3, 1), (3, 2), (3, 3), (3, 4), (3, 5), (3, 6), (3, 7), (3, 8), (1, 25), (1, 26), (1, 27), (1, 28), (1, 29), (14, 23), (14, 24), (14, 25), (14, 26), (14, 27), (14, 28), (14, 29), (14, 30), (0, 13), (0, 14), (14, 31), (15, 0), (15, 1), (15, 2), (15, 3), (15, 4), (15, 5), (15, 6), (15, 7), (15, 8), (15, 9), (15, 10), (18, 26), (18, 27), (18, 28), (18, 29), (18, 30), (18, 31), (15, 17), (19, 0), (19, 1), (15, 20), (19, 2), (19, 3), (5, 31), (19, 4), (15, 29), (15, 30), (15, 31), (16, 0), (16, 1), (16, 2), (16, 3), (16, 4), (16, 5), (16, 6), (16, 7), (16, 8), (16, 9), (16, 10), (16, 11), (16, 12), (16, 13), (16, 14), (16, 15), (16, 16), (16, 17), (16, 18), (16, 19), (16, 20), (16, 21), (16, 22), (16, 23), (16, 24), (16, 25), (16, 26), (16, 27), (16, 28), (16, 29), (16, 30), (16, 31), (17, 0), (17, 1), (17, 2), (17, 3), (17, 4), (17, 5), (17, 6), (17, 7), (17, 8), (17, 9), (19, 5), (19, 6), (19, 7), (19, 8), (19, 9), (19, 10), (19, 11), (19, 12), (18, 11), (19, 13), (19, 14), (19, 15), (17, 28), (17, 29), (17, 30), (19, 16), (19, 17), (18, 1), (19, 18), (18, 3), (19, 19), (19, 20), (18, 6), (19, 21), (19, 22), (19, 23), (19, 24), (19, 25), (19, 26), (18, 8), (18, 9), (18, 10), (18, 12), (18, 13), (5, 23), (4, 11), (4, 12), (5, 19), (5, 20), (5, 21), (0, 17), (5, 22), (0, 25), (27, 15), (27, 16), (27, 17), (27, 18), (3, 9), (3, 10), (3, 11), (3, 12), (2, 2), (9, 30), (9, 31), (10, 0), (10, 1), (10, 2), (10, 3), (10, 4), (10, 5), (2, 3), (10, 6), (10, 7), (10, 8), (10, 9), (10, 10), (10, 11), (10, 12), (10, 13), (0, 26), (8, 23), (5, 1), (5, 2), (5, 3), (10, 14), (10, 15), (10, 16), (10, 17), (10, 18), (10, 19), (10, 20), (10, 21), (2, 4), (2, 5), (10, 22), (10, 23), (10, 24), (10, 25), (10, 26), (10, 27), (10, 28), (10, 29), (10, 30), (8, 20), (8, 21), (8, 22), (5, 28), (10, 31), (11, 0), (11, 1), (11, 2), (11, 3), (11, 4), (11, 5), (11, 6), (11, 7), (27, 19), (15, 21), (15, 22), (15, 23), (15, 24), (15, 25), (15, 26), (15, 27), (15, 28), (17, 10), (17, 11), (17, 12), (17, 13), (17, 14), (17, 15), (17, 16), (17, 17), (17, 18), (17, 19), (17, 20), (17, 21), (17, 22), (17, 23), (17, 24), (17, 25), (17, 26), (17, 27), (17, 31), (18, 0), (18, 2), (18, 4), (18, 5), (18, 7), (18, 14), (18, 15), (18, 16), (18, 17), (18, 18), (18, 19), (18, 20), (18, 21), (18, 22), (18, 23), (18, 24), (18, 25), (19, 27), (19, 28), (19, 29), (19, 30), (19, 31), (20, 0), (20, 1), (20, 2), (20, 3), (20, 4), (20, 5), (20, 6), (20, 7), (20, 8), (20, 9), (20, 10), (20, 11), (20, 12), (20, 13), (20, 14), (20, 15), (20, 16), (20, 17), (15, 16), (20, 18), (20, 19), (15, 12), (15, 14), (15, 15), (15, 18), (15, 19), (20, 20), (20, 21), (20, 22), (20, 23), (20, 24), (20, 25), (20, 26), (20, 27), (20, 28), (20, 29), (20, 30), (20, 31), (21, 0), (21, 1), (21, 2), (21, 3), (21, 4), (21, 5), (21, 6), (21, 7), (21, 8), (21, 9), (21, 10), (21, 11), (32, 15), (32, 16), (32, 23), (32, 24), (32, 25), (32, 26), (31, 29), (31, 30), (31, 31), (32, 0), (32, 1), (32, 2), (32, 3), (32, 17), (32, 18), (32, 19), (32, 20), (32, 21), (32, 22), (32, 27), (32, 28), (32, 29), (32, 30)] (by rfl) (by decide +kernel)) (goodIn_sub (fun _ h => List.mem_append_right _ h) (by decide +kernel))) (goodIn_sub (fun _ h => List.mem_append_left _ (List.mem_append_right _ h)) (by decide +kernel))
set_option maxRecDepth 20000 in
theorem gL_law_L_play : GoodIn wsL_law (va_wsS RL 219 yL_play wsL_play) := goodIn_app (goodIn_of _ (by decide +kernel)) ggL_law_L_play
set_option maxRecDepth 20000 in
theorem ggL_law_X3_play : GoodIn wsL_law wsX3_play := goodIn_rc _ [(27, 23), (21, 16), (14, 21), (14, 22), (1, 7), (3, 21), (3, 22), (3, 23), (0, 5), (3, 24), (1, 3), (3, 25), (3, 26), (3, 27), (2, 14), (2, 15), (2, 16), (2, 17), (2, 18), (21, 17), (14, 24), (14, 25), (14, 26), (14, 27), (14, 28), (14, 29), (14, 30), (0, 13), (0, 14), (14, 31), (15, 0), (15, 1), (15, 2), (15, 3), (15, 4), (15, 5), (15, 6), (15, 7), (15, 8), (15, 9), (15, 10), (22, 28), (18, 27), (18, 28), (18, 29), (18, 30), (18, 31), (15, 17), (19, 0), (19, 1), (15, 20), (19, 2), (19, 3), (5, 31), (19, 4), (15, 29), (15, 30), (15, 31), (16, 0), (16, 1), (16, 2), (16, 3), (16, 4), (16, 5), (16, 6), (16, 7), (16, 8), (16, 9), (16, 10), (16, 11), (16, 12), (16, 13), (16, 14), (16, 15), (16, 16), (16, 17), (16, 18), (16, 19), (16, 20), (16, 21), (16, 22), (16, 23), (16, 24), (16, 25), (16, 26), (16, 27), (16, 28), (16, 29), (16, 30), (16, 31), (17, 0), (17, 1), (17, 2), (17, 3), (17, 4), (17, 5), (17, 6), (17, 7), (17, 8), (17, 9), (19, 5), (19, 6), (19, 7), (19, 8), (19, 9), (19, 10), (19, 11), (19, 12), (18, 11), (19, 13), (19, 14), (19, 15), (17, 28), (17, 29), (17, 30), (19, 16), (19, 17), (18, 1), (19, 18), (18, 3), (19, 19), (19, 20), (18, 6), (19, 21), (19, 22), (19, 23), (19, 24), (19, 25), (19, 26), (18, 8), (18, 9), (18, 10), (18, 12), (18, 13), (3, 28), (3, 29), (3, 30), (3, 31), (1, 4), (11, 12), (11, 13), (11, 14), (11, 15), (1, 5), (11, 16), (11, 17), (11, 18), (11, 19), (11, 20), (11, 21), (11, 22), (11, 23), (11, 24), (11, 25), (11, 26), (11, 27), (11, 28), (11, 29), (11, 30), (11, 31), (12, 0), (12, 1), (12, 2), (12, 3), (5, 8), (5, 9), (5, 10), (5, 11), (12, 4), (12, 5), (12, 6), (12, 7), (12, 8), (12, 9), (12, 10), (12, 11), (12, 12), (12, 13), (12, 14), (12, 15), (12, 16), (12, 17), (12, 18), (12, 19), (1, 6), (6, 21), (6, 22), (6, 23), (12, 20), (12, 21), (12, 22), (12, 23), (27, 24), (27, 25), (27, 26), (27, 27), (21, 19), (21, 20), (21, 21), (21, 22), (21, 23), (21, 24), (21, 25), (21, 26), (21, 27), (21, 28), (21, 29), (21, 30), (21, 31), (22, 0), (22, 1), (22, 2), (22, 3), (22, 4), (22, 5), (22, 6), (20, 9), (22, 7), (22, 8), (22, 9), (22, 10), (20, 10), (20, 8), (22, 11), (22, 12), (22, 13), (22, 14), (22, 15), (22, 16), (22, 17), (22, 18), (22, 19), (22, 20), (22, 21), (17, 14), (17, 15), (17, 16), (17, 17), (17, 18), (17, 19), (17, 20), (17, 12), (17, 21), (17, 22), (17, 23), (17, 24), (17, 25), (17, 26), (17, 27), (17, 31), (18, 0), (18, 2), (18, 4), (18, 5), (18, 7), (22, 22), (22, 23), (22, 24), (22, 25), (22, 26), (22, 27), (22, 29), (19, 28), (19, 29), (19, 30), (19, 31), (20, 0), (20, 1), (20, 2), (20, 3), (20, 4), (20, 5), (20, 6), (20, 7), (20, 11), (20, 12), (20, 13), (20, 14), (20, 15), (20, 16), (20, 17), (15, 16), (20, 18), (20, 19), (15, 12), (15, 14), (15, 15), (15, 18), (15, 19), (20, 20), (20, 21), (20, 22), (20, 23), (20, 24), (20, 25), (20, 26), (20, 27), (20, 28), (20, 29), (20, 30), (20, 31), (21, 0), (21, 1), (21, 2), (21, 3), (21, 4), (21, 5), (21, 6), (21, 7), (21, 8), (21, 9), (21, 10), (21, 11), (32, 23), (32, 24), (32, 25), (32, 26), (32, 4), (32, 5), (32, 6), (32, 7), (32, 8), (32, 9), (32, 10), (32, 11), (32, 12), (32, 13), (32, 14), (32, 27), (32, 28), (32, 29), (32, 30)] (by rfl) (by decide +kernel)
