theorem dX1_told_91 : decode cX1_told 91 = .ok (.aload_n 0, 1) := by decide +kernel
theorem dX1_told_92 : decode cX1_told 92 = .ok (.getfield 10, 3) := by decide +kernel
theorem dX1_told_95 : decode cX1_told 95 = .ok (.invokevirtual 114, 3) := by decide +kernel
theorem dX1_told_98 : decode cX1_told 98 = .ok (.ireturn, 1) := by decide +kernel
set_option maxRecDepth 20000 in
theorem ggX1_ofPlace_X1_checkPlace : GoodIn wsX1_ofPlace wsX1_checkPlace := goodIn_ca (goodIn_rc _ [(0, 6), (0, 7), (0, 8), (0, 1), (1, 8), (1, 9), (1, 10), (1, 11), (1, 12), (1, 13), (1, 14), (1, 15), (1, 16), (1, 17), (1, 18), (1, 19), (1, 20)] (by rfl) (by decide +kernel)) (goodIn_sub (fun _ h => List.mem_cons_of_mem _ (List.mem_append_left _ (List.mem_append_right _ h))) (by decide +kernel))
set_option maxRecDepth 20000 in
theorem gX1_ofPlace_X1_checkPlace : GoodIn wsX1_ofPlace (wsV RX1 40 RX1 yX1_checkPlace wsX1_checkPlace) := goodIn_app (goodIn_of _ (by decide +kernel)) ggX1_ofPlace_X1_checkPlace
set_option maxRecDepth 20000 in
theorem ggX1_ofPlace_X1_checkBetween : GoodIn wsX1_ofPlace wsX1_checkBetween := goodIn_ca (goodIn_rc _ [(0, 11), (0, 12), (0, 13)] (by rfl) (by decide +kernel)) (goodIn_sub (fun _ h => List.mem_cons_of_mem _ (List.mem_append_right _ h)) (by decide +kernel))
set_option maxRecDepth 20000 in
theorem gX1_ofPlace_X1_checkBetween : GoodIn wsX1_ofPlace (va_wsS RX1 19 yX1_checkBetween wsX1_checkBetween) := goodIn_app (goodIn_of _ (by decide +kernel)) ggX1_ofPlace_X1_checkBetween
set_option maxRecDepth 20000 in
theorem ggX1_ofPlace_X0_sideOf : GoodIn wsX1_ofPlace wsX0_sideOf := goodIn_rc _ [(0, 18), (0, 19), (1, 15), (1, 16), (1, 17), (1, 18), (1, 19), (1, 20)] (by rfl) (by decide +kernel)
set_option maxRecDepth 20000 in
theorem gX1_ofPlace_X0_sideOf : GoodIn wsX1_ofPlace (wsV RX1 46 RX0 yX0_sideOf wsX0_sideOf) := goodIn_app (goodIn_of _ (by decide +kernel)) ggX1_ofPlace_X0_sideOf
set_option maxRecDepth 20000 in
theorem ggX1_ofPlace_X0_rankOf : GoodIn wsX1_ofPlace wsX0_rankOf := goodIn_rc _ [(0, 23), (0, 24), (0, 25), (0, 26), (0, 5), (0, 27), (1, 15), (1, 16), (1, 17), (1, 18), (1, 19), (1, 20)] (by rfl) (by decide +kernel)
set_option maxRecDepth 20000 in
theorem gX1_ofPlace_X0_rankOf : GoodIn wsX1_ofPlace (wsV RX1 54 RX0 yX0_rankOf wsX0_rankOf) := goodIn_app (goodIn_of _ (by decide +kernel)) ggX1_ofPlace_X0_rankOf
set_option maxRecDepth 20000 in
theorem ggX1_ofPlace_X1_has : GoodIn wsX1_ofPlace wsX1_has := goodIn_rc _ [(0, 27)] (by rfl) (by decide +kernel)
set_option maxRecDepth 20000 in
theorem gX1_ofPlace_X1_has : GoodIn wsX1_ofPlace (va_wsS RX1 69 yX1_has wsX1_has) := goodIn_app (goodIn_of _ (by decide +kernel)) ggX1_ofPlace_X1_has
set_option maxRecDepth 20000 in
theorem ggX1_ofPlace_X0_waysFrom : GoodIn wsX1_ofPlace wsX0_waysFrom := goodIn_rc _ [(1, 0), (1, 1), (1, 15), (1, 16), (1, 17), (1, 18), (1, 19), (1, 20)] (by rfl) (by decide +kernel)
set_option maxRecDepth 20000 in
theorem gX1_ofPlace_X0_waysFrom : GoodIn wsX1_ofPlace (wsV RX1 66 RX0 yX0_waysFrom wsX0_waysFrom) := goodIn_app (goodIn_of _ (by decide +kernel)) ggX1_ofPlace_X0_waysFrom
set_option maxRecDepth 20000 in
theorem ggX1_ofPlace_X0_waysInto : GoodIn wsX1_ofPlace wsX0_waysInto := goodIn_rc _ [(1, 5), (1, 6), (1, 7), (0, 30), (0, 31), (0, 17), (1, 0), (1, 1), (0, 26), (0, 5), (0, 27), (1, 15), (1, 16), (1, 17), (1, 18), (1, 19), (1, 20)] (by rfl) (by decide +kernel)
set_option maxRecDepth 20000 in
theorem gX1_ofPlace_X0_waysInto : GoodIn wsX1_ofPlace (wsV RX1 117 RX0 yX0_waysInto wsX0_waysInto) := goodIn_app (goodIn_of _ (by decide +kernel)) ggX1_ofPlace_X0_waysInto
theorem dX1_ofPlace_0 : decode cX1_ofPlace 0 = .ok (.aload_n 0, 1) := by decide +kernel
theorem dX1_ofPlace_1 : decode cX1_ofPlace 1 = .ok (.iload_n 1, 1) := by decide +kernel
theorem dX1_ofPlace_2 : decode cX1_ofPlace 2 = .ok (.invokevirtual 40, 3) := by decide +kernel
theorem dX1_ofPlace_5 : decode cX1_ofPlace 5 = .ok (.iload_n 2, 1) := by decide +kernel
theorem dX1_ofPlace_6 : decode cX1_ofPlace 6 = .ok (.iconst 0, 1) := by decide +kernel
theorem dX1_ofPlace_7 : decode cX1_ofPlace 7 = .ok (.iconst 4, 1) := by decide +kernel
theorem dX1_ofPlace_8 : decode cX1_ofPlace 8 = .ok (.invokestatic 19, 3) := by decide +kernel
theorem dX1_ofPlace_11 : decode cX1_ofPlace 11 = .ok (.iload_n 2, 1) := by decide +kernel
theorem dX1_ofPlace_12 : decode cX1_ofPlace 12 = .ok (.tableswitch 79 0 3 #[32, 41, 50, 70], 32) := by decide +kernel
theorem dX1_ofPlace_44 : decode cX1_ofPlace 44 = .ok (.aload_n 0, 1) := by decide +kernel
theorem dX1_ofPlace_45 : decode cX1_ofPlace 45 = .ok (.getfield 10, 3) := by decide +kernel
theorem dX1_ofPlace_48 : decode cX1_ofPlace 48 = .ok (.iload_n 1, 1) := by decide +kernel
theorem dX1_ofPlace_49 : decode cX1_ofPlace 49 = .ok (.invokevirtual 46, 3) := by decide +kernel
theorem dX1_ofPlace_52 : decode cX1_ofPlace 52 = .ok (.ireturn, 1) := by decide +kernel
theorem dX1_ofPlace_53 : decode cX1_ofPlace 53 = .ok (.aload_n 0, 1) := by decide +kernel
theorem dX1_ofPlace_54 : decode cX1_ofPlace 54 = .ok (.getfield 10, 3) := by decide +kernel
theorem dX1_ofPlace_57 : decode cX1_ofPlace 57 = .ok (.iload_n 1, 1) := by decide +kernel
theorem dX1_ofPlace_58 : decode cX1_ofPlace 58 = .ok (.invokevirtual 54, 3) := by decide +kernel
theorem dX1_ofPlace_61 : decode cX1_ofPlace 61 = .ok (.ireturn, 1) := by decide +kernel
theorem dX1_ofPlace_62 : decode cX1_ofPlace 62 = .ok (.aload_n 0, 1) := by decide +kernel
theorem dX1_ofPlace_63 : decode cX1_ofPlace 63 = .ok (.getfield 10, 3) := by decide +kernel
theorem dX1_ofPlace_66 : decode cX1_ofPlace 66 = .ok (.getfield 63, 3) := by decide +kernel
theorem dX1_ofPlace_69 : decode cX1_ofPlace 69 = .ok (.iload_n 1, 1) := by decide +kernel
theorem dX1_ofPlace_70 : decode cX1_ofPlace 70 = .ok (.invokestatic 69, 3) := by decide +kernel
theorem dX1_ofPlace_73 : decode cX1_ofPlace 73 = .ok (.ifCond .eq 7, 3) := by decide +kernel
theorem dX1_ofPlace_76 : decode cX1_ofPlace 76 = .ok (.iconst 1, 1) := by decide +kernel
theorem dX1_ofPlace_77 : decode cX1_ofPlace 77 = .ok (.goto 4, 3) := by decide +kernel
theorem dX1_ofPlace_80 : decode cX1_ofPlace 80 = .ok (.iconst 0, 1) := by decide +kernel
theorem dX1_ofPlace_81 : decode cX1_ofPlace 81 = .ok (.ireturn, 1) := by decide +kernel
theorem dX1_ofPlace_82 : decode cX1_ofPlace 82 = .ok (.aload_n 0, 1) := by decide +kernel
theorem dX1_ofPlace_83 : decode cX1_ofPlace 83 = .ok (.getfield 10, 3) := by decide +kernel
theorem dX1_ofPlace_86 : decode cX1_ofPlace 86 = .ok (.iload_n 1, 1) := by decide +kernel
theorem dX1_ofPlace_87 : decode cX1_ofPlace 87 = .ok (.invokevirtual 66, 3) := by decide +kernel
theorem dX1_ofPlace_90 : decode cX1_ofPlace 90 = .ok (.ireturn, 1) := by decide +kernel
theorem dX1_ofPlace_91 : decode cX1_ofPlace 91 = .ok (.aload_n 0, 1) := by decide +kernel
theorem dX1_ofPlace_92 : decode cX1_ofPlace 92 = .ok (.getfield 10, 3) := by decide +kernel
theorem dX1_ofPlace_95 : decode cX1_ofPlace 95 = .ok (.iload_n 1, 1) := by decide +kernel
theorem dX1_ofPlace_96 : decode cX1_ofPlace 96 = .ok (.invokevirtual 117, 3) := by decide +kernel
theorem dX1_ofPlace_99 : decode cX1_ofPlace 99 = .ok (.ireturn, 1) := by decide +kernel
set_option maxRecDepth 20000 in
theorem ggX1_isWay_X1_checkPlace : GoodIn wsX1_isWay wsX1_checkPlace := goodIn_ca (goodIn_rc _ [(0, 6), (0, 7), (0, 8), (0, 1), (0, 18), (0, 19), (0, 20), (0, 21), (0, 22), (0, 23), (0, 24), (0, 25), (0, 26), (0, 27), (0, 28), (0, 29), (0, 30)] (by rfl) (by decide +kernel)) (goodIn_sub (fun _ h => List.mem_cons_of_mem _ (List.mem_append_right _ h)) (by decide +kernel))
set_option maxRecDepth 20000 in
theorem gX1_isWay_X1_checkPlace : GoodIn wsX1_isWay (wsV RX1 40 RX1 yX1_checkPlace wsX1_checkPlace) := goodIn_app (goodIn_of _ (by decide +kernel)) ggX1_isWay_X1_checkPlace
set_option maxRecDepth 20000 in
theorem ggX1_isWay_X0_waysFrom : GoodIn wsX1_isWay wsX0_waysFrom := goodIn_rc _ [(0, 13), (0, 14), (0, 25), (0, 26), (0, 27), (0, 28), (0, 29), (0, 30)] (by rfl) (by decide +kernel)
set_option maxRecDepth 20000 in
theorem gX1_isWay_X0_waysFrom : GoodIn wsX1_isWay (wsV RX1 66 RX0 yX0_waysFrom wsX0_waysFrom) := goodIn_app (goodIn_of _ (by decide +kernel)) ggX1_isWay_X0_waysFrom
set_option maxRecDepth 20000 in
theorem ggX1_isWay_X1_has : GoodIn wsX1_isWay wsX1_has := goodIn_rc _ [(0, 17)] (by rfl) (by decide +kernel)
set_option maxRecDepth 20000 in
theorem gX1_isWay_X1_has : GoodIn wsX1_isWay (va_wsS RX1 69 yX1_has wsX1_has) := goodIn_app (goodIn_of _ (by decide +kernel)) ggX1_isWay_X1_has
theorem dX1_isWay_0 : decode cX1_isWay 0 = .ok (.aload_n 0, 1) := by decide +kernel
theorem dX1_isWay_1 : decode cX1_isWay 1 = .ok (.iload_n 1, 1) := by decide +kernel
theorem dX1_isWay_2 : decode cX1_isWay 2 = .ok (.invokevirtual 40, 3) := by decide +kernel
theorem dX1_isWay_5 : decode cX1_isWay 5 = .ok (.aload_n 0, 1) := by decide +kernel
theorem dX1_isWay_6 : decode cX1_isWay 6 = .ok (.iload_n 2, 1) := by decide +kernel
theorem dX1_isWay_7 : decode cX1_isWay 7 = .ok (.invokevirtual 40, 3) := by decide +kernel
theorem dX1_isWay_10 : decode cX1_isWay 10 = .ok (.aload_n 0, 1) := by decide +kernel
theorem dX1_isWay_11 : decode cX1_isWay 11 = .ok (.getfield 10, 3) := by decide +kernel
theorem dX1_isWay_14 : decode cX1_isWay 14 = .ok (.iload_n 1, 1) := by decide +kernel
theorem dX1_isWay_15 : decode cX1_isWay 15 = .ok (.invokevirtual 66, 3) := by decide +kernel
theorem dX1_isWay_18 : decode cX1_isWay 18 = .ok (.iload_n 2, 1) := by decide +kernel
theorem dX1_isWay_19 : decode cX1_isWay 19 = .ok (.invokestatic 69, 3) := by decide +kernel
theorem dX1_isWay_22 : decode cX1_isWay 22 = .ok (.ireturn, 1) := by decide +kernel
set_option maxRecDepth 20000 in
theorem ggX1_ways_X1_checkPlace : GoodIn wsX1_ways wsX1_checkPlace := goodIn_ca (goodIn_rc _ [(0, 9), (0, 10), (0, 11), (0, 1), (7, 13), (7, 14), (7, 15), (7, 16), (7, 17), (7, 18), (7, 19), (7, 24), (7, 25), (7, 26), (7, 27), (7, 28), (7, 29)] (by rfl) (by decide +kernel)) (goodIn_sub (fun _ h => List.mem_cons_of_mem _ (List.mem_append_right _ h)) (by decide +kernel))
set_option maxRecDepth 20000 in
theorem gX1_ways_X1_checkPlace : GoodIn wsX1_ways (wsV RX1 40 RX1 yX1_checkPlace wsX1_checkPlace) := goodIn_app (goodIn_of _ (by decide +kernel)) ggX1_ways_X1_checkPlace
set_option maxRecDepth 20000 in
theorem ggX1_ways_X0_waysFrom : GoodIn wsX1_ways wsX0_waysFrom := goodIn_rc _ [(0, 16), (0, 17), (7, 24), (7, 25), (7, 26), (7, 27), (7, 28), (7, 29)] (by rfl) (by decide +kernel)
set_option maxRecDepth 20000 in
theorem gX1_ways_X0_waysFrom : GoodIn wsX1_ways (wsV RX1 66 RX0 yX0_waysFrom wsX0_waysFrom) := goodIn_app (goodIn_of _ (by decide +kernel)) ggX1_ways_X0_waysFrom
set_option maxRecDepth 20000 in
theorem ggX1_ways_J4_init_da8c8 : GoodIn wsX1_ways wsJ4_init_da8c8 := goodIn_rc _ [(0, 20), (0, 21), (0, 22), (0, 23), (0, 24), (0, 25), (0, 26), (0, 27), (0, 28), (0, 29), (0, 30), (0, 31), (1, 0), (1, 1), (1, 2), (1, 3), (1, 4), (1, 5), (1, 6), (1, 7), (7, 20), (7, 21), (7, 22), (7, 23)] (by rfl) (by decide +kernel)
set_option maxRecDepth 20000 in
theorem gX1_ways_J4_init_da8c8 : GoodIn wsX1_ways (wsJ4_init_da8c8) := ggX1_ways_J4_init_da8c8
set_option maxRecDepth 20000 in
theorem ggX1_ways_X1_has : GoodIn wsX1_ways wsX1_has := goodIn_rc _ [(1, 10)] (by rfl) (by decide +kernel)
set_option maxRecDepth 20000 in
theorem gX1_ways_X1_has : GoodIn wsX1_ways (va_wsS RX1 69 yX1_has wsX1_has) := goodIn_app (goodIn_of _ (by decide +kernel)) ggX1_ways_X1_has
set_option maxRecDepth 20000 in
theorem ggX1_ways_J4_length_8abf5 : GoodIn wsX1_ways wsJ4_length_8abf5 := goodIn_rc _ [(1, 14), (1, 15), (1, 16), (1, 17), (1, 18), (0, 23), (1, 19), (1, 20), (7, 20), (7, 21), (7, 22), (7, 23)] (by rfl) (by decide +kernel)
set_option maxRecDepth 20000 in
theorem gX1_ways_J4_length_8abf5 : GoodIn wsX1_ways (wsV RX1 123 RJ4 yJ4_length_8abf5 wsJ4_length_8abf5) := goodIn_app (goodIn_of _ (by decide +kernel)) ggX1_ways_J4_length_8abf5
set_option maxRecDepth 20000 in
theorem ggX1_ways_J4_append_cf468 : GoodIn wsX1_ways wsJ4_append_cf468 := goodIn_rc _ [(1, 24), (1, 25), (1, 26), (1, 17), (1, 27), (0, 23), (1, 28), (1, 20), (0, 30), (1, 29), (1, 30), (1, 31), (2, 0), (2, 1), (0, 31), (2, 2), (2, 3), (2, 4), (2, 5), (2, 6), (2, 7), (2, 8), (2, 9), (2, 10), (2, 11), (2, 12), (2, 13), (2, 14), (2, 15), (2, 16), (2, 17), (2, 18), (2, 19), (2, 20), (2, 21), (2, 22), (2, 23), (2, 24), (2, 25), (2, 26), (2, 27), (2, 28), (2, 29), (0, 29), (2, 30), (2, 31), (3, 0), (3, 1), (3, 2), (3, 3), (3, 4), (3, 5), (3, 6), (3, 7), (3, 8), (3, 9), (0, 28), (3, 10), (3, 11), (3, 12), (3, 13), (3, 14), (3, 15), (3, 16), (3, 17), (3, 18), (1, 0), (1, 1), (1, 2), (1, 3), (1, 4), (1, 5), (1, 6), (1, 7), (3, 19), (3, 20), (3, 21), (3, 22), (3, 23), (3, 24), (3, 25), (3, 26), (3, 27), (3, 28), (3, 29), (3, 30), (3, 31), (4, 0), (4, 1), (4, 2), (4, 3), (4, 4), (4, 5), (4, 6), (4, 7), (4, 8), (4, 9), (4, 10), (4, 11), (4, 12), (4, 13), (4, 14), (4, 15), (4, 16), (4, 17), (4, 18), (4, 19), (4, 20), (4, 21), (4, 22), (4, 23), (4, 24), (4, 25), (7, 20), (7, 21), (7, 22), (7, 23)] (by rfl) (by decide +kernel)
set_option maxRecDepth 20000 in
theorem gX1_ways_J4_append_cf468 : GoodIn wsX1_ways (wsV RX1 126 RJ4 yJ4_append_cf468 wsJ4_append_cf468) := goodIn_app (goodIn_of _ (by decide +kernel)) ggX1_ways_J4_append_cf468
set_option maxRecDepth 20000 in
theorem ggX1_ways_J4_append_bf812 : GoodIn wsX1_ways wsJ4_append_bf812 := goodIn_rc _ [(4, 29), (4, 30), (4, 31), (1, 17), (5, 0), (0, 23), (5, 1), (1, 20), (0, 30), (5, 2), (5, 3), (5, 4), (5, 5), (1, 29), (1, 30), (1, 31), (2, 0), (2, 1), (0, 31), (2, 2), (2, 3), (2, 4), (2, 5), (2, 6), (2, 7), (2, 8), (2, 9), (2, 10), (2, 11), (2, 12), (2, 13), (2, 14), (2, 15), (2, 16), (2, 17), (2, 18), (2, 19), (2, 20), (2, 21), (2, 22), (2, 23), (2, 24), (2, 25), (2, 26), (2, 27), (2, 28), (2, 29), (0, 29), (2, 30), (2, 31), (3, 0), (3, 1), (3, 2), (3, 3), (3, 4), (3, 5), (3, 6), (3, 7), (3, 8), (3, 9), (0, 28), (5, 6), (5, 7), (5, 8), (5, 9), (5, 10), (5, 11), (5, 12), (1, 2), (5, 13), (4, 11), (5, 14), (5, 15), (5, 16), (3, 28), (3, 29), (3, 30), (5, 17), (5, 18), (4, 1), (5, 19), (4, 3), (5, 20), (5, 21), (4, 6), (5, 22), (5, 23), (5, 24), (5, 25), (5, 26), (5, 27), (4, 8), (4, 9), (4, 10), (4, 12), (4, 13), (7, 20), (7, 21), (7, 22), (7, 23)] (by rfl) (by decide +kernel)
set_option maxRecDepth 20000 in
theorem gX1_ways_J4_append_bf812 : GoodIn wsX1_ways (wsV RX1 130 RJ4 yJ4_append_bf812 wsJ4_append_bf812) := goodIn_app (goodIn_of _ (by decide +kernel)) ggX1_ways_J4_append_bf812
set_option maxRecDepth 20000 in
theorem ggX1_ways_J4_toString_0e30d : GoodIn wsX1_ways wsJ4_toString_0e30d := goodIn_rc _ [(5, 31), (6, 0), (6, 1), (4, 1), (6, 2), (6, 3), (6, 4), (6, 5), (6, 6), (6, 7), (6, 8), (0, 26), (0, 27), (6, 9), (6, 10), (6, 11), (6, 12), (6, 13), (6, 14), (6, 15), (6, 16), (0, 23), (6, 17), (0, 30), (6, 18), (1, 16), (6, 19), (6, 20), (1, 12), (0, 4), (1, 14), (1, 15), (1, 17), (1, 18), (1, 19), (1, 20), (6, 21), (3, 6), (3, 7), (3, 8), (3, 9), (0, 28), (0, 31), (6, 22), (6, 23), (2, 22), (6, 24), (2, 24), (2, 25), (2, 26), (2, 27), (2, 28), (2, 29), (6, 25), (6, 26), (6, 27), (0, 29), (2, 30), (2, 31), (2, 14), (3, 0), (3, 1), (3, 2), (3, 3), (3, 4), (6, 28), (6, 29), (6, 30), (6, 31), (0, 3), (7, 0), (7, 1), (1, 2), (7, 2), (7, 3), (7, 4), (7, 5), (3, 25), (3, 26), (3, 27), (3, 28), (3, 29), (3, 30), (3, 31), (4, 0), (4, 2), (4, 3), (4, 4), (4, 5), (4, 6), (4, 7), (7, 6), (7, 7), (7, 8), (4, 11), (4, 12), (4, 13), (1, 4), (1, 5), (1, 6), (1, 7), (7, 9), (7, 10), (7, 11), (7, 12), (7, 30), (7, 31), (8, 0), (8, 1), (7, 20), (7, 21), (7, 22), (7, 23)] (by rfl) (by decide +kernel)
set_option maxRecDepth 20000 in
theorem gX1_ways_J4_toString_0e30d : GoodIn wsX1_ways (wsV RX1 133 RJ4 yJ4_toString_0e30d wsJ4_toString_0e30d) := goodIn_app (goodIn_of _ (by decide +kernel)) ggX1_ways_J4_toString_0e30d
theorem dX1_ways_0 : decode cX1_ways 0 = .ok (.aload_n 0, 1) := by decide +kernel
theorem dX1_ways_1 : decode cX1_ways 1 = .ok (.iload_n 1, 1) := by decide +kernel
theorem dX1_ways_2 : decode cX1_ways 2 = .ok (.invokevirtual 40, 3) := by decide +kernel
theorem dX1_ways_5 : decode cX1_ways 5 = .ok (.aload_n 0, 1) := by decide +kernel
theorem dX1_ways_6 : decode cX1_ways 6 = .ok (.getfield 10, 3) := by decide +kernel
theorem dX1_ways_9 : decode cX1_ways 9 = .ok (.iload_n 1, 1) := by decide +kernel
theorem dX1_ways_10 : decode cX1_ways 10 = .ok (.invokevirtual 66, 3) := by decide +kernel
theorem dX1_ways_13 : decode cX1_ways 13 = .ok (.istore_n 2, 1) := by decide +kernel
theorem dX1_ways_14 : decode cX1_ways 14 = .ok (.new 120, 3) := by decide +kernel
theorem dX1_ways_17 : decode cX1_ways 17 = .ok (.dup, 1) := by decide +kernel
theorem dX1_ways_18 : decode cX1_ways 18 = .ok (.invokespecial 122, 3) := by decide +kernel
theorem dX1_ways_21 : decode cX1_ways 21 = .ok (.astore_n 3, 1) := by decide +kernel
theorem dX1_ways_22 : decode cX1_ways 22 = .ok (.iconst 0, 1) := by decide +kernel
theorem dX1_ways_23 : decode cX1_ways 23 = .ok (.istore 4, 2) := by decide +kernel
theorem dX1_ways_25 : decode cX1_ways 25 = .ok (.iload 4, 2) := by decide +kernel
theorem dX1_ways_27 : decode cX1_ways 27 = .ok (.aload_n 0, 1) := by decide +kernel
theorem dX1_ways_28 : decode cX1_ways 28 = .ok (.getfield 10, 3) := by decide +kernel
theorem dX1_ways_31 : decode cX1_ways 31 = .ok (.getfield 23, 3) := by decide +kernel
theorem dX1_ways_34 : decode cX1_ways 34 = .ok (.if_icmp .ge 39, 3) := by decide +kernel
theorem dX1_ways_37 : decode cX1_ways 37 = .ok (.iload_n 2, 1) := by decide +kernel
theorem dX1_ways_38 : decode cX1_ways 38 = .ok (.iload 4, 2) := by decide +kernel
theorem dX1_ways_40 : decode cX1_ways 40 = .ok (.invokestatic 69, 3) := by decide +kernel
theorem dX1_ways_43 : decode cX1_ways 43 = .ok (.ifCond .eq 24, 3) := by decide +kernel
theorem dX1_ways_46 : decode cX1_ways 46 = .ok (.aload_n 3, 1) := by decide +kernel
theorem dX1_ways_47 : decode cX1_ways 47 = .ok (.invokevirtual 123, 3) := by decide +kernel
theorem dX1_ways_50 : decode cX1_ways 50 = .ok (.ifCond .le 10, 3) := by decide +kernel
theorem dX1_ways_53 : decode cX1_ways 53 = .ok (.aload_n 3, 1) := by decide +kernel
theorem dX1_ways_54 : decode cX1_ways 54 = .ok (.bipush 32, 2) := by decide +kernel
theorem dX1_ways_56 : decode cX1_ways 56 = .ok (.invokevirtual 126, 3) := by decide +kernel
theorem dX1_ways_59 : decode cX1_ways 59 = .ok (.pop, 1) := by decide +kernel
theorem dX1_ways_60 : decode cX1_ways 60 = .ok (.aload_n 3, 1) := by decide +kernel
theorem dX1_ways_61 : decode cX1_ways 61 = .ok (.iload 4, 2) := by decide +kernel
theorem dX1_ways_63 : decode cX1_ways 63 = .ok (.invokevirtual 130, 3) := by decide +kernel
theorem dX1_ways_66 : decode cX1_ways 66 = .ok (.pop, 1) := by decide +kernel
theorem dX1_ways_67 : decode cX1_ways 67 = .ok (.iinc 4 1, 3) := by decide +kernel
theorem dX1_ways_70 : decode cX1_ways 70 = .ok (.goto (-45), 3) := by decide +kernel
theorem dX1_ways_73 : decode cX1_ways 73 = .ok (.aload_n 3, 1) := by decide +kernel
theorem dX1_ways_74 : decode cX1_ways 74 = .ok (.invokevirtual 133, 3) := by decide +kernel
theorem dX1_ways_77 : decode cX1_ways 77 = .ok (.areturn, 1) := by decide +kernel
set_option maxRecDepth 20000 in
theorem ggX1_ahead_X1_checkSet : GoodIn wsX1_ahead wsX1_checkSet := goodIn_ca (goodIn_rc _ [(0, 6), (0, 1), (0, 7), (0, 8), (0, 9), (0, 10), (0, 11), (0, 12), (0, 13), (0, 14), (0, 5), (0, 15), (0, 16), (0, 17), (0, 27), (0, 28), (0, 29), (0, 30), (0, 31), (1, 0), (1, 1), (1, 2), (1, 3), (1, 4), (1, 5), (1, 6), (1, 7)] (by rfl) (by decide +kernel)) (goodIn_sub (fun _ h => List.mem_cons_of_mem _ (List.mem_append_right _ h)) (by decide +kernel))
set_option maxRecDepth 20000 in
theorem gX1_ahead_X1_checkSet : GoodIn wsX1_ahead (wsV RX1 60 RX1 yX1_checkSet wsX1_checkSet) := goodIn_app (goodIn_of _ (by decide +kernel)) ggX1_ahead_X1_checkSet
set_option maxRecDepth 20000 in
theorem ggX1_ahead_X1_checkSide : GoodIn wsX1_ahead wsX1_checkSide := goodIn_ca (goodIn_rc _ [(0, 20), (0, 13), (0, 14), (0, 5), (0, 15), (0, 16), (0, 17)] (by rfl) (by decide +kernel)) (goodIn_sub (fun _ h => List.mem_cons_of_mem _ (List.mem_append_right _ h)) (by decide +kernel))
set_option maxRecDepth 20000 in
theorem gX1_ahead_X1_checkSide : GoodIn wsX1_ahead (va_wsS RX1 43 yX1_checkSide wsX1_checkSide) := goodIn_app (goodIn_of _ (by decide +kernel)) ggX1_ahead_X1_checkSide
set_option maxRecDepth 20000 in
theorem ggX1_ahead_X0_seenBefore : GoodIn wsX1_ahead wsX0_seenBefore := goodIn_rc _ [(0, 24), (0, 12), (0, 25), (0, 26), (1, 2), (1, 3), (1, 4), (1, 5), (1, 6), (1, 7)] (by rfl) (by decide +kernel)
set_option maxRecDepth 20000 in
theorem gX1_ahead_X0_seenBefore : GoodIn wsX1_ahead (wsV RX1 137 RX0 yX0_seenBefore wsX0_seenBefore) := goodIn_app (goodIn_of _ (by decide +kernel)) ggX1_ahead_X0_seenBefore
theorem dX1_ahead_0 : decode cX1_ahead 0 = .ok (.aload_n 0, 1) := by decide +kernel
theorem dX1_ahead_1 : decode cX1_ahead 1 = .ok (.iload_n 1, 1) := by decide +kernel
theorem dX1_ahead_2 : decode cX1_ahead 2 = .ok (.invokevirtual 60, 3) := by decide +kernel
theorem dX1_ahead_5 : decode cX1_ahead 5 = .ok (.iload_n 2, 1) := by decide +kernel
theorem dX1_ahead_6 : decode cX1_ahead 6 = .ok (.invokestatic 43, 3) := by decide +kernel
theorem dX1_ahead_9 : decode cX1_ahead 9 = .ok (.aload_n 0, 1) := by decide +kernel
theorem dX1_ahead_10 : decode cX1_ahead 10 = .ok (.getfield 10, 3) := by decide +kernel
theorem dX1_ahead_13 : decode cX1_ahead 13 = .ok (.iload_n 1, 1) := by decide +kernel
theorem dX1_ahead_14 : decode cX1_ahead 14 = .ok (.iload_n 2, 1) := by decide +kernel
theorem dX1_ahead_15 : decode cX1_ahead 15 = .ok (.invokevirtual 137, 3) := by decide +kernel
theorem dX1_ahead_18 : decode cX1_ahead 18 = .ok (.ireturn, 1) := by decide +kernel
set_option maxRecDepth 20000 in
theorem ggX1_coming_X1_checkSide : GoodIn wsX1_coming wsX1_checkSide := goodIn_ca (goodIn_rc _ [(0, 5), (0, 6), (0, 7), (0, 4), (0, 8), (0, 9), (0, 10)] (by rfl) (by decide +kernel)) (goodIn_sub (fun _ h => List.mem_cons_of_mem _ (List.mem_append_right _ h)) (by decide +kernel))
set_option maxRecDepth 20000 in
theorem gX1_coming_X1_checkSide : GoodIn wsX1_coming (va_wsS RX1 43 yX1_checkSide wsX1_checkSide) := goodIn_app (goodIn_of _ (by decide +kernel)) ggX1_coming_X1_checkSide
set_option maxRecDepth 20000 in
theorem ggX1_coming_X0_won : GoodIn wsX1_coming wsX0_won := goodIn_rc _ [(0, 15), (0, 16), (0, 17), (0, 18), (0, 19), (0, 14), (0, 20), (0, 21), (0, 22), (0, 23), (0, 24), (0, 25), (0, 26), (0, 27), (0, 28), (0, 29), (0, 30), (0, 31), (1, 0), (1, 1), (1, 2), (1, 3), (1, 4), (1, 5), (1, 6), (1, 7), (1, 8), (1, 9), (1, 10), (1, 11), (1, 12), (1, 13), (1, 21), (1, 22), (1, 23), (1, 24), (1, 25), (1, 26)] (by rfl) (by decide +kernel)
set_option maxRecDepth 20000 in
theorem gX1_coming_X0_won : GoodIn wsX1_coming (wsV RX1 141 RX0 yX0_won wsX0_won) := goodIn_app (goodIn_of _ (by decide +kernel)) ggX1_coming_X0_won
theorem dX1_coming_0 : decode cX1_coming 0 = .ok (.iload_n 1, 1) := by decide +kernel
theorem dX1_coming_1 : decode cX1_coming 1 = .ok (.invokestatic 43, 3) := by decide +kernel
theorem dX1_coming_4 : decode cX1_coming 4 = .ok (.aload_n 0, 1) := by decide +kernel
theorem dX1_coming_5 : decode cX1_coming 5 = .ok (.getfield 10, 3) := by decide +kernel
theorem dX1_coming_8 : decode cX1_coming 8 = .ok (.iconst 0, 1) := by decide +kernel
theorem dX1_coming_9 : decode cX1_coming 9 = .ok (.iload_n 1, 1) := by decide +kernel
theorem dX1_coming_10 : decode cX1_coming 10 = .ok (.invokevirtual 141, 3) := by decide +kernel
theorem dX1_coming_13 : decode cX1_coming 13 = .ok (.ireturn, 1) := by decide +kernel
set_option maxRecDepth 20000 in
theorem ggX1_keeping_X1_checkSide : GoodIn wsX1_keeping wsX1_checkSide := goodIn_ca (goodIn_rc _ [(0, 5), (0, 6), (0, 7), (0, 4), (0, 8), (0, 9), (0, 10)] (by rfl) (by decide +kernel)) (goodIn_sub (fun _ h => List.mem_cons_of_mem _ (List.mem_append_right _ h)) (by decide +kernel))
set_option maxRecDepth 20000 in
theorem gX1_keeping_X1_checkSide : GoodIn wsX1_keeping (va_wsS RX1 43 yX1_checkSide wsX1_checkSide) := goodIn_app (goodIn_of _ (by decide +kernel)) ggX1_keeping_X1_checkSide
set_option maxRecDepth 20000 in
theorem ggX1_keeping_X0_won : GoodIn wsX1_keeping wsX0_won := goodIn_rc _ [(0, 15), (0, 16), (0, 17), (0, 18), (0, 19), (0, 14), (0, 20), (0, 21), (0, 22), (0, 23), (0, 24), (0, 25), (0, 26), (0, 27), (0, 28), (0, 29), (0, 30), (0, 31), (1, 0), (1, 1), (1, 2), (1, 3), (1, 4), (1, 5), (1, 6), (1, 7), (1, 8), (1, 9), (1, 10), (1, 11), (1, 12), (1, 13), (1, 21), (1, 22), (1, 23), (1, 24), (1, 25), (1, 26)] (by rfl) (by decide +kernel)
set_option maxRecDepth 20000 in
theorem gX1_keeping_X0_won : GoodIn wsX1_keeping (wsV RX1 141 RX0 yX0_won wsX0_won) := goodIn_app (goodIn_of _ (by decide +kernel)) ggX1_keeping_X0_won
theorem dX1_keeping_0 : decode cX1_keeping 0 = .ok (.iload_n 1, 1) := by decide +kernel
theorem dX1_keeping_1 : decode cX1_keeping 1 = .ok (.invokestatic 43, 3) := by decide +kernel
theorem dX1_keeping_4 : decode cX1_keeping 4 = .ok (.aload_n 0, 1) := by decide +kernel
theorem dX1_keeping_5 : decode cX1_keeping 5 = .ok (.getfield 10, 3) := by decide +kernel
theorem dX1_keeping_8 : decode cX1_keeping 8 = .ok (.iconst 1, 1) := by decide +kernel
theorem dX1_keeping_9 : decode cX1_keeping 9 = .ok (.iload_n 1, 1) := by decide +kernel
theorem dX1_keeping_10 : decode cX1_keeping 10 = .ok (.invokevirtual 141, 3) := by decide +kernel
theorem dX1_keeping_13 : decode cX1_keeping 13 = .ok (.ireturn, 1) := by decide +kernel
set_option maxRecDepth 20000 in
theorem ggX1_again_X1_checkSide : GoodIn wsX1_again wsX1_checkSide := goodIn_ca (goodIn_rc _ [(0, 5), (0, 6), (0, 7), (0, 4), (0, 8), (0, 9), (0, 10)] (by rfl) (by decide +kernel)) (goodIn_sub (fun _ h => List.mem_cons_of_mem _ (List.mem_append_right _ h)) (by decide +kernel))
set_option maxRecDepth 20000 in
theorem gX1_again_X1_checkSide : GoodIn wsX1_again (va_wsS RX1 43 yX1_checkSide wsX1_checkSide) := goodIn_app (goodIn_of _ (by decide +kernel)) ggX1_again_X1_checkSide
set_option maxRecDepth 20000 in
theorem ggX1_again_X0_won : GoodIn wsX1_again wsX0_won := goodIn_rc _ [(0, 15), (0, 16), (0, 17), (0, 18), (0, 19), (0, 14), (0, 20), (0, 21), (0, 22), (0, 23), (0, 24), (0, 25), (0, 26), (0, 27), (0, 28), (0, 29), (0, 30), (0, 31), (1, 0), (1, 1), (1, 2), (1, 3), (1, 4), (1, 5), (1, 6), (1, 7), (1, 8), (1, 9), (1, 10), (1, 11), (1, 12), (1, 13), (1, 21), (1, 22), (1, 23), (1, 24), (1, 25), (1, 26)] (by rfl) (by decide +kernel)
set_option maxRecDepth 20000 in
theorem gX1_again_X0_won : GoodIn wsX1_again (wsV RX1 141 RX0 yX0_won wsX0_won) := goodIn_app (goodIn_of _ (by decide +kernel)) ggX1_again_X0_won
theorem dX1_again_0 : decode cX1_again 0 = .ok (.iload_n 1, 1) := by decide +kernel
theorem dX1_again_1 : decode cX1_again 1 = .ok (.invokestatic 43, 3) := by decide +kernel
theorem dX1_again_4 : decode cX1_again 4 = .ok (.aload_n 0, 1) := by decide +kernel
theorem dX1_again_5 : decode cX1_again 5 = .ok (.getfield 10, 3) := by decide +kernel
theorem dX1_again_8 : decode cX1_again 8 = .ok (.iconst 2, 1) := by decide +kernel
theorem dX1_again_9 : decode cX1_again 9 = .ok (.iload_n 1, 1) := by decide +kernel
theorem dX1_again_10 : decode cX1_again 10 = .ok (.invokevirtual 141, 3) := by decide +kernel
theorem dX1_again_13 : decode cX1_again 13 = .ok (.ireturn, 1) := by decide +kernel
set_option maxRecDepth 20000 in
theorem ggX1_ranked_X1_checkSide : GoodIn wsX1_ranked wsX1_checkSide := goodIn_ca (goodIn_rc _ [(0, 5), (0, 6), (0, 7), (0, 4), (0, 8), (0, 9), (0, 10)] (by rfl) (by decide +kernel)) (goodIn_sub (fun _ h => List.mem_cons_of_mem _ (List.mem_append_right _ h)) (by decide +kernel))
set_option maxRecDepth 20000 in
theorem gX1_ranked_X1_checkSide : GoodIn wsX1_ranked (va_wsS RX1 43 yX1_checkSide wsX1_checkSide) := goodIn_app (goodIn_of _ (by decide +kernel)) ggX1_ranked_X1_checkSide
set_option maxRecDepth 20000 in
theorem ggX1_ranked_X0_won : GoodIn wsX1_ranked wsX0_won := goodIn_rc _ [(0, 15), (0, 16), (0, 17), (0, 18), (0, 19), (0, 14), (0, 20), (0, 21), (0, 22), (0, 23), (0, 24), (0, 25), (0, 26), (0, 27), (0, 28), (0, 29), (0, 30), (0, 31), (1, 0), (1, 1), (1, 2), (1, 3), (1, 4), (1, 5), (1, 6), (1, 7), (1, 8), (1, 9), (1, 10), (1, 11), (1, 12), (1, 13), (1, 21), (1, 22), (1, 23), (1, 24), (1, 25), (1, 26)] (by rfl) (by decide +kernel)
set_option maxRecDepth 20000 in
theorem gX1_ranked_X0_won : GoodIn wsX1_ranked (wsV RX1 141 RX0 yX0_won wsX0_won) := goodIn_app (goodIn_of _ (by decide +kernel)) ggX1_ranked_X0_won
theorem dX1_ranked_0 : decode cX1_ranked 0 = .ok (.iload_n 1, 1) := by decide +kernel
theorem dX1_ranked_1 : decode cX1_ranked 1 = .ok (.invokestatic 43, 3) := by decide +kernel
theorem dX1_ranked_4 : decode cX1_ranked 4 = .ok (.aload_n 0, 1) := by decide +kernel
theorem dX1_ranked_5 : decode cX1_ranked 5 = .ok (.getfield 10, 3) := by decide +kernel
theorem dX1_ranked_8 : decode cX1_ranked 8 = .ok (.iconst 3, 1) := by decide +kernel
theorem dX1_ranked_9 : decode cX1_ranked 9 = .ok (.iload_n 1, 1) := by decide +kernel
theorem dX1_ranked_10 : decode cX1_ranked 10 = .ok (.invokevirtual 141, 3) := by decide +kernel
theorem dX1_ranked_13 : decode cX1_ranked 13 = .ok (.ireturn, 1) := by decide +kernel
set_option maxRecDepth 20000 in
theorem ggX1_winner_X1_checkPlace : GoodIn wsX1_winner wsX1_checkPlace := goodIn_ca (goodIn_rc _ [(0, 6), (0, 7), (0, 8), (0, 1), (1, 20), (1, 21), (1, 22), (1, 23), (1, 24), (1, 25), (1, 26), (1, 27), (1, 28), (1, 29), (1, 30), (1, 31), (2, 0)] (by rfl) (by decide +kernel)) (goodIn_sub (fun _ h => List.mem_cons_of_mem _ (List.mem_append_left _ (List.mem_append_right _ h))) (by decide +kernel))
set_option maxRecDepth 20000 in
theorem gX1_winner_X1_checkPlace : GoodIn wsX1_winner (wsV RX1 40 RX1 yX1_checkPlace wsX1_checkPlace) := goodIn_app (goodIn_of _ (by decide +kernel)) ggX1_winner_X1_checkPlace
set_option maxRecDepth 20000 in
theorem ggX1_winner_X1_checkBetween : GoodIn wsX1_winner wsX1_checkBetween := goodIn_ca (goodIn_rc _ [(0, 11), (0, 12), (0, 13)] (by rfl) (by decide +kernel)) (goodIn_sub (fun _ h => List.mem_cons_of_mem _ (List.mem_append_right _ h)) (by decide +kernel))
set_option maxRecDepth 20000 in
theorem gX1_winner_X1_checkBetween : GoodIn wsX1_winner (va_wsS RX1 19 yX1_checkBetween wsX1_checkBetween) := goodIn_app (goodIn_of _ (by decide +kernel)) ggX1_winner_X1_checkBetween
set_option maxRecDepth 20000 in
theorem ggX1_winner_X0_won : GoodIn wsX1_winner wsX0_won := goodIn_rc _ [(0, 18), (0, 19), (0, 20), (0, 21), (0, 22), (0, 17), (0, 23), (0, 24), (0, 25), (0, 26), (0, 27), (0, 28), (0, 29), (0, 30), (0, 31), (1, 0), (1, 1), (1, 2), (1, 3), (1, 4), (1, 5), (1, 6), (1, 7), (1, 8), (1, 9), (1, 10), (1, 11), (1, 12), (1, 13), (1, 14), (1, 15), (1, 16), (1, 27), (1, 28), (1, 29), (1, 30), (1, 31), (2, 0)] (by rfl) (by decide +kernel)
set_option maxRecDepth 20000 in
theorem gX1_winner_X0_won : GoodIn wsX1_winner (wsV RX1 141 RX0 yX0_won wsX0_won) := goodIn_app (goodIn_of _ (by decide +kernel)) ggX1_winner_X0_won
set_option maxRecDepth 20000 in
theorem ggX1_winner_X1_has : GoodIn wsX1_winner wsX1_has := goodIn_rc _ [(1, 19)] (by rfl) (by decide +kernel)
set_option maxRecDepth 20000 in
theorem gX1_winner_X1_has : GoodIn wsX1_winner (va_wsS RX1 69 yX1_has wsX1_has) := goodIn_app (goodIn_of _ (by decide +kernel)) ggX1_winner_X1_has
theorem dX1_winner_0 : decode cX1_winner 0 = .ok (.aload_n 0, 1) := by decide +kernel
theorem dX1_winner_1 : decode cX1_winner 1 = .ok (.iload_n 2, 1) := by decide +kernel
theorem dX1_winner_2 : decode cX1_winner 2 = .ok (.invokevirtual 40, 3) := by decide +kernel
theorem dX1_winner_5 : decode cX1_winner 5 = .ok (.iload_n 1, 1) := by decide +kernel
theorem dX1_winner_6 : decode cX1_winner 6 = .ok (.iconst 0, 1) := by decide +kernel
theorem dX1_winner_7 : decode cX1_winner 7 = .ok (.iconst 4, 1) := by decide +kernel
theorem dX1_winner_8 : decode cX1_winner 8 = .ok (.invokestatic 19, 3) := by decide +kernel
theorem dX1_winner_11 : decode cX1_winner 11 = .ok (.iload_n 1, 1) := by decide +kernel
theorem dX1_winner_12 : decode cX1_winner 12 = .ok (.tableswitch 120 0 3 #[32, 54, 76, 98], 32) := by decide +kernel
theorem dX1_winner_44 : decode cX1_winner 44 = .ok (.aload_n 0, 1) := by decide +kernel
theorem dX1_winner_45 : decode cX1_winner 45 = .ok (.getfield 10, 3) := by decide +kernel
theorem dX1_winner_48 : decode cX1_winner 48 = .ok (.iconst 0, 1) := by decide +kernel
theorem dX1_winner_49 : decode cX1_winner 49 = .ok (.iconst 0, 1) := by decide +kernel
theorem dX1_winner_50 : decode cX1_winner 50 = .ok (.invokevirtual 141, 3) := by decide +kernel
theorem dX1_winner_53 : decode cX1_winner 53 = .ok (.iload_n 2, 1) := by decide +kernel
theorem dX1_winner_54 : decode cX1_winner 54 = .ok (.invokestatic 69, 3) := by decide +kernel
theorem dX1_winner_57 : decode cX1_winner 57 = .ok (.ifCond .eq 7, 3) := by decide +kernel
theorem dX1_winner_60 : decode cX1_winner 60 = .ok (.iconst 0, 1) := by decide +kernel
theorem dX1_winner_61 : decode cX1_winner 61 = .ok (.goto 4, 3) := by decide +kernel
theorem dX1_winner_64 : decode cX1_winner 64 = .ok (.iconst 1, 1) := by decide +kernel
theorem dX1_winner_65 : decode cX1_winner 65 = .ok (.ireturn, 1) := by decide +kernel
theorem dX1_winner_66 : decode cX1_winner 66 = .ok (.aload_n 0, 1) := by decide +kernel
theorem dX1_winner_67 : decode cX1_winner 67 = .ok (.getfield 10, 3) := by decide +kernel
theorem dX1_winner_70 : decode cX1_winner 70 = .ok (.iconst 0, 1) := by decide +kernel
theorem dX1_winner_71 : decode cX1_winner 71 = .ok (.iconst 1, 1) := by decide +kernel
theorem dX1_winner_72 : decode cX1_winner 72 = .ok (.invokevirtual 141, 3) := by decide +kernel
theorem dX1_winner_75 : decode cX1_winner 75 = .ok (.iload_n 2, 1) := by decide +kernel
theorem dX1_winner_76 : decode cX1_winner 76 = .ok (.invokestatic 69, 3) := by decide +kernel
theorem dX1_winner_79 : decode cX1_winner 79 = .ok (.ifCond .eq 7, 3) := by decide +kernel
theorem dX1_winner_82 : decode cX1_winner 82 = .ok (.iconst 1, 1) := by decide +kernel
theorem dX1_winner_83 : decode cX1_winner 83 = .ok (.goto 4, 3) := by decide +kernel
theorem dX1_winner_86 : decode cX1_winner 86 = .ok (.iconst 0, 1) := by decide +kernel
theorem dX1_winner_87 : decode cX1_winner 87 = .ok (.ireturn, 1) := by decide +kernel
theorem dX1_winner_88 : decode cX1_winner 88 = .ok (.aload_n 0, 1) := by decide +kernel
theorem dX1_winner_89 : decode cX1_winner 89 = .ok (.getfield 10, 3) := by decide +kernel
theorem dX1_winner_92 : decode cX1_winner 92 = .ok (.iconst 2, 1) := by decide +kernel
theorem dX1_winner_93 : decode cX1_winner 93 = .ok (.iconst 0, 1) := by decide +kernel
theorem dX1_winner_94 : decode cX1_winner 94 = .ok (.invokevirtual 141, 3) := by decide +kernel
theorem dX1_winner_97 : decode cX1_winner 97 = .ok (.iload_n 2, 1) := by decide +kernel
theorem dX1_winner_98 : decode cX1_winner 98 = .ok (.invokestatic 69, 3) := by decide +kernel
theorem dX1_winner_101 : decode cX1_winner 101 = .ok (.ifCond .eq 7, 3) := by decide +kernel
theorem dX1_winner_104 : decode cX1_winner 104 = .ok (.iconst 0, 1) := by decide +kernel
theorem dX1_winner_105 : decode cX1_winner 105 = .ok (.goto 4, 3) := by decide +kernel
theorem dX1_winner_108 : decode cX1_winner 108 = .ok (.iconst 1, 1) := by decide +kernel
theorem dX1_winner_109 : decode cX1_winner 109 = .ok (.ireturn, 1) := by decide +kernel
theorem dX1_winner_110 : decode cX1_winner 110 = .ok (.aload_n 0, 1) := by decide +kernel
theorem dX1_winner_111 : decode cX1_winner 111 = .ok (.getfield 10, 3) := by decide +kernel
theorem dX1_winner_114 : decode cX1_winner 114 = .ok (.iconst 2, 1) := by decide +kernel
theorem dX1_winner_115 : decode cX1_winner 115 = .ok (.iconst 1, 1) := by decide +kernel
theorem dX1_winner_116 : decode cX1_winner 116 = .ok (.invokevirtual 141, 3) := by decide +kernel
theorem dX1_winner_119 : decode cX1_winner 119 = .ok (.iload_n 2, 1) := by decide +kernel
theorem dX1_winner_120 : decode cX1_winner 120 = .ok (.invokestatic 69, 3) := by decide +kernel
theorem dX1_winner_123 : decode cX1_winner 123 = .ok (.ifCond .eq 7, 3) := by decide +kernel
theorem dX1_winner_126 : decode cX1_winner 126 = .ok (.iconst 1, 1) := by decide +kernel
theorem dX1_winner_127 : decode cX1_winner 127 = .ok (.goto 4, 3) := by decide +kernel
theorem dX1_winner_130 : decode cX1_winner 130 = .ok (.iconst 0, 1) := by decide +kernel
theorem dX1_winner_131 : decode cX1_winner 131 = .ok (.ireturn, 1) := by decide +kernel
theorem dX1_winner_132 : decode cX1_winner 132 = .ok (.aload_n 0, 1) := by decide +kernel
theorem dX1_winner_133 : decode cX1_winner 133 = .ok (.getfield 10, 3) := by decide +kernel
theorem dX1_winner_136 : decode cX1_winner 136 = .ok (.iconst 3, 1) := by decide +kernel
theorem dX1_winner_137 : decode cX1_winner 137 = .ok (.iconst 0, 1) := by decide +kernel
theorem dX1_winner_138 : decode cX1_winner 138 = .ok (.invokevirtual 141, 3) := by decide +kernel
theorem dX1_winner_141 : decode cX1_winner 141 = .ok (.iload_n 2, 1) := by decide +kernel
theorem dX1_winner_142 : decode cX1_winner 142 = .ok (.invokestatic 69, 3) := by decide +kernel
theorem dX1_winner_145 : decode cX1_winner 145 = .ok (.ifCond .eq 7, 3) := by decide +kernel
theorem dX1_winner_148 : decode cX1_winner 148 = .ok (.iconst 0, 1) := by decide +kernel
theorem dX1_winner_149 : decode cX1_winner 149 = .ok (.goto 4, 3) := by decide +kernel
theorem dX1_winner_152 : decode cX1_winner 152 = .ok (.iconst 1, 1) := by decide +kernel
theorem dX1_winner_153 : decode cX1_winner 153 = .ok (.ireturn, 1) := by decide +kernel
set_option maxRecDepth 20000 in
theorem ggX1_rounds_X1_checkPlace : GoodIn wsX1_rounds wsX1_checkPlace := goodIn_ca (goodIn_rc _ [(0, 6), (0, 7), (0, 8), (0, 1), (0, 31), (1, 0), (1, 1), (1, 2), (1, 3), (1, 4), (1, 5), (1, 6), (1, 7), (1, 8), (1, 9), (1, 10), (1, 11)] (by rfl) (by decide +kernel)) (goodIn_sub (fun _ h => List.mem_cons_of_mem _ (List.mem_append_left _ (List.mem_append_right _ h))) (by decide +kernel))
set_option maxRecDepth 20000 in
theorem gX1_rounds_X1_checkPlace : GoodIn wsX1_rounds (wsV RX1 40 RX1 yX1_checkPlace wsX1_checkPlace) := goodIn_app (goodIn_of _ (by decide +kernel)) ggX1_rounds_X1_checkPlace
set_option maxRecDepth 20000 in
theorem ggX1_rounds_X1_checkSide : GoodIn wsX1_rounds wsX1_checkSide := goodIn_ca (goodIn_rc _ [(0, 11), (0, 12), (0, 13), (0, 5), (0, 14), (0, 15), (0, 16)] (by rfl) (by decide +kernel)) (goodIn_sub (fun _ h => List.mem_cons_of_mem _ (List.mem_append_right _ h)) (by decide +kernel))
set_option maxRecDepth 20000 in
theorem gX1_rounds_X1_checkSide : GoodIn wsX1_rounds (va_wsS RX1 43 yX1_checkSide wsX1_checkSide) := goodIn_app (goodIn_of _ (by decide +kernel)) ggX1_rounds_X1_checkSide
set_option maxRecDepth 20000 in
theorem ggX1_rounds_X0_roundsTo : GoodIn wsX1_rounds wsX0_roundsTo := goodIn_rc _ [(0, 21), (0, 22), (0, 23), (0, 24), (0, 20), (0, 25), (0, 26), (0, 27), (0, 28), (0, 29), (0, 5), (0, 30), (1, 6), (1, 7), (1, 8), (1, 9), (1, 10), (1, 11)] (by rfl) (by decide +kernel)
set_option maxRecDepth 20000 in
theorem gX1_rounds_X0_roundsTo : GoodIn wsX1_rounds (wsV RX1 144 RX0 yX0_roundsTo wsX0_roundsTo) := goodIn_app (goodIn_of _ (by decide +kernel)) ggX1_rounds_X0_roundsTo
theorem dX1_rounds_0 : decode cX1_rounds 0 = .ok (.aload_n 0, 1) := by decide +kernel
theorem dX1_rounds_1 : decode cX1_rounds 1 = .ok (.iload_n 2, 1) := by decide +kernel
theorem dX1_rounds_2 : decode cX1_rounds 2 = .ok (.invokevirtual 40, 3) := by decide +kernel
theorem dX1_rounds_5 : decode cX1_rounds 5 = .ok (.iload_n 1, 1) := by decide +kernel
theorem dX1_rounds_6 : decode cX1_rounds 6 = .ok (.invokestatic 43, 3) := by decide +kernel
theorem dX1_rounds_9 : decode cX1_rounds 9 = .ok (.aload_n 0, 1) := by decide +kernel
theorem dX1_rounds_10 : decode cX1_rounds 10 = .ok (.getfield 10, 3) := by decide +kernel
theorem dX1_rounds_13 : decode cX1_rounds 13 = .ok (.aload_n 0, 1) := by decide +kernel
theorem dX1_rounds_14 : decode cX1_rounds 14 = .ok (.getfield 10, 3) := by decide +kernel
theorem dX1_rounds_17 : decode cX1_rounds 17 = .ok (.getfield 63, 3) := by decide +kernel
theorem dX1_rounds_20 : decode cX1_rounds 20 = .ok (.iload_n 1, 1) := by decide +kernel
theorem dX1_rounds_21 : decode cX1_rounds 21 = .ok (.iload_n 2, 1) := by decide +kernel
theorem dX1_rounds_22 : decode cX1_rounds 22 = .ok (.invokevirtual 144, 3) := by decide +kernel
theorem dX1_rounds_25 : decode cX1_rounds 25 = .ok (.ireturn, 1) := by decide +kernel
set_option maxRecDepth 20000 in
theorem ggX1_againRounds_X1_checkPlace : GoodIn wsX1_againRounds wsX1_checkPlace := goodIn_ca (goodIn_rc _ [(0, 6), (0, 7), (0, 8), (0, 1), (1, 26), (1, 27), (1, 28), (1, 29), (1, 30), (1, 31), (2, 0), (2, 1), (2, 2), (2, 3), (2, 4), (2, 5), (2, 6)] (by rfl) (by decide +kernel)) (goodIn_sub (fun _ h => List.mem_cons_of_mem _ (List.mem_append_left _ (List.mem_append_right _ h))) (by decide +kernel))
set_option maxRecDepth 20000 in
theorem gX1_againRounds_X1_checkPlace : GoodIn wsX1_againRounds (wsV RX1 40 RX1 yX1_checkPlace wsX1_checkPlace) := goodIn_app (goodIn_of _ (by decide +kernel)) ggX1_againRounds_X1_checkPlace
set_option maxRecDepth 20000 in
theorem ggX1_againRounds_X1_checkSide : GoodIn wsX1_againRounds wsX1_checkSide := goodIn_ca (goodIn_rc _ [(0, 11), (0, 12), (0, 13), (0, 5), (0, 14), (0, 15), (0, 16)] (by rfl) (by decide +kernel)) (goodIn_sub (fun _ h => List.mem_cons_of_mem _ (List.mem_append_right _ h)) (by decide +kernel))
set_option maxRecDepth 20000 in
theorem gX1_againRounds_X1_checkSide : GoodIn wsX1_againRounds (va_wsS RX1 43 yX1_checkSide wsX1_checkSide) := goodIn_app (goodIn_of _ (by decide +kernel)) ggX1_againRounds_X1_checkSide
set_option maxRecDepth 20000 in
theorem ggX1_againRounds_X0_won : GoodIn wsX1_againRounds wsX0_won := goodIn_rc _ [(0, 21), (0, 22), (0, 23), (0, 24), (0, 25), (0, 20), (0, 26), (0, 27), (0, 28), (0, 29), (0, 30), (0, 31), (1, 0), (1, 1), (1, 2), (1, 3), (1, 4), (1, 5), (1, 6), (1, 7), (1, 8), (1, 9), (1, 10), (1, 11), (1, 12), (1, 13), (1, 14), (1, 15), (1, 16), (1, 17), (1, 18), (1, 19), (2, 1), (2, 2), (2, 3), (2, 4), (2, 5), (2, 6)] (by rfl) (by decide +kernel)
set_option maxRecDepth 20000 in
theorem gX1_againRounds_X0_won : GoodIn wsX1_againRounds (wsV RX1 141 RX0 yX0_won wsX0_won) := goodIn_app (goodIn_of _ (by decide +kernel)) ggX1_againRounds_X0_won
set_option maxRecDepth 20000 in
theorem ggX1_againRounds_X0_roundsTo : GoodIn wsX1_againRounds wsX0_roundsTo := goodIn_rc _ [(1, 23), (0, 27), (0, 28), (0, 29), (0, 20), (0, 30), (0, 31), (1, 0), (1, 1), (1, 24), (0, 5), (1, 25), (2, 1), (2, 2), (2, 3), (2, 4), (2, 5), (2, 6)] (by rfl) (by decide +kernel)
set_option maxRecDepth 20000 in
theorem gX1_againRounds_X0_roundsTo : GoodIn wsX1_againRounds (wsV RX1 144 RX0 yX0_roundsTo wsX0_roundsTo) := goodIn_app (goodIn_of _ (by decide +kernel)) ggX1_againRounds_X0_roundsTo
theorem dX1_againRounds_0 : decode cX1_againRounds 0 = .ok (.aload_n 0, 1) := by decide +kernel
theorem dX1_againRounds_1 : decode cX1_againRounds 1 = .ok (.iload_n 2, 1) := by decide +kernel
theorem dX1_againRounds_2 : decode cX1_againRounds 2 = .ok (.invokevirtual 40, 3) := by decide +kernel
theorem dX1_againRounds_5 : decode cX1_againRounds 5 = .ok (.iload_n 1, 1) := by decide +kernel
theorem dX1_againRounds_6 : decode cX1_againRounds 6 = .ok (.invokestatic 43, 3) := by decide +kernel
theorem dX1_againRounds_9 : decode cX1_againRounds 9 = .ok (.aload_n 0, 1) := by decide +kernel
theorem dX1_againRounds_10 : decode cX1_againRounds 10 = .ok (.getfield 10, 3) := by decide +kernel
theorem dX1_againRounds_13 : decode cX1_againRounds 13 = .ok (.aload_n 0, 1) := by decide +kernel
theorem dX1_againRounds_14 : decode cX1_againRounds 14 = .ok (.getfield 10, 3) := by decide +kernel
theorem dX1_againRounds_17 : decode cX1_againRounds 17 = .ok (.getfield 63, 3) := by decide +kernel
theorem dX1_againRounds_20 : decode cX1_againRounds 20 = .ok (.aload_n 0, 1) := by decide +kernel
theorem dX1_againRounds_21 : decode cX1_againRounds 21 = .ok (.getfield 10, 3) := by decide +kernel
theorem dX1_againRounds_24 : decode cX1_againRounds 24 = .ok (.iconst 2, 1) := by decide +kernel
theorem dX1_againRounds_25 : decode cX1_againRounds 25 = .ok (.iload_n 1, 1) := by decide +kernel
theorem dX1_againRounds_26 : decode cX1_againRounds 26 = .ok (.invokevirtual 141, 3) := by decide +kernel
theorem dX1_againRounds_29 : decode cX1_againRounds 29 = .ok (.iand, 1) := by decide +kernel
theorem dX1_againRounds_30 : decode cX1_againRounds 30 = .ok (.iload_n 1, 1) := by decide +kernel
theorem dX1_againRounds_31 : decode cX1_againRounds 31 = .ok (.iload_n 2, 1) := by decide +kernel
theorem dX1_againRounds_32 : decode cX1_againRounds 32 = .ok (.invokevirtual 144, 3) := by decide +kernel
theorem dX1_againRounds_35 : decode cX1_againRounds 35 = .ok (.ireturn, 1) := by decide +kernel
set_option maxRecDepth 20000 in
theorem ggX1_falls_X1_checkSide : GoodIn wsX1_falls wsX1_checkSide := goodIn_ca (goodIn_rc _ [(0, 5), (0, 6), (0, 7), (0, 4), (0, 8), (0, 9), (0, 10)] (by rfl) (by decide +kernel)) (goodIn_sub (fun _ h => List.mem_cons_of_mem _ (List.mem_append_right _ h)) (by decide +kernel))
set_option maxRecDepth 20000 in
theorem gX1_falls_X1_checkSide : GoodIn wsX1_falls (va_wsS RX1 43 yX1_checkSide wsX1_checkSide) := goodIn_app (goodIn_of _ (by decide +kernel)) ggX1_falls_X1_checkSide
set_option maxRecDepth 20000 in
theorem ggX1_falls_X0_all : GoodIn wsX1_falls wsX0_all := goodIn_rc _ [(0, 15), (0, 16), (1, 3), (1, 4), (1, 5), (1, 6), (1, 7), (1, 8)] (by rfl) (by decide +kernel)
set_option maxRecDepth 20000 in
theorem gX1_falls_X0_all : GoodIn wsX1_falls (wsV RX1 93 RX0 yX0_all wsX0_all) := goodIn_app (goodIn_of _ (by decide +kernel)) ggX1_falls_X0_all
set_option maxRecDepth 20000 in
theorem ggX1_falls_X0_seenBefore : GoodIn wsX1_falls wsX0_seenBefore := goodIn_rc _ [(0, 20), (0, 16), (0, 21), (0, 22), (1, 3), (1, 4), (1, 5), (1, 6), (1, 7), (1, 8)] (by rfl) (by decide +kernel)
set_option maxRecDepth 20000 in
theorem gX1_falls_X0_seenBefore : GoodIn wsX1_falls (wsV RX1 137 RX0 yX0_seenBefore wsX0_seenBefore) := goodIn_app (goodIn_of _ (by decide +kernel)) ggX1_falls_X0_seenBefore
set_option maxRecDepth 20000 in
theorem ggX1_falls_X0_reaching : GoodIn wsX1_falls wsX0_reaching := goodIn_rc _ [(0, 26), (0, 27), (0, 18), (0, 19), (0, 14), (0, 20), (0, 16), (0, 21), (0, 22), (1, 3), (1, 4), (1, 5), (1, 6), (1, 7), (1, 8)] (by rfl) (by decide +kernel)
set_option maxRecDepth 20000 in
theorem gX1_falls_X0_reaching : GoodIn wsX1_falls (wsV RX1 147 RX0 yX0_reaching wsX0_reaching) := goodIn_app (goodIn_of _ (by decide +kernel)) ggX1_falls_X0_reaching
theorem dX1_falls_0 : decode cX1_falls 0 = .ok (.iload_n 1, 1) := by decide +kernel
theorem dX1_falls_1 : decode cX1_falls 1 = .ok (.invokestatic 43, 3) := by decide +kernel
theorem dX1_falls_4 : decode cX1_falls 4 = .ok (.aload_n 0, 1) := by decide +kernel
theorem dX1_falls_5 : decode cX1_falls 5 = .ok (.getfield 10, 3) := by decide +kernel
theorem dX1_falls_8 : decode cX1_falls 8 = .ok (.invokevirtual 93, 3) := by decide +kernel
theorem dX1_falls_11 : decode cX1_falls 11 = .ok (.istore_n 2, 1) := by decide +kernel
theorem dX1_falls_12 : decode cX1_falls 12 = .ok (.iconst 0, 1) := by decide +kernel
theorem dX1_falls_13 : decode cX1_falls 13 = .ok (.istore_n 3, 1) := by decide +kernel
theorem dX1_falls_14 : decode cX1_falls 14 = .ok (.iconst 0, 1) := by decide +kernel
theorem dX1_falls_15 : decode cX1_falls 15 = .ok (.istore 4, 2) := by decide +kernel
theorem dX1_falls_17 : decode cX1_falls 17 = .ok (.iload 4, 2) := by decide +kernel
theorem dX1_falls_19 : decode cX1_falls 19 = .ok (.bipush 12, 2) := by decide +kernel
theorem dX1_falls_21 : decode cX1_falls 21 = .ok (.if_icmp .ge 51, 3) := by decide +kernel
theorem dX1_falls_24 : decode cX1_falls 24 = .ok (.aload_n 0, 1) := by decide +kernel
theorem dX1_falls_25 : decode cX1_falls 25 = .ok (.getfield 10, 3) := by decide +kernel
theorem dX1_falls_28 : decode cX1_falls 28 = .ok (.aload_n 0, 1) := by decide +kernel
theorem dX1_falls_29 : decode cX1_falls 29 = .ok (.getfield 10, 3) := by decide +kernel
theorem dX1_falls_32 : decode cX1_falls 32 = .ok (.getfield 63, 3) := by decide +kernel
theorem dX1_falls_35 : decode cX1_falls 35 = .ok (.aload_n 0, 1) := by decide +kernel
theorem dX1_falls_36 : decode cX1_falls 36 = .ok (.getfield 10, 3) := by decide +kernel
theorem dX1_falls_39 : decode cX1_falls 39 = .ok (.iload_n 2, 1) := by decide +kernel
theorem dX1_falls_40 : decode cX1_falls 40 = .ok (.iload_n 1, 1) := by decide +kernel
theorem dX1_falls_41 : decode cX1_falls 41 = .ok (.invokevirtual 137, 3) := by decide +kernel
theorem dX1_falls_44 : decode cX1_falls 44 = .ok (.iand, 1) := by decide +kernel
theorem dX1_falls_45 : decode cX1_falls 45 = .ok (.iload_n 1, 1) := by decide +kernel
theorem dX1_falls_46 : decode cX1_falls 46 = .ok (.invokevirtual 147, 3) := by decide +kernel
theorem dX1_falls_49 : decode cX1_falls 49 = .ok (.istore 5, 2) := by decide +kernel
theorem dX1_falls_51 : decode cX1_falls 51 = .ok (.iload 5, 2) := by decide +kernel
theorem dX1_falls_53 : decode cX1_falls 53 = .ok (.iload_n 2, 1) := by decide +kernel
theorem dX1_falls_54 : decode cX1_falls 54 = .ok (.if_icmp .ne 6, 3) := by decide +kernel
theorem dX1_falls_57 : decode cX1_falls 57 = .ok (.goto 15, 3) := by decide +kernel
theorem dX1_falls_60 : decode cX1_falls 60 = .ok (.iload 5, 2) := by decide +kernel
theorem dX1_falls_62 : decode cX1_falls 62 = .ok (.istore_n 2, 1) := by decide +kernel
theorem dX1_falls_63 : decode cX1_falls 63 = .ok (.iinc 3 1, 3) := by decide +kernel
theorem dX1_falls_66 : decode cX1_falls 66 = .ok (.iinc 4 1, 3) := by decide +kernel
theorem dX1_falls_69 : decode cX1_falls 69 = .ok (.goto (-52), 3) := by decide +kernel
theorem dX1_falls_72 : decode cX1_falls 72 = .ok (.iload_n 3, 1) := by decide +kernel
theorem dX1_falls_73 : decode cX1_falls 73 = .ok (.ireturn, 1) := by decide +kernel
set_option maxRecDepth 20000 in
theorem ggX1_choice_X1_checkPlace : GoodIn wsX1_choice wsX1_checkPlace := goodIn_ca (goodIn_rc _ [(0, 6), (0, 7), (0, 8), (0, 1), (2, 16), (2, 17), (2, 18), (2, 19), (2, 20), (2, 21), (2, 22), (2, 23), (2, 24), (2, 25), (2, 26), (2, 27), (2, 28)] (by rfl) (by decide +kernel)) (goodIn_sub (fun _ h => List.mem_cons_of_mem _ (List.mem_append_left _ (List.mem_append_right _ h))) (by decide +kernel))
set_option maxRecDepth 20000 in
theorem gX1_choice_X1_checkPlace : GoodIn wsX1_choice (wsV RX1 40 RX1 yX1_checkPlace wsX1_checkPlace) := goodIn_app (goodIn_of _ (by decide +kernel)) ggX1_choice_X1_checkPlace
set_option maxRecDepth 20000 in
theorem ggX1_choice_X1_checkBetween : GoodIn wsX1_choice wsX1_checkBetween := goodIn_ca (goodIn_rc _ [(0, 11), (0, 12), (0, 13)] (by rfl) (by decide +kernel)) (goodIn_sub (fun _ h => List.mem_cons_of_mem _ (List.mem_append_right _ h)) (by decide +kernel))
set_option maxRecDepth 20000 in
theorem gX1_choice_X1_checkBetween : GoodIn wsX1_choice (va_wsS RX1 19 yX1_checkBetween wsX1_checkBetween) := goodIn_app (goodIn_of _ (by decide +kernel)) ggX1_choice_X1_checkBetween
set_option maxRecDepth 20000 in
theorem ggX1_choice_X1_checkSide : GoodIn wsX1_choice wsX1_checkSide := goodIn_ca (goodIn_rc _ [(0, 16), (0, 9), (0, 10), (0, 5), (0, 11), (0, 12), (0, 13)] (by rfl) (by decide +kernel)) (goodIn_sub (fun _ h => List.mem_cons_of_mem _ (List.mem_append_right _ h)) (by decide +kernel))
set_option maxRecDepth 20000 in
theorem gX1_choice_X1_checkSide : GoodIn wsX1_choice (va_wsS RX1 43 yX1_checkSide wsX1_checkSide) := goodIn_app (goodIn_of _ (by decide +kernel)) ggX1_choice_X1_checkSide
set_option maxRecDepth 20000 in
theorem ggX1_choice_X0_pick : GoodIn wsX1_choice wsX0_pick := goodIn_rc _ [(0, 21), (0, 22), (0, 23), (0, 24), (0, 20), (0, 25), (0, 26), (0, 27), (0, 28), (0, 29), (0, 30), (0, 31), (1, 0), (1, 1), (1, 2), (1, 3), (1, 4), (1, 5), (1, 6), (1, 7), (1, 8), (1, 9), (1, 10), (1, 11), (1, 12), (1, 13), (1, 14), (1, 15), (1, 16), (1, 17), (1, 18), (1, 19), (1, 20), (1, 21), (1, 22), (1, 23), (1, 24), (1, 25), (1, 26), (1, 27), (1, 28), (1, 29), (1, 30), (1, 31), (2, 0), (0, 5), (2, 1), (2, 2), (2, 3), (2, 4), (2, 5), (2, 6), (2, 7), (2, 8), (2, 9), (2, 10), (2, 11), (2, 12), (2, 13), (2, 14), (2, 15), (2, 23), (2, 24), (2, 25), (2, 26), (2, 27), (2, 28)] (by rfl) (by decide +kernel)
set_option maxRecDepth 20000 in
theorem gX1_choice_X0_pick : GoodIn wsX1_choice (wsV RX1 110 RX0 yX0_pick wsX0_pick) := goodIn_app (goodIn_of _ (by decide +kernel)) ggX1_choice_X0_pick
theorem dX1_choice_0 : decode cX1_choice 0 = .ok (.aload_n 0, 1) := by decide +kernel
theorem dX1_choice_1 : decode cX1_choice 1 = .ok (.iload_n 3, 1) := by decide +kernel
theorem dX1_choice_2 : decode cX1_choice 2 = .ok (.invokevirtual 40, 3) := by decide +kernel
theorem dX1_choice_5 : decode cX1_choice 5 = .ok (.iload_n 1, 1) := by decide +kernel
theorem dX1_choice_6 : decode cX1_choice 6 = .ok (.iconst 0, 1) := by decide +kernel
theorem dX1_choice_7 : decode cX1_choice 7 = .ok (.iconst 2, 1) := by decide +kernel
theorem dX1_choice_8 : decode cX1_choice 8 = .ok (.invokestatic 19, 3) := by decide +kernel
theorem dX1_choice_11 : decode cX1_choice 11 = .ok (.iload_n 2, 1) := by decide +kernel
theorem dX1_choice_12 : decode cX1_choice 12 = .ok (.invokestatic 43, 3) := by decide +kernel
theorem dX1_choice_15 : decode cX1_choice 15 = .ok (.aload_n 0, 1) := by decide +kernel
theorem dX1_choice_16 : decode cX1_choice 16 = .ok (.getfield 10, 3) := by decide +kernel
theorem dX1_choice_19 : decode cX1_choice 19 = .ok (.iload_n 1, 1) := by decide +kernel
theorem dX1_choice_20 : decode cX1_choice 20 = .ok (.iload_n 2, 1) := by decide +kernel
theorem dX1_choice_21 : decode cX1_choice 21 = .ok (.iload_n 3, 1) := by decide +kernel
theorem dX1_choice_22 : decode cX1_choice 22 = .ok (.invokevirtual 110, 3) := by decide +kernel
theorem dX1_choice_25 : decode cX1_choice 25 = .ok (.ireturn, 1) := by decide +kernel
set_option maxRecDepth 20000 in
theorem ggX1_isSure_X1_checkBetween : GoodIn wsX1_isSure wsX1_checkBetween := goodIn_ca (goodIn_rc _ [(0, 4), (0, 5), (0, 6)] (by rfl) (by decide +kernel)) (goodIn_sub (fun _ h => List.mem_cons_of_mem _ (List.mem_append_right _ h)) (by decide +kernel))
set_option maxRecDepth 20000 in
theorem gX1_isSure_X1_checkBetween : GoodIn wsX1_isSure (va_wsS RX1 19 yX1_checkBetween wsX1_checkBetween) := goodIn_app (goodIn_of _ (by decide +kernel)) ggX1_isSure_X1_checkBetween
set_option maxRecDepth 20000 in
theorem ggX1_isSure_X1_checkSide : GoodIn wsX1_isSure wsX1_checkSide := goodIn_ca (goodIn_rc _ [(0, 9), (0, 1), (0, 2), (0, 3), (0, 4), (0, 5), (0, 6)] (by rfl) (by decide +kernel)) (goodIn_sub (fun _ h => List.mem_cons_of_mem _ (List.mem_append_right _ h)) (by decide +kernel))
set_option maxRecDepth 20000 in
theorem gX1_isSure_X1_checkSide : GoodIn wsX1_isSure (va_wsS RX1 43 yX1_checkSide wsX1_checkSide) := goodIn_app (goodIn_of _ (by decide +kernel)) ggX1_isSure_X1_checkSide
set_option maxRecDepth 20000 in
theorem ggX1_isSure_X1_holdsByChoices : GoodIn wsX1_isSure wsX1_holdsByChoices := goodIn_rc _ [(0, 13), (0, 14), (0, 15), (0, 16), (0, 17), (0, 18), (0, 19), (0, 20), (0, 21), (0, 22), (0, 23), (0, 24), (0, 25), (0, 26), (0, 27), (0, 28), (0, 29), (0, 30), (0, 31), (1, 0), (1, 1), (1, 2), (1, 3), (1, 4), (1, 5), (1, 6), (1, 7), (1, 8), (1, 9), (1, 10), (1, 11), (1, 12), (1, 13), (1, 14), (1, 15), (1, 16), (1, 17), (1, 18), (1, 19), (1, 20), (1, 21), (1, 22), (1, 23), (1, 24), (1, 25), (1, 26), (1, 27), (1, 28), (1, 29), (1, 30), (1, 31), (2, 0), (2, 1), (2, 2), (2, 3), (0, 3), (2, 4), (2, 5), (2, 6), (2, 7), (2, 8), (2, 9), (2, 10), (2, 11), (2, 12), (2, 13), (2, 14), (2, 15), (2, 16), (2, 17), (2, 18), (2, 19), (2, 20), (2, 21), (2, 22), (2, 23), (2, 24), (2, 25), (2, 26), (2, 27), (2, 28), (2, 29), (2, 30), (2, 31)] (by rfl) (by decide +kernel)
set_option maxRecDepth 20000 in
theorem gX1_isSure_X1_holdsByChoices : GoodIn wsX1_isSure (wsV RX1 150 RX1 yX1_holdsByChoices wsX1_holdsByChoices) := goodIn_app (goodIn_of _ (by decide +kernel)) ggX1_isSure_X1_holdsByChoices
theorem dX1_isSure_0 : decode cX1_isSure 0 = .ok (.iload_n 1, 1) := by decide +kernel
theorem dX1_isSure_1 : decode cX1_isSure 1 = .ok (.iconst 0, 1) := by decide +kernel
theorem dX1_isSure_2 : decode cX1_isSure 2 = .ok (.iconst 2, 1) := by decide +kernel
theorem dX1_isSure_3 : decode cX1_isSure 3 = .ok (.invokestatic 19, 3) := by decide +kernel
theorem dX1_isSure_6 : decode cX1_isSure 6 = .ok (.iload_n 2, 1) := by decide +kernel
theorem dX1_isSure_7 : decode cX1_isSure 7 = .ok (.invokestatic 43, 3) := by decide +kernel
theorem dX1_isSure_10 : decode cX1_isSure 10 = .ok (.aload_n 0, 1) := by decide +kernel
theorem dX1_isSure_11 : decode cX1_isSure 11 = .ok (.iload_n 1, 1) := by decide +kernel
theorem dX1_isSure_12 : decode cX1_isSure 12 = .ok (.iload_n 2, 1) := by decide +kernel
theorem dX1_isSure_13 : decode cX1_isSure 13 = .ok (.invokevirtual 150, 3) := by decide +kernel
theorem dX1_isSure_16 : decode cX1_isSure 16 = .ok (.ireturn, 1) := by decide +kernel
set_option maxRecDepth 20000 in
theorem ggX1_play_X1_checkPlace : GoodIn wsX1_play wsX1_checkPlace := goodIn_ca (goodIn_rc _ [(0, 9), (0, 10), (0, 11), (0, 4), (9, 23), (9, 24), (9, 25), (9, 26), (9, 27), (9, 28), (9, 29), (9, 30), (9, 31), (10, 0), (10, 1), (10, 2), (10, 3)] (by rfl) (by decide +kernel)) (goodIn_sub (fun _ h => List.mem_cons_of_mem _ (List.mem_append_left _ (List.mem_append_right _ h))) (by decide +kernel))
set_option maxRecDepth 20000 in
theorem gX1_play_X1_checkPlace : GoodIn wsX1_play (wsV RX1 40 RX1 yX1_checkPlace wsX1_checkPlace) := goodIn_app (goodIn_of _ (by decide +kernel)) ggX1_play_X1_checkPlace
set_option maxRecDepth 20000 in
theorem ggX1_play_X1_checkSide : GoodIn wsX1_play wsX1_checkSide := goodIn_ca (goodIn_rc _ [(0, 14), (0, 15), (0, 16), (0, 8), (0, 17), (0, 18), (0, 19)] (by rfl) (by decide +kernel)) (goodIn_sub (fun _ h => List.mem_cons_of_mem _ (List.mem_append_right _ h)) (by decide +kernel))
set_option maxRecDepth 20000 in
theorem gX1_play_X1_checkSide : GoodIn wsX1_play (va_wsS RX1 43 yX1_checkSide wsX1_checkSide) := goodIn_app (goodIn_of _ (by decide +kernel)) ggX1_play_X1_checkSide
set_option maxRecDepth 20000 in
theorem ggX1_play_J4_init_da8c8 : GoodIn wsX1_play wsJ4_init_da8c8 := goodIn_rc _ [(0, 22), (0, 23), (0, 24), (0, 25), (0, 26), (0, 27), (0, 28), (0, 29), (0, 30), (0, 31), (1, 0), (1, 1), (1, 2), (1, 3), (1, 4), (1, 5), (1, 6), (1, 7), (1, 8), (1, 9), (9, 19), (9, 20), (9, 21), (9, 22)] (by rfl) (by decide +kernel)
set_option maxRecDepth 20000 in
theorem gX1_play_J4_init_da8c8 : GoodIn wsX1_play (wsJ4_init_da8c8) := ggX1_play_J4_init_da8c8
set_option maxRecDepth 20000 in
theorem ggX1_play_J4_append_bf812 : GoodIn wsX1_play wsJ4_append_bf812 := goodIn_rc _ [(1, 13), (1, 14), (1, 15), (1, 16), (1, 17), (0, 25), (1, 18), (1, 19), (1, 0), (1, 20), (1, 21), (1, 22), (1, 23), (1, 24), (1, 25), (1, 26), (1, 27), (1, 28), (1, 1), (1, 29), (1, 30), (1, 31), (2, 0), (2, 1), (2, 2), (2, 3), (2, 4), (2, 5), (2, 6), (2, 7), (2, 8), (2, 9), (2, 10), (2, 11), (2, 12), (2, 13), (2, 14), (2, 15), (2, 16), (2, 17), (2, 18), (2, 19), (2, 20), (2, 21), (2, 22), (2, 23), (2, 24), (0, 31), (2, 25), (2, 26), (2, 27), (2, 28), (2, 29), (2, 30), (2, 31), (3, 0), (3, 1), (3, 2), (3, 3), (3, 4), (0, 30), (3, 5), (3, 6), (3, 7), (3, 8), (3, 9), (3, 10), (3, 11), (1, 4), (3, 12), (3, 13), (3, 14), (3, 15), (3, 16), (3, 17), (3, 18), (3, 19), (3, 20), (3, 21), (3, 22), (3, 23), (3, 24), (3, 25), (3, 26), (3, 27), (3, 28), (3, 29), (3, 30), (3, 31), (4, 0), (4, 1), (4, 2), (4, 3), (4, 4), (4, 5), (4, 6), (9, 19), (9, 20), (9, 21), (9, 22)] (by rfl) (by decide +kernel)
set_option maxRecDepth 20000 in
theorem gX1_play_J4_append_bf812 : GoodIn wsX1_play (wsV RX1 130 RJ4 yJ4_append_bf812 wsJ4_append_bf812) := goodIn_app (goodIn_of _ (by decide +kernel)) ggX1_play_J4_append_bf812
set_option maxRecDepth 20000 in
theorem ggX1_play_X1_has : GoodIn wsX1_play wsX1_has := goodIn_rc _ [(4, 9)] (by rfl) (by decide +kernel)
set_option maxRecDepth 20000 in
theorem gX1_play_X1_has : GoodIn wsX1_play (va_wsS RX1 69 yX1_has wsX1_has) := goodIn_app (goodIn_of _ (by decide +kernel)) ggX1_play_X1_has
set_option maxRecDepth 20000 in
theorem ggX1_play_X0_waysFrom : GoodIn wsX1_play wsX0_waysFrom := goodIn_rc _ [(4, 14), (4, 15), (9, 30), (9, 31), (10, 0), (10, 1), (10, 2), (10, 3)] (by rfl) (by decide +kernel)
set_option maxRecDepth 20000 in
theorem gX1_play_X0_waysFrom : GoodIn wsX1_play (wsV RX1 66 RX0 yX0_waysFrom wsX0_waysFrom) := goodIn_app (goodIn_of _ (by decide +kernel)) ggX1_play_X0_waysFrom
set_option maxRecDepth 20000 in
theorem ggX1_play_X1_playedFrom : GoodIn wsX1_play wsX1_playedFrom := goodIn_rc _ [(4, 19), (0, 4), (4, 20), (4, 21), (4, 22), (4, 13), (4, 23), (4, 24), (4, 25), (4, 26), (4, 27), (4, 28), (4, 29), (4, 30), (4, 31), (5, 0), (5, 1), (5, 2), (5, 3), (5, 4), (5, 5), (5, 6), (5, 7), (5, 8), (5, 9), (5, 10), (4, 15), (5, 11), (5, 12), (5, 13), (5, 14), (5, 15), (5, 16), (5, 17), (5, 18), (5, 19), (5, 20), (5, 21), (5, 22), (5, 23), (5, 24), (5, 25), (5, 26), (5, 27), (5, 28), (5, 29), (5, 30), (5, 31), (6, 0), (6, 1), (6, 2), (6, 3), (6, 4), (4, 8), (0, 8), (4, 9), (6, 5), (4, 11), (4, 12), (4, 14), (6, 6), (6, 7), (6, 8), (6, 9), (6, 10), (4, 7), (6, 11), (6, 12), (6, 13), (6, 14), (4, 10), (6, 15), (9, 23), (9, 24), (9, 25), (9, 26), (9, 27), (9, 28), (9, 29), (9, 30), (9, 31), (10, 0), (10, 1), (10, 2), (10, 3)] (by rfl) (by decide +kernel)
set_option maxRecDepth 20000 in
theorem gX1_play_X1_playedFrom : GoodIn wsX1_play (wsV RX1 153 RX1 yX1_playedFrom wsX1_playedFrom) := goodIn_app (goodIn_of _ (by decide +kernel)) ggX1_play_X1_playedFrom
set_option maxRecDepth 20000 in
theorem ggX1_play_J4_append_cf468 : GoodIn wsX1_play wsJ4_append_cf468 := goodIn_rc _ [(6, 19), (6, 20), (6, 21), (1, 16), (6, 22), (0, 25), (6, 23), (1, 19), (1, 0), (1, 24), (1, 25), (1, 26), (1, 27), (1, 28), (1, 1), (1, 29), (1, 30), (1, 31), (2, 0), (2, 1), (2, 2), (2, 3), (2, 4), (2, 5), (2, 6), (2, 7), (2, 8), (2, 9), (2, 10), (2, 11), (2, 12), (2, 13), (2, 14), (2, 15), (2, 16), (2, 17), (2, 18), (2, 19), (2, 20), (2, 21), (2, 22), (2, 23), (2, 24), (0, 31), (2, 25), (2, 26), (2, 27), (2, 28), (2, 29), (2, 30), (2, 31), (3, 0), (3, 1), (3, 2), (3, 3), (3, 4), (0, 30), (6, 24), (6, 25), (6, 26), (6, 27), (6, 28), (6, 29), (6, 30), (6, 31), (7, 0), (1, 2), (1, 3), (1, 4), (1, 5), (1, 6), (1, 7), (1, 8), (1, 9), (7, 1), (7, 2), (7, 3), (7, 4), (7, 5), (7, 6), (7, 7), (7, 8), (7, 9), (3, 17), (3, 18), (3, 19), (7, 10), (7, 11), (3, 22), (7, 12), (3, 24), (7, 13), (7, 14), (3, 27), (7, 15), (4, 2), (4, 3), (4, 4), (3, 13), (4, 5), (4, 6), (7, 16), (7, 17), (7, 18), (7, 19), (7, 20), (7, 21), (7, 22), (7, 23), (7, 24), (7, 25), (7, 26), (7, 27), (9, 19), (9, 20), (9, 21), (9, 22)] (by rfl) (by decide +kernel)
set_option maxRecDepth 20000 in
theorem gX1_play_J4_append_cf468 : GoodIn wsX1_play (wsV RX1 126 RJ4 yJ4_append_cf468 wsJ4_append_cf468) := goodIn_app (goodIn_of _ (by decide +kernel)) ggX1_play_J4_append_cf468
set_option maxRecDepth 20000 in
theorem ggX1_play_J4_toString_0e30d : GoodIn wsX1_play wsJ4_toString_0e30d := goodIn_rc _ [(7, 31), (8, 0), (8, 1), (3, 22), (8, 2), (8, 3), (8, 4), (8, 5), (8, 6), (8, 7), (8, 8), (0, 28), (0, 29), (8, 9), (8, 10), (8, 11), (8, 12), (8, 13), (8, 14), (8, 15), (8, 16), (0, 25), (8, 17), (1, 0), (8, 18), (8, 19), (8, 20), (8, 21), (8, 22), (0, 3), (8, 23), (8, 24), (1, 16), (8, 25), (8, 26), (1, 19), (8, 27), (3, 1), (3, 2), (3, 3), (3, 4), (0, 30), (1, 1), (8, 28), (8, 29), (2, 17), (8, 30), (2, 19), (2, 20), (2, 21), (2, 22), (2, 23), (2, 24), (8, 31), (9, 0), (9, 1), (0, 31), (2, 25), (2, 26), (2, 9), (2, 27), (2, 28), (2, 29), (2, 30), (2, 31), (9, 2), (9, 3), (9, 4), (9, 5), (0, 2), (9, 6), (9, 7), (1, 4), (9, 8), (9, 9), (9, 10), (9, 11), (7, 7), (7, 8), (7, 9), (3, 17), (3, 18), (3, 19), (7, 10), (7, 11), (7, 12), (3, 24), (7, 13), (7, 14), (3, 27), (7, 15), (9, 12), (9, 13), (9, 14), (3, 13), (4, 5), (4, 6), (1, 6), (1, 7), (1, 8), (1, 9), (9, 15), (9, 16), (9, 17), (9, 18), (10, 4), (10, 5), (10, 6), (10, 7), (9, 19), (9, 20), (9, 21), (9, 22)] (by rfl) (by decide +kernel)
set_option maxRecDepth 20000 in
theorem gX1_play_J4_toString_0e30d : GoodIn wsX1_play (wsV RX1 133 RJ4 yJ4_toString_0e30d wsJ4_toString_0e30d) := goodIn_app (goodIn_of _ (by decide +kernel)) ggX1_play_J4_toString_0e30d
theorem dX1_play_0 : decode cX1_play 0 = .ok (.aload_n 0, 1) := by decide +kernel
theorem dX1_play_1 : decode cX1_play 1 = .ok (.iload_n 2, 1) := by decide +kernel
theorem dX1_play_2 : decode cX1_play 2 = .ok (.invokevirtual 40, 3) := by decide +kernel
theorem dX1_play_5 : decode cX1_play 5 = .ok (.iload_n 1, 1) := by decide +kernel
theorem dX1_play_6 : decode cX1_play 6 = .ok (.invokestatic 43, 3) := by decide +kernel
theorem dX1_play_9 : decode cX1_play 9 = .ok (.new 120, 3) := by decide +kernel
theorem dX1_play_12 : decode cX1_play 12 = .ok (.dup, 1) := by decide +kernel
theorem dX1_play_13 : decode cX1_play 13 = .ok (.invokespecial 122, 3) := by decide +kernel
theorem dX1_play_16 : decode cX1_play 16 = .ok (.astore_n 3, 1) := by decide +kernel
theorem dX1_play_17 : decode cX1_play 17 = .ok (.iconst 0, 1) := by decide +kernel
theorem dX1_play_18 : decode cX1_play 18 = .ok (.istore 4, 2) := by decide +kernel
theorem dX1_play_20 : decode cX1_play 20 = .ok (.iload_n 2, 1) := by decide +kernel
theorem dX1_play_21 : decode cX1_play 21 = .ok (.istore 5, 2) := by decide +kernel
theorem dX1_play_23 : decode cX1_play 23 = .ok (.aload_n 3, 1) := by decide +kernel
theorem dX1_play_24 : decode cX1_play 24 = .ok (.iload 5, 2) := by decide +kernel
theorem dX1_play_26 : decode cX1_play 26 = .ok (.invokevirtual 130, 3) := by decide +kernel
theorem dX1_play_29 : decode cX1_play 29 = .ok (.pop, 1) := by decide +kernel
theorem dX1_play_30 : decode cX1_play 30 = .ok (.iconst 0, 1) := by decide +kernel
theorem dX1_play_31 : decode cX1_play 31 = .ok (.istore 6, 2) := by decide +kernel
theorem dX1_play_33 : decode cX1_play 33 = .ok (.iload 6, 2) := by decide +kernel
theorem dX1_play_35 : decode cX1_play 35 = .ok (.bipush 12, 2) := by decide +kernel
theorem dX1_play_37 : decode cX1_play 37 = .ok (.if_icmp .ge 64, 3) := by decide +kernel
theorem dX1_play_40 : decode cX1_play 40 = .ok (.iload 4, 2) := by decide +kernel
theorem dX1_play_42 : decode cX1_play 42 = .ok (.iload 5, 2) := by decide +kernel
theorem dX1_play_44 : decode cX1_play 44 = .ok (.invokestatic 69, 3) := by decide +kernel
theorem dX1_play_47 : decode cX1_play 47 = .ok (.ifCond .ne 54, 3) := by decide +kernel
theorem dX1_play_50 : decode cX1_play 50 = .ok (.aload_n 0, 1) := by decide +kernel
theorem dX1_play_51 : decode cX1_play 51 = .ok (.getfield 10, 3) := by decide +kernel
theorem dX1_play_54 : decode cX1_play 54 = .ok (.iload 5, 2) := by decide +kernel
theorem dX1_play_56 : decode cX1_play 56 = .ok (.invokevirtual 66, 3) := by decide +kernel
theorem dX1_play_59 : decode cX1_play 59 = .ok (.ifCond .ne 6, 3) := by decide +kernel
theorem dX1_play_62 : decode cX1_play 62 = .ok (.goto 39, 3) := by decide +kernel
theorem dX1_play_65 : decode cX1_play 65 = .ok (.iload 4, 2) := by decide +kernel
theorem dX1_play_67 : decode cX1_play 67 = .ok (.iconst 1, 1) := by decide +kernel
theorem dX1_play_68 : decode cX1_play 68 = .ok (.iload 5, 2) := by decide +kernel
theorem dX1_play_70 : decode cX1_play 70 = .ok (.ishl, 1) := by decide +kernel
theorem dX1_play_71 : decode cX1_play 71 = .ok (.ior, 1) := by decide +kernel
theorem dX1_play_72 : decode cX1_play 72 = .ok (.istore 4, 2) := by decide +kernel
theorem dX1_play_74 : decode cX1_play 74 = .ok (.aload_n 0, 1) := by decide +kernel
theorem dX1_play_75 : decode cX1_play 75 = .ok (.iload_n 1, 1) := by decide +kernel
theorem dX1_play_76 : decode cX1_play 76 = .ok (.iload 5, 2) := by decide +kernel
theorem dX1_play_78 : decode cX1_play 78 = .ok (.invokevirtual 153, 3) := by decide +kernel
theorem dX1_play_81 : decode cX1_play 81 = .ok (.istore 5, 2) := by decide +kernel
theorem dX1_play_83 : decode cX1_play 83 = .ok (.aload_n 3, 1) := by decide +kernel
theorem dX1_play_84 : decode cX1_play 84 = .ok (.bipush 45, 2) := by decide +kernel
theorem dX1_play_86 : decode cX1_play 86 = .ok (.invokevirtual 126, 3) := by decide +kernel
theorem dX1_play_89 : decode cX1_play 89 = .ok (.iload 5, 2) := by decide +kernel
theorem dX1_play_91 : decode cX1_play 91 = .ok (.invokevirtual 130, 3) := by decide +kernel
theorem dX1_play_94 : decode cX1_play 94 = .ok (.pop, 1) := by decide +kernel
theorem dX1_play_95 : decode cX1_play 95 = .ok (.iinc 6 1, 3) := by decide +kernel
theorem dX1_play_98 : decode cX1_play 98 = .ok (.goto (-65), 3) := by decide +kernel
theorem dX1_play_101 : decode cX1_play 101 = .ok (.aload_n 3, 1) := by decide +kernel
theorem dX1_play_102 : decode cX1_play 102 = .ok (.invokevirtual 133, 3) := by decide +kernel
theorem dX1_play_105 : decode cX1_play 105 = .ok (.areturn, 1) := by decide +kernel
set_option maxRecDepth 20000 in
theorem ggX1_choices_X1_checkSide : GoodIn wsX1_choices wsX1_checkSide := goodIn_ca (goodIn_rc _ [(0, 5), (0, 6), (0, 7), (0, 4), (0, 8), (0, 9), (0, 10)] (by rfl) (by decide +kernel)) (goodIn_sub (fun _ h => List.mem_cons_of_mem _ (List.mem_append_right _ h)) (by decide +kernel))
set_option maxRecDepth 20000 in
theorem gX1_choices_X1_checkSide : GoodIn wsX1_choices (va_wsS RX1 43 yX1_checkSide wsX1_checkSide) := goodIn_app (goodIn_of _ (by decide +kernel)) ggX1_choices_X1_checkSide
set_option maxRecDepth 20000 in
theorem ggX1_choices_X0_countChoices : GoodIn wsX1_choices wsX0_countChoices := goodIn_rc _ [(0, 15), (0, 16), (0, 17), (0, 18), (0, 19), (0, 14), (0, 20), (0, 21), (0, 22), (0, 23), (0, 24), (0, 25), (0, 26), (0, 27), (0, 28), (0, 29), (0, 30), (0, 31), (1, 0), (1, 1), (1, 9), (1, 10), (1, 11), (1, 12), (1, 13), (1, 14)] (by rfl) (by decide +kernel)
set_option maxRecDepth 20000 in
theorem gX1_choices_X0_countChoices : GoodIn wsX1_choices (wsV RX1 156 RX0 yX0_countChoices wsX0_countChoices) := goodIn_app (goodIn_of _ (by decide +kernel)) ggX1_choices_X0_countChoices
theorem dX1_choices_0 : decode cX1_choices 0 = .ok (.iload_n 1, 1) := by decide +kernel
theorem dX1_choices_1 : decode cX1_choices 1 = .ok (.invokestatic 43, 3) := by decide +kernel
theorem dX1_choices_4 : decode cX1_choices 4 = .ok (.aload_n 0, 1) := by decide +kernel
theorem dX1_choices_5 : decode cX1_choices 5 = .ok (.getfield 10, 3) := by decide +kernel
theorem dX1_choices_8 : decode cX1_choices 8 = .ok (.iload_n 1, 1) := by decide +kernel
theorem dX1_choices_9 : decode cX1_choices 9 = .ok (.invokevirtual 156, 3) := by decide +kernel
theorem dX1_choices_12 : decode cX1_choices 12 = .ok (.ireturn, 1) := by decide +kernel
set_option maxRecDepth 20000 in
theorem ggX1_tried_X1_checkBetween : GoodIn wsX1_tried wsX1_checkBetween := goodIn_ca (goodIn_rc _ [(0, 6), (0, 7), (0, 8)] (by rfl) (by decide +kernel)) (goodIn_sub (fun _ h => List.mem_cons_of_mem _ (List.mem_append_right _ h)) (by decide +kernel))
set_option maxRecDepth 20000 in
theorem gX1_tried_X1_checkBetween : GoodIn wsX1_tried (va_wsS RX1 19 yX1_checkBetween wsX1_checkBetween) := goodIn_app (goodIn_of _ (by decide +kernel)) ggX1_tried_X1_checkBetween
set_option maxRecDepth 20000 in
theorem ggX1_tried_X1_checkSide : GoodIn wsX1_tried wsX1_checkSide := goodIn_ca (goodIn_rc _ [(0, 11), (0, 3), (0, 4), (0, 5), (0, 6), (0, 7), (0, 8)] (by rfl) (by decide +kernel)) (goodIn_sub (fun _ h => List.mem_cons_of_mem _ (List.mem_append_right _ h)) (by decide +kernel))
set_option maxRecDepth 20000 in
theorem gX1_tried_X1_checkSide : GoodIn wsX1_tried (va_wsS RX1 43 yX1_checkSide wsX1_checkSide) := goodIn_app (goodIn_of _ (by decide +kernel)) ggX1_tried_X1_checkSide
set_option maxRecDepth 20000 in
theorem ggX1_tried_X0_countChoices : GoodIn wsX1_tried wsX0_countChoices := goodIn_rc _ [(0, 16), (0, 17), (0, 18), (0, 19), (0, 20), (0, 15), (0, 21), (0, 22), (0, 23), (0, 24), (0, 25), (0, 26), (0, 27), (0, 28), (0, 29), (0, 30), (0, 31), (1, 0), (1, 1), (1, 2), (2, 30), (2, 31), (3, 0), (3, 1), (3, 2), (3, 3)] (by rfl) (by decide +kernel)
set_option maxRecDepth 20000 in
theorem gX1_tried_X0_countChoices : GoodIn wsX1_tried (wsV RX1 156 RX0 yX0_countChoices wsX0_countChoices) := goodIn_app (goodIn_of _ (by decide +kernel)) ggX1_tried_X0_countChoices
set_option maxRecDepth 20000 in
theorem ggX1_tried_X1_layChoices : GoodIn wsX1_tried wsX1_layChoices := goodIn_rc _ [(1, 6), (0, 2), (0, 1), (1, 7), (1, 8), (1, 9), (0, 15), (1, 10), (0, 17), (1, 2), (1, 11), (1, 12), (1, 13), (0, 22), (0, 18), (0, 19), (0, 20), (0, 21), (1, 14), (1, 15), (0, 24), (0, 25), (0, 26), (0, 27), (0, 28), (0, 29), (1, 16), (0, 31), (1, 0), (1, 1), (1, 17), (1, 18), (0, 5), (1, 19), (1, 20), (1, 21), (1, 22), (1, 23), (1, 24), (1, 25), (1, 26), (2, 23), (2, 24), (2, 25), (2, 26), (2, 27), (2, 28), (2, 29), (2, 30), (2, 31), (3, 0), (3, 1), (3, 2), (3, 3)] (by rfl) (by decide +kernel)
set_option maxRecDepth 20000 in
theorem gX1_tried_X1_layChoices : GoodIn wsX1_tried (wsV RX1 159 RX1 yX1_layChoices wsX1_layChoices) := goodIn_app (goodIn_of _ (by decide +kernel)) ggX1_tried_X1_layChoices
set_option maxRecDepth 20000 in
theorem ggX1_tried_X0_won : GoodIn wsX1_tried wsX0_won := goodIn_rc _ [(1, 30), (1, 11), (1, 31), (2, 0), (2, 1), (0, 15), (2, 2), (2, 3), (2, 4), (2, 5), (2, 6), (0, 17), (0, 22), (1, 2), (2, 7), (2, 8), (2, 9), (2, 10), (2, 11), (2, 12), (2, 13), (2, 14), (2, 15), (2, 16), (2, 17), (2, 18), (1, 12), (1, 13), (2, 19), (2, 20), (2, 21), (2, 22), (2, 30), (2, 31), (3, 0), (3, 1), (3, 2), (3, 3)] (by rfl) (by decide +kernel)
set_option maxRecDepth 20000 in
theorem gX1_tried_X0_won : GoodIn wsX1_tried (wsV RX1 141 RX0 yX0_won wsX0_won) := goodIn_app (goodIn_of _ (by decide +kernel)) ggX1_tried_X0_won
theorem dX1_tried_0 : decode cX1_tried 0 = .ok (.iload_n 1, 1) := by decide +kernel
theorem dX1_tried_1 : decode cX1_tried 1 = .ok (.iconst 0, 1) := by decide +kernel
theorem dX1_tried_2 : decode cX1_tried 2 = .ok (.iconst 3, 1) := by decide +kernel
theorem dX1_tried_3 : decode cX1_tried 3 = .ok (.invokestatic 19, 3) := by decide +kernel
theorem dX1_tried_6 : decode cX1_tried 6 = .ok (.iload_n 2, 1) := by decide +kernel
theorem dX1_tried_7 : decode cX1_tried 7 = .ok (.invokestatic 43, 3) := by decide +kernel
theorem dX1_tried_10 : decode cX1_tried 10 = .ok (.aload_n 0, 1) := by decide +kernel
theorem dX1_tried_11 : decode cX1_tried 11 = .ok (.getfield 10, 3) := by decide +kernel
theorem dX1_tried_14 : decode cX1_tried 14 = .ok (.iload_n 2, 1) := by decide +kernel
theorem dX1_tried_15 : decode cX1_tried 15 = .ok (.invokevirtual 156, 3) := by decide +kernel
theorem dX1_tried_18 : decode cX1_tried 18 = .ok (.istore_n 3, 1) := by decide +kernel
theorem dX1_tried_19 : decode cX1_tried 19 = .ok (.iload_n 3, 1) := by decide +kernel
theorem dX1_tried_20 : decode cX1_tried 20 = .ok (.bipush 64, 2) := by decide +kernel
theorem dX1_tried_22 : decode cX1_tried 22 = .ok (.if_icmp .le 6, 3) := by decide +kernel
theorem dX1_tried_25 : decode cX1_tried 25 = .ok (.bipush (-9), 2) := by decide +kernel
theorem dX1_tried_27 : decode cX1_tried 27 = .ok (.ireturn, 1) := by decide +kernel
theorem dX1_tried_28 : decode cX1_tried 28 = .ok (.iconst 0, 1) := by decide +kernel
theorem dX1_tried_29 : decode cX1_tried 29 = .ok (.istore 4, 2) := by decide +kernel
theorem dX1_tried_31 : decode cX1_tried 31 = .ok (.iconst 0, 1) := by decide +kernel
theorem dX1_tried_32 : decode cX1_tried 32 = .ok (.istore 5, 2) := by decide +kernel
theorem dX1_tried_34 : decode cX1_tried 34 = .ok (.iload 5, 2) := by decide +kernel
theorem dX1_tried_36 : decode cX1_tried 36 = .ok (.iload_n 3, 1) := by decide +kernel
theorem dX1_tried_37 : decode cX1_tried 37 = .ok (.if_icmp .ge 30, 3) := by decide +kernel
theorem dX1_tried_40 : decode cX1_tried 40 = .ok (.aload_n 0, 1) := by decide +kernel
theorem dX1_tried_41 : decode cX1_tried 41 = .ok (.iload_n 2, 1) := by decide +kernel
theorem dX1_tried_42 : decode cX1_tried 42 = .ok (.iload 5, 2) := by decide +kernel
theorem dX1_tried_44 : decode cX1_tried 44 = .ok (.invokevirtual 159, 3) := by decide +kernel
theorem dX1_tried_47 : decode cX1_tried 47 = .ok (.iload 4, 2) := by decide +kernel
theorem dX1_tried_49 : decode cX1_tried 49 = .ok (.aload_n 0, 1) := by decide +kernel
theorem dX1_tried_50 : decode cX1_tried 50 = .ok (.getfield 16, 3) := by decide +kernel
theorem dX1_tried_53 : decode cX1_tried 53 = .ok (.iload_n 1, 1) := by decide +kernel
theorem dX1_tried_54 : decode cX1_tried 54 = .ok (.iload_n 2, 1) := by decide +kernel
theorem dX1_tried_55 : decode cX1_tried 55 = .ok (.invokevirtual 141, 3) := by decide +kernel
theorem dX1_tried_58 : decode cX1_tried 58 = .ok (.ior, 1) := by decide +kernel
theorem dX1_tried_59 : decode cX1_tried 59 = .ok (.istore 4, 2) := by decide +kernel
theorem dX1_tried_61 : decode cX1_tried 61 = .ok (.iinc 5 1, 3) := by decide +kernel
theorem dX1_tried_64 : decode cX1_tried 64 = .ok (.goto (-30), 3) := by decide +kernel
theorem dX1_tried_67 : decode cX1_tried 67 = .ok (.iload 4, 2) := by decide +kernel
theorem dX1_tried_69 : decode cX1_tried 69 = .ok (.ireturn, 1) := by decide +kernel
set_option maxRecDepth 20000 in
theorem ggX1_withGoal_X1_checkPlace : GoodIn wsX1_withGoal wsX1_checkPlace := goodIn_ca (goodIn_rc _ [(0, 7), (0, 8), (0, 9), (0, 2), (1, 29), (1, 30), (1, 31), (2, 0), (2, 1), (2, 2), (2, 3), (2, 4), (2, 5), (2, 6), (2, 7), (2, 8), (2, 9)] (by rfl) (by decide +kernel)) (goodIn_sub (fun _ h => List.mem_cons_of_mem _ (List.mem_append_left _ (List.mem_append_right _ h))) (by decide +kernel))
set_option maxRecDepth 20000 in
theorem gX1_withGoal_X1_checkPlace : GoodIn wsX1_withGoal (wsV RX1 40 RX1 yX1_checkPlace wsX1_checkPlace) := goodIn_app (goodIn_of _ (by decide +kernel)) ggX1_withGoal_X1_checkPlace
set_option maxRecDepth 20000 in
theorem ggX1_withGoal_X1_checkBetween : GoodIn wsX1_withGoal wsX1_checkBetween := goodIn_ca (goodIn_rc _ [(0, 12), (0, 13), (0, 14)] (by rfl) (by decide +kernel)) (goodIn_sub (fun _ h => List.mem_cons_of_mem _ (List.mem_append_right _ h)) (by decide +kernel))
set_option maxRecDepth 20000 in
theorem gX1_withGoal_X1_checkBetween : GoodIn wsX1_withGoal (va_wsS RX1 19 yX1_checkBetween wsX1_checkBetween) := goodIn_app (goodIn_of _ (by decide +kernel)) ggX1_withGoal_X1_checkBetween
set_option maxRecDepth 20000 in
theorem ggX1_withGoal_X1_checkSide : GoodIn wsX1_withGoal wsX1_checkSide := goodIn_ca (goodIn_rc _ [(0, 17), (0, 10), (0, 11), (0, 6), (0, 12), (0, 13), (0, 14)] (by rfl) (by decide +kernel)) (goodIn_sub (fun _ h => List.mem_cons_of_mem _ (List.mem_append_right _ h)) (by decide +kernel))
set_option maxRecDepth 20000 in
theorem gX1_withGoal_X1_checkSide : GoodIn wsX1_withGoal (va_wsS RX1 43 yX1_checkSide wsX1_checkSide) := goodIn_app (goodIn_of _ (by decide +kernel)) ggX1_withGoal_X1_checkSide
set_option maxRecDepth 20000 in
theorem ggX1_withGoal_X0_copyFrom : GoodIn wsX1_withGoal wsX0_copyFrom := goodIn_rc _ [(0, 22), (0, 23), (0, 24), (0, 25), (0, 26), (0, 27), (0, 28), (0, 29), (0, 30), (0, 31), (0, 21), (1, 0), (2, 4), (2, 5), (2, 6), (2, 7), (2, 8), (2, 9)] (by rfl) (by decide +kernel)
set_option maxRecDepth 20000 in
theorem gX1_withGoal_X0_copyFrom : GoodIn wsX1_withGoal (wsV RX1 86 RX0 yX0_copyFrom wsX0_copyFrom) := goodIn_app (goodIn_of _ (by decide +kernel)) ggX1_withGoal_X0_copyFrom
set_option maxRecDepth 20000 in
theorem ggX1_withGoal_X0_won : GoodIn wsX1_withGoal wsX0_won := goodIn_rc _ [(1, 4), (0, 25), (1, 5), (1, 6), (1, 7), (0, 21), (1, 8), (1, 9), (1, 10), (1, 11), (1, 12), (0, 23), (0, 28), (0, 24), (1, 13), (1, 14), (1, 15), (1, 16), (1, 17), (1, 18), (1, 19), (1, 20), (1, 21), (1, 22), (1, 23), (1, 24), (0, 26), (0, 27), (1, 25), (1, 26), (1, 27), (1, 28), (2, 4), (2, 5), (2, 6), (2, 7), (2, 8), (2, 9)] (by rfl) (by decide +kernel)
set_option maxRecDepth 20000 in
theorem gX1_withGoal_X0_won : GoodIn wsX1_withGoal (wsV RX1 141 RX0 yX0_won wsX0_won) := goodIn_app (goodIn_of _ (by decide +kernel)) ggX1_withGoal_X0_won
theorem dX1_withGoal_0 : decode cX1_withGoal 0 = .ok (.aload_n 0, 1) := by decide +kernel
theorem dX1_withGoal_1 : decode cX1_withGoal 1 = .ok (.iload_n 3, 1) := by decide +kernel
theorem dX1_withGoal_2 : decode cX1_withGoal 2 = .ok (.invokevirtual 40, 3) := by decide +kernel
theorem dX1_withGoal_5 : decode cX1_withGoal 5 = .ok (.iload_n 1, 1) := by decide +kernel
theorem dX1_withGoal_6 : decode cX1_withGoal 6 = .ok (.iconst 0, 1) := by decide +kernel
theorem dX1_withGoal_7 : decode cX1_withGoal 7 = .ok (.iconst 1, 1) := by decide +kernel
theorem dX1_withGoal_8 : decode cX1_withGoal 8 = .ok (.invokestatic 19, 3) := by decide +kernel
theorem dX1_withGoal_11 : decode cX1_withGoal 11 = .ok (.iload_n 2, 1) := by decide +kernel
theorem dX1_withGoal_12 : decode cX1_withGoal 12 = .ok (.invokestatic 43, 3) := by decide +kernel
theorem dX1_withGoal_15 : decode cX1_withGoal 15 = .ok (.aload_n 0, 1) := by decide +kernel
theorem dX1_withGoal_16 : decode cX1_withGoal 16 = .ok (.getfield 16, 3) := by decide +kernel
theorem dX1_withGoal_19 : decode cX1_withGoal 19 = .ok (.aload_n 0, 1) := by decide +kernel
theorem dX1_withGoal_20 : decode cX1_withGoal 20 = .ok (.getfield 10, 3) := by decide +kernel
theorem dX1_withGoal_23 : decode cX1_withGoal 23 = .ok (.invokevirtual 86, 3) := by decide +kernel
theorem dX1_withGoal_26 : decode cX1_withGoal 26 = .ok (.aload_n 0, 1) := by decide +kernel
theorem dX1_withGoal_27 : decode cX1_withGoal 27 = .ok (.getfield 16, 3) := by decide +kernel
theorem dX1_withGoal_30 : decode cX1_withGoal 30 = .ok (.dup, 1) := by decide +kernel
theorem dX1_withGoal_31 : decode cX1_withGoal 31 = .ok (.getfield 63, 3) := by decide +kernel
theorem dX1_withGoal_34 : decode cX1_withGoal 34 = .ok (.iconst 1, 1) := by decide +kernel
theorem dX1_withGoal_35 : decode cX1_withGoal 35 = .ok (.iload_n 3, 1) := by decide +kernel
theorem dX1_withGoal_36 : decode cX1_withGoal 36 = .ok (.ishl, 1) := by decide +kernel
theorem dX1_withGoal_37 : decode cX1_withGoal 37 = .ok (.ior, 1) := by decide +kernel
theorem dX1_withGoal_38 : decode cX1_withGoal 38 = .ok (.putfield 63, 3) := by decide +kernel
theorem dX1_withGoal_41 : decode cX1_withGoal 41 = .ok (.aload_n 0, 1) := by decide +kernel
theorem dX1_withGoal_42 : decode cX1_withGoal 42 = .ok (.getfield 16, 3) := by decide +kernel
theorem dX1_withGoal_45 : decode cX1_withGoal 45 = .ok (.iload_n 1, 1) := by decide +kernel
theorem dX1_withGoal_46 : decode cX1_withGoal 46 = .ok (.ifCond .ne 7, 3) := by decide +kernel
theorem dX1_withGoal_49 : decode cX1_withGoal 49 = .ok (.iconst 0, 1) := by decide +kernel
theorem dX1_withGoal_50 : decode cX1_withGoal 50 = .ok (.goto 4, 3) := by decide +kernel
theorem dX1_withGoal_53 : decode cX1_withGoal 53 = .ok (.iconst 2, 1) := by decide +kernel
theorem dX1_withGoal_54 : decode cX1_withGoal 54 = .ok (.iload_n 2, 1) := by decide +kernel
theorem dX1_withGoal_55 : decode cX1_withGoal 55 = .ok (.invokevirtual 141, 3) := by decide +kernel
theorem dX1_withGoal_58 : decode cX1_withGoal 58 = .ok (.ireturn, 1) := by decide +kernel
set_option maxRecDepth 20000 in
theorem ggX1_withWay_X1_checkPlace : GoodIn wsX1_withWay wsX1_checkPlace := goodIn_ca (goodIn_rc _ [(0, 7), (0, 8), (0, 9), (0, 2), (2, 5), (2, 6), (2, 7), (2, 8), (2, 9), (2, 10), (2, 11), (2, 12), (2, 13), (2, 14), (2, 15), (2, 16), (2, 17)] (by rfl) (by decide +kernel)) (goodIn_sub (fun _ h => List.mem_cons_of_mem _ (List.mem_append_left _ (List.mem_append_right _ h))) (by decide +kernel))
set_option maxRecDepth 20000 in
theorem gX1_withWay_X1_checkPlace : GoodIn wsX1_withWay (wsV RX1 40 RX1 yX1_checkPlace wsX1_checkPlace) := goodIn_app (goodIn_of _ (by decide +kernel)) ggX1_withWay_X1_checkPlace
set_option maxRecDepth 20000 in
theorem ggX1_withWay_X1_checkBetween : GoodIn wsX1_withWay wsX1_checkBetween := goodIn_ca (goodIn_rc _ [(0, 12), (0, 13), (0, 14)] (by rfl) (by decide +kernel)) (goodIn_sub (fun _ h => List.mem_cons_of_mem _ (List.mem_append_right _ h)) (by decide +kernel))
set_option maxRecDepth 20000 in
theorem gX1_withWay_X1_checkBetween : GoodIn wsX1_withWay (va_wsS RX1 19 yX1_checkBetween wsX1_checkBetween) := goodIn_app (goodIn_of _ (by decide +kernel)) ggX1_withWay_X1_checkBetween
set_option maxRecDepth 20000 in
theorem ggX1_withWay_X1_checkSide : GoodIn wsX1_withWay wsX1_checkSide := goodIn_ca (goodIn_rc _ [(0, 17), (0, 10), (0, 11), (0, 6), (0, 12), (0, 13), (0, 14)] (by rfl) (by decide +kernel)) (goodIn_sub (fun _ h => List.mem_cons_of_mem _ (List.mem_append_right _ h)) (by decide +kernel))
set_option maxRecDepth 20000 in
theorem gX1_withWay_X1_checkSide : GoodIn wsX1_withWay (va_wsS RX1 43 yX1_checkSide wsX1_checkSide) := goodIn_app (goodIn_of _ (by decide +kernel)) ggX1_withWay_X1_checkSide
set_option maxRecDepth 20000 in
theorem ggX1_withWay_X0_copyFrom : GoodIn wsX1_withWay wsX0_copyFrom := goodIn_rc _ [(0, 22), (0, 23), (0, 24), (0, 25), (0, 26), (0, 27), (0, 28), (0, 29), (0, 30), (0, 31), (0, 21), (1, 0), (2, 12), (2, 13), (2, 14), (2, 15), (2, 16), (2, 17)] (by rfl) (by decide +kernel)
set_option maxRecDepth 20000 in
theorem gX1_withWay_X0_copyFrom : GoodIn wsX1_withWay (wsV RX1 86 RX0 yX0_copyFrom wsX0_copyFrom) := goodIn_app (goodIn_of _ (by decide +kernel)) ggX1_withWay_X0_copyFrom
set_option maxRecDepth 20000 in
theorem ggX1_withWay_X0_putWay : GoodIn wsX1_withWay wsX0_putWay := goodIn_rc _ [(1, 4), (0, 29), (0, 30), (0, 31), (0, 21), (1, 0), (0, 28), (1, 5), (1, 6), (1, 7), (1, 8), (2, 12), (2, 13), (2, 14), (2, 15), (2, 16), (2, 17)] (by rfl) (by decide +kernel)
set_option maxRecDepth 20000 in
theorem gX1_withWay_X0_putWay : GoodIn wsX1_withWay (wsV RX1 80 RX0 yX0_putWay wsX0_putWay) := goodIn_app (goodIn_of _ (by decide +kernel)) ggX1_withWay_X0_putWay
set_option maxRecDepth 20000 in
theorem ggX1_withWay_X0_won : GoodIn wsX1_withWay wsX0_won := goodIn_rc _ [(1, 12), (0, 25), (1, 13), (1, 14), (1, 15), (0, 21), (1, 16), (1, 17), (1, 18), (1, 19), (1, 20), (0, 23), (0, 28), (0, 24), (1, 21), (1, 22), (1, 23), (1, 24), (1, 25), (1, 26), (1, 27), (1, 28), (1, 29), (1, 30), (1, 31), (2, 0), (0, 26), (0, 27), (2, 1), (2, 2), (2, 3), (2, 4), (2, 12), (2, 13), (2, 14), (2, 15), (2, 16), (2, 17)] (by rfl) (by decide +kernel)
set_option maxRecDepth 20000 in
theorem gX1_withWay_X0_won : GoodIn wsX1_withWay (wsV RX1 141 RX0 yX0_won wsX0_won) := goodIn_app (goodIn_of _ (by decide +kernel)) ggX1_withWay_X0_won
theorem dX1_withWay_0 : decode cX1_withWay 0 = .ok (.aload_n 0, 1) := by decide +kernel
theorem dX1_withWay_1 : decode cX1_withWay 1 = .ok (.iload_n 3, 1) := by decide +kernel
theorem dX1_withWay_2 : decode cX1_withWay 2 = .ok (.invokevirtual 40, 3) := by decide +kernel
theorem dX1_withWay_5 : decode cX1_withWay 5 = .ok (.aload_n 0, 1) := by decide +kernel
theorem dX1_withWay_6 : decode cX1_withWay 6 = .ok (.iload 4, 2) := by decide +kernel
theorem dX1_withWay_8 : decode cX1_withWay 8 = .ok (.invokevirtual 40, 3) := by decide +kernel
theorem dX1_withWay_11 : decode cX1_withWay 11 = .ok (.iload_n 1, 1) := by decide +kernel
theorem dX1_withWay_12 : decode cX1_withWay 12 = .ok (.iconst 0, 1) := by decide +kernel
theorem dX1_withWay_13 : decode cX1_withWay 13 = .ok (.iconst 3, 1) := by decide +kernel
theorem dX1_withWay_14 : decode cX1_withWay 14 = .ok (.invokestatic 19, 3) := by decide +kernel
theorem dX1_withWay_17 : decode cX1_withWay 17 = .ok (.iload_n 2, 1) := by decide +kernel
theorem dX1_withWay_18 : decode cX1_withWay 18 = .ok (.invokestatic 43, 3) := by decide +kernel
theorem dX1_withWay_21 : decode cX1_withWay 21 = .ok (.aload_n 0, 1) := by decide +kernel
theorem dX1_withWay_22 : decode cX1_withWay 22 = .ok (.getfield 16, 3) := by decide +kernel
theorem dX1_withWay_25 : decode cX1_withWay 25 = .ok (.aload_n 0, 1) := by decide +kernel
theorem dX1_withWay_26 : decode cX1_withWay 26 = .ok (.getfield 10, 3) := by decide +kernel
theorem dX1_withWay_29 : decode cX1_withWay 29 = .ok (.invokevirtual 86, 3) := by decide +kernel
theorem dX1_withWay_32 : decode cX1_withWay 32 = .ok (.aload_n 0, 1) := by decide +kernel
theorem dX1_withWay_33 : decode cX1_withWay 33 = .ok (.getfield 16, 3) := by decide +kernel
theorem dX1_withWay_36 : decode cX1_withWay 36 = .ok (.iload_n 3, 1) := by decide +kernel
theorem dX1_withWay_37 : decode cX1_withWay 37 = .ok (.iload 4, 2) := by decide +kernel
theorem dX1_withWay_39 : decode cX1_withWay 39 = .ok (.invokevirtual 80, 3) := by decide +kernel
theorem dX1_withWay_42 : decode cX1_withWay 42 = .ok (.aload_n 0, 1) := by decide +kernel
theorem dX1_withWay_43 : decode cX1_withWay 43 = .ok (.getfield 16, 3) := by decide +kernel
theorem dX1_withWay_46 : decode cX1_withWay 46 = .ok (.iload_n 1, 1) := by decide +kernel
theorem dX1_withWay_47 : decode cX1_withWay 47 = .ok (.iload_n 2, 1) := by decide +kernel
theorem dX1_withWay_48 : decode cX1_withWay 48 = .ok (.invokevirtual 141, 3) := by decide +kernel
theorem dX1_withWay_51 : decode cX1_withWay 51 = .ok (.ireturn, 1) := by decide +kernel
set_option maxRecDepth 20000 in
theorem ggX1_house_X1_checkBetween : GoodIn wsX1_house wsX1_checkBetween := goodIn_ca (goodIn_rc _ [(0, 7), (0, 8), (0, 9)] (by rfl) (by decide +kernel)) (goodIn_sub (fun _ h => List.mem_cons_of_mem _ (List.mem_append_right _ h)) (by decide +kernel))
set_option maxRecDepth 20000 in
theorem gX1_house_X1_checkBetween : GoodIn wsX1_house (va_wsS RX1 19 yX1_checkBetween wsX1_checkBetween) := goodIn_app (goodIn_of _ (by decide +kernel)) ggX1_house_X1_checkBetween
theorem dX1_house_0 : decode cX1_house 0 = .ok (.iload_n 1, 1) := by decide +kernel
theorem dX1_house_1 : decode cX1_house 1 = .ok (.iconst 0, 1) := by decide +kernel
theorem dX1_house_2 : decode cX1_house 2 = .ok (.iconst 2, 1) := by decide +kernel
theorem dX1_house_3 : decode cX1_house 3 = .ok (.invokestatic 19, 3) := by decide +kernel
theorem dX1_house_6 : decode cX1_house 6 = .ok (.iload_n 1, 1) := by decide +kernel
theorem dX1_house_7 : decode cX1_house 7 = .ok (.lookupswitch 35 #[(0, 25), (1, 30)], 25) := by decide +kernel
theorem dX1_house_32 : decode cX1_house 32 = .ok (.aload_n 0, 1) := by decide +kernel
theorem dX1_house_33 : decode cX1_house 33 = .ok (.getfield 37, 3) := by decide +kernel
theorem dX1_house_36 : decode cX1_house 36 = .ok (.ireturn, 1) := by decide +kernel
theorem dX1_house_37 : decode cX1_house 37 = .ok (.aload_n 0, 1) := by decide +kernel
theorem dX1_house_38 : decode cX1_house 38 = .ok (.getfield 162, 3) := by decide +kernel
theorem dX1_house_41 : decode cX1_house 41 = .ok (.ireturn, 1) := by decide +kernel
theorem dX1_house_42 : decode cX1_house 42 = .ok (.aload_n 0, 1) := by decide +kernel
theorem dX1_house_43 : decode cX1_house 43 = .ok (.getfield 165, 3) := by decide +kernel
theorem dX1_house_46 : decode cX1_house 46 = .ok (.ireturn, 1) := by decide +kernel
theorem dX1_knock_0 : decode cX1_knock 0 = .ok (.aload_n 0, 1) := by decide +kernel
theorem dX1_knock_1 : decode cX1_knock 1 = .ok (.dup, 1) := by decide +kernel
theorem dX1_knock_2 : decode cX1_knock 2 = .ok (.getfield 165, 3) := by decide +kernel
theorem dX1_knock_5 : decode cX1_knock 5 = .ok (.iconst 1, 1) := by decide +kernel
theorem dX1_knock_6 : decode cX1_knock 6 = .ok (.iadd, 1) := by decide +kernel
theorem dX1_knock_7 : decode cX1_knock 7 = .ok (.putfield 165, 3) := by decide +kernel
theorem dX1_knock_10 : decode cX1_knock 10 = .ok (.aload_n 0, 1) := by decide +kernel
theorem dX1_knock_11 : decode cX1_knock 11 = .ok (.getfield 165, 3) := by decide +kernel
theorem dX1_knock_14 : decode cX1_knock 14 = .ok (.ireturn, 1) := by decide +kernel
set_option maxRecDepth 20000 in
theorem ggX1_isSound_X1_isComingSound : GoodIn wsX1_isSound wsX1_isComingSound := goodIn_rc _ [(0, 5), (0, 6), (0, 7), (0, 8), (0, 9), (0, 10), (0, 11), (0, 12), (0, 13), (0, 14), (0, 15), (0, 16), (0, 17), (0, 18), (0, 19), (0, 20), (0, 21), (0, 22), (0, 23), (0, 24), (0, 25), (0, 26), (0, 27), (0, 28), (0, 29), (0, 30), (0, 31), (1, 0), (1, 1), (1, 2), (1, 3), (1, 4), (1, 5), (1, 6), (1, 7), (1, 8), (1, 9), (1, 10), (1, 11), (2, 30), (2, 31), (3, 0), (3, 1), (3, 2), (3, 3), (3, 4), (3, 5), (3, 6), (3, 7), (3, 8), (3, 9), (3, 10)] (by rfl) (by decide +kernel)
set_option maxRecDepth 20000 in
theorem gX1_isSound_X1_isComingSound : GoodIn wsX1_isSound (wsV RX1 168 RX1 yX1_isComingSound wsX1_isComingSound) := goodIn_app (goodIn_of _ (by decide +kernel)) ggX1_isSound_X1_isComingSound
set_option maxRecDepth 20000 in
theorem ggX1_isSound_X1_isAgainSound : GoodIn wsX1_isSound wsX1_isAgainSound := goodIn_rc _ [(1, 15), (0, 6), (0, 7), (0, 8), (0, 9), (0, 10), (0, 11), (0, 12), (0, 13), (0, 14), (0, 15), (0, 16), (0, 17), (0, 18), (0, 19), (0, 20), (0, 21), (0, 22), (0, 23), (0, 24), (0, 25), (0, 26), (0, 27), (0, 28), (0, 29), (0, 30), (0, 31), (1, 0), (1, 1), (1, 2), (1, 3), (1, 4), (1, 5), (1, 6), (1, 7), (1, 8), (1, 9), (1, 11), (2, 30), (2, 31), (3, 0), (3, 1), (3, 2), (3, 3), (3, 4), (3, 5), (3, 6), (3, 7), (3, 8), (3, 9), (3, 10)] (by rfl) (by decide +kernel)
set_option maxRecDepth 20000 in
theorem gX1_isSound_X1_isAgainSound : GoodIn wsX1_isSound (wsV RX1 172 RX1 yX1_isAgainSound wsX1_isAgainSound) := goodIn_app (goodIn_of _ (by decide +kernel)) ggX1_isSound_X1_isAgainSound
set_option maxRecDepth 20000 in
theorem ggX1_isSound_X1_holdsByChoices : GoodIn wsX1_isSound wsX1_holdsByChoices := goodIn_rc _ [(1, 19), (1, 20), (0, 6), (1, 21), (1, 22), (1, 23), (0, 10), (1, 24), (0, 21), (0, 23), (0, 12), (1, 4), (1, 5), (0, 22), (1, 25), (1, 26), (1, 27), (1, 28), (0, 7), (0, 8), (0, 9), (0, 11), (0, 13), (0, 14), (0, 15), (0, 16), (0, 17), (0, 18), (0, 19), (0, 20), (0, 24), (0, 25), (0, 26), (0, 27), (0, 28), (0, 29), (0, 30), (0, 31), (1, 0), (1, 1), (1, 2), (1, 3), (1, 6), (1, 7), (1, 8), (1, 9), (1, 29), (1, 30), (1, 31), (2, 0), (2, 1), (2, 2), (2, 3), (2, 4), (2, 5), (0, 4), (2, 6), (2, 7), (2, 8), (2, 9), (2, 10), (2, 11), (2, 12), (2, 13), (2, 14), (2, 15), (2, 16), (2, 17), (2, 18), (2, 19), (2, 20), (2, 30), (2, 31), (3, 0), (3, 1), (3, 2), (3, 3), (3, 4), (3, 5), (3, 6), (3, 7), (3, 8), (3, 9), (3, 10)] (by rfl) (by decide +kernel)
set_option maxRecDepth 20000 in
theorem gX1_isSound_X1_holdsByChoices : GoodIn wsX1_isSound (wsV RX1 150 RX1 yX1_holdsByChoices wsX1_holdsByChoices) := goodIn_app (goodIn_of _ (by decide +kernel)) ggX1_isSound_X1_holdsByChoices
set_option maxRecDepth 20000 in
theorem ggX1_isSound_X1_isRankedSound : GoodIn wsX1_isSound wsX1_isRankedSound := goodIn_rc _ [(2, 24), (0, 6), (0, 7), (0, 8), (0, 9), (0, 10), (0, 11), (0, 12), (0, 13), (0, 14), (0, 15), (0, 16), (0, 17), (0, 18), (0, 19), (0, 20), (0, 21), (0, 22), (0, 23), (0, 24), (0, 25), (0, 26), (0, 27), (0, 28), (0, 29), (0, 30), (0, 31), (1, 0), (1, 1), (1, 2), (1, 3), (1, 4), (1, 5), (1, 6), (1, 7), (1, 8), (1, 9), (1, 10), (2, 25), (2, 26), (2, 27), (2, 28), (2, 29), (1, 26), (1, 27), (1, 28), (2, 12), (2, 5), (0, 4), (2, 6), (2, 30), (2, 31), (3, 0), (3, 1), (3, 2), (3, 3), (3, 4), (3, 5), (3, 6), (3, 7), (3, 8), (3, 9), (3, 10)] (by rfl) (by decide +kernel)
set_option maxRecDepth 20000 in
theorem gX1_isSound_X1_isRankedSound : GoodIn wsX1_isSound (wsV RX1 175 RX1 yX1_isRankedSound wsX1_isRankedSound) := goodIn_app (goodIn_of _ (by decide +kernel)) ggX1_isSound_X1_isRankedSound
theorem dX1_isSound_0 : decode cX1_isSound 0 = .ok (.iconst 0, 1) := by decide +kernel
theorem dX1_isSound_1 : decode cX1_isSound 1 = .ok (.istore_n 1, 1) := by decide +kernel
theorem dX1_isSound_2 : decode cX1_isSound 2 = .ok (.iload_n 1, 1) := by decide +kernel
theorem dX1_isSound_3 : decode cX1_isSound 3 = .ok (.iconst 1, 1) := by decide +kernel
theorem dX1_isSound_4 : decode cX1_isSound 4 = .ok (.if_icmp .gt 51, 3) := by decide +kernel
theorem dX1_isSound_7 : decode cX1_isSound 7 = .ok (.aload_n 0, 1) := by decide +kernel
theorem dX1_isSound_8 : decode cX1_isSound 8 = .ok (.iload_n 1, 1) := by decide +kernel
theorem dX1_isSound_9 : decode cX1_isSound 9 = .ok (.invokevirtual 168, 3) := by decide +kernel
theorem dX1_isSound_12 : decode cX1_isSound 12 = .ok (.ifCond .eq 11, 3) := by decide +kernel
theorem dX1_isSound_15 : decode cX1_isSound 15 = .ok (.aload_n 0, 1) := by decide +kernel
theorem dX1_isSound_16 : decode cX1_isSound 16 = .ok (.iload_n 1, 1) := by decide +kernel
theorem dX1_isSound_17 : decode cX1_isSound 17 = .ok (.invokevirtual 172, 3) := by decide +kernel
theorem dX1_isSound_20 : decode cX1_isSound 20 = .ok (.ifCond .ne 5, 3) := by decide +kernel
theorem dX1_isSound_23 : decode cX1_isSound 23 = .ok (.iconst 0, 1) := by decide +kernel
theorem dX1_isSound_24 : decode cX1_isSound 24 = .ok (.ireturn, 1) := by decide +kernel
theorem dX1_isSound_25 : decode cX1_isSound 25 = .ok (.iconst 0, 1) := by decide +kernel
theorem dX1_isSound_26 : decode cX1_isSound 26 = .ok (.istore_n 2, 1) := by decide +kernel
theorem dX1_isSound_27 : decode cX1_isSound 27 = .ok (.iload_n 2, 1) := by decide +kernel
theorem dX1_isSound_28 : decode cX1_isSound 28 = .ok (.iconst 2, 1) := by decide +kernel
theorem dX1_isSound_29 : decode cX1_isSound 29 = .ok (.if_icmp .gt 20, 3) := by decide +kernel
theorem dX1_isSound_32 : decode cX1_isSound 32 = .ok (.aload_n 0, 1) := by decide +kernel
theorem dX1_isSound_33 : decode cX1_isSound 33 = .ok (.iload_n 2, 1) := by decide +kernel
theorem dX1_isSound_34 : decode cX1_isSound 34 = .ok (.iload_n 1, 1) := by decide +kernel
theorem dX1_isSound_35 : decode cX1_isSound 35 = .ok (.invokevirtual 150, 3) := by decide +kernel
theorem dX1_isSound_38 : decode cX1_isSound 38 = .ok (.ifCond .ne 5, 3) := by decide +kernel
theorem dX1_isSound_41 : decode cX1_isSound 41 = .ok (.iconst 0, 1) := by decide +kernel
theorem dX1_isSound_42 : decode cX1_isSound 42 = .ok (.ireturn, 1) := by decide +kernel
theorem dX1_isSound_43 : decode cX1_isSound 43 = .ok (.iinc 2 1, 3) := by decide +kernel
theorem dX1_isSound_46 : decode cX1_isSound 46 = .ok (.goto (-19), 3) := by decide +kernel
theorem dX1_isSound_49 : decode cX1_isSound 49 = .ok (.iinc 1 1, 3) := by decide +kernel
theorem dX1_isSound_52 : decode cX1_isSound 52 = .ok (.goto (-50), 3) := by decide +kernel
theorem dX1_isSound_55 : decode cX1_isSound 55 = .ok (.aload_n 0, 1) := by decide +kernel
theorem dX1_isSound_56 : decode cX1_isSound 56 = .ok (.invokevirtual 175, 3) := by decide +kernel
theorem dX1_isSound_59 : decode cX1_isSound 59 = .ok (.ireturn, 1) := by decide +kernel
set_option maxRecDepth 20000 in
theorem ggX1_digest_X1_told : GoodIn wsX1_digest wsX1_told := goodIn_ca (goodIn_rc _ [(0, 8), (0, 3), (0, 9), (0, 10), (0, 11), (0, 12), (0, 7), (0, 13), (0, 14), (0, 15), (0, 16), (0, 17), (0, 18), (0, 19), (0, 20), (0, 21), (0, 22), (0, 23), (0, 24), (0, 25), (0, 26), (0, 27), (0, 28), (0, 29), (0, 30), (0, 31), (1, 0), (1, 1), (1, 2), (1, 3), (1, 4), (1, 5), (1, 6), (1, 7), (1, 8), (1, 9), (1, 10), (1, 11), (1, 12), (1, 13), (1, 14), (6, 5), (6, 6), (6, 7), (6, 8), (6, 9), (6, 10), (6, 11), (6, 12), (6, 13), (6, 14), (6, 15), (6, 16), (6, 17)] (by rfl) (by decide +kernel)) (goodIn_sub (fun _ h => List.mem_cons_of_mem _ (List.mem_append_left _ (List.mem_append_right _ h))) (by decide +kernel))
set_option maxRecDepth 20000 in
theorem gX1_digest_X1_told : GoodIn wsX1_digest (wsV RX1 183 RX1 yX1_told wsX1_told) := goodIn_app (goodIn_of _ (by decide +kernel)) ggX1_digest_X1_told
set_option maxRecDepth 20000 in
theorem ggX1_digest_X1_ofPlace : GoodIn wsX1_digest wsX1_ofPlace := goodIn_ca (goodIn_ca (goodIn_rc _ [(1, 18), (0, 3), (1, 19), (1, 20), (1, 21), (0, 7), (1, 22), (1, 23), (1, 24), (0, 11), (0, 12), (0, 13), (0, 14), (0, 15), (1, 25), (1, 26), (1, 27), (0, 19), (1, 28), (1, 6), (1, 29), (1, 30), (1, 31), (2, 0), (2, 1), (2, 2), (2, 3), (2, 4), (2, 5), (2, 6), (0, 23), (0, 24), (0, 25), (0, 26), (2, 7), (2, 8), (2, 9), (2, 10), (0, 21), (0, 22), (6, 5), (6, 6), (6, 7), (6, 8), (6, 9), (6, 10), (6, 11), (6, 12), (6, 13), (6, 14), (6, 15), (6, 16), (6, 17)] (by rfl) (by decide +kernel)) (goodIn_sub (fun _ h => List.mem_cons_of_mem _ (List.mem_append_right _ h)) (by decide +kernel))) (goodIn_sub (fun _ h => List.mem_cons_of_mem _ (List.mem_append_left _ (List.mem_append_right _ h))) (by decide +kernel))
set_option maxRecDepth 20000 in
theorem gX1_digest_X1_ofPlace : GoodIn wsX1_digest (wsV RX1 186 RX1 yX1_ofPlace wsX1_ofPlace) := goodIn_app (goodIn_of _ (by decide +kernel)) ggX1_digest_X1_ofPlace
set_option maxRecDepth 20000 in
theorem ggX1_digest_X1_rounds : GoodIn wsX1_digest wsX1_rounds := goodIn_ca (goodIn_ca (goodIn_rc _ [(2, 14), (0, 3), (1, 19), (1, 20), (1, 21), (0, 7), (1, 22), (1, 23), (1, 24), (2, 15), (2, 16), (2, 17), (0, 11), (0, 12), (0, 13), (0, 14), (0, 15), (2, 18), (2, 19), (2, 20), (0, 19), (2, 21), (2, 22), (2, 23), (2, 24), (2, 25), (0, 21), (0, 26), (1, 6), (2, 3), (2, 4), (6, 5), (6, 6), (6, 7), (6, 8), (6, 9), (6, 10), (6, 11), (6, 12), (6, 13), (6, 14), (6, 15), (6, 16), (6, 17)] (by rfl) (by decide +kernel)) (goodIn_sub (fun _ h => List.mem_cons_of_mem _ (List.mem_append_right _ h)) (by decide +kernel))) (goodIn_sub (fun _ h => List.mem_cons_of_mem _ (List.mem_append_left _ (List.mem_append_right _ h))) (by decide +kernel))
set_option maxRecDepth 20000 in
theorem gX1_digest_X1_rounds : GoodIn wsX1_digest (wsV RX1 189 RX1 yX1_rounds wsX1_rounds) := goodIn_app (goodIn_of _ (by decide +kernel)) ggX1_digest_X1_rounds
set_option maxRecDepth 20000 in
theorem ggX1_digest_X1_againRounds : GoodIn wsX1_digest wsX1_againRounds := goodIn_ca (goodIn_ca (goodIn_rc _ [(2, 29), (0, 3), (1, 19), (1, 20), (1, 21), (0, 7), (1, 22), (1, 23), (1, 24), (2, 15), (2, 16), (2, 17), (0, 11), (0, 12), (0, 13), (0, 14), (0, 15), (2, 30), (2, 31), (3, 0), (0, 19), (3, 1), (3, 2), (3, 3), (3, 4), (3, 5), (3, 6), (2, 22), (2, 23), (2, 24), (2, 25), (0, 21), (0, 26), (1, 6), (1, 7), (1, 8), (1, 9), (1, 10), (3, 7), (3, 8), (3, 9), (3, 10), (3, 11), (3, 12), (3, 13), (3, 14), (2, 1), (2, 2), (3, 15), (3, 16), (3, 17), (3, 18), (2, 18), (2, 19), (2, 20), (2, 21), (2, 3), (2, 4), (6, 5), (6, 6), (6, 7), (6, 8), (6, 9), (6, 10), (6, 11), (6, 12), (6, 13), (6, 14), (6, 15), (6, 16), (6, 17)] (by rfl) (by decide +kernel)) (goodIn_sub (fun _ h => List.mem_cons_of_mem _ (List.mem_append_right _ h)) (by decide +kernel))) (goodIn_sub (fun _ h => List.mem_cons_of_mem _ (List.mem_append_left _ (List.mem_append_right _ h))) (by decide +kernel))
set_option maxRecDepth 20000 in
theorem gX1_digest_X1_againRounds : GoodIn wsX1_digest (wsV RX1 192 RX1 yX1_againRounds wsX1_againRounds) := goodIn_app (goodIn_of _ (by decide +kernel)) ggX1_digest_X1_againRounds
set_option maxRecDepth 20000 in
theorem ggX1_digest_X1_coming : GoodIn wsX1_digest wsX1_coming := goodIn_ca (goodIn_rc _ [(3, 22), (0, 3), (2, 15), (2, 16), (0, 7), (2, 17), (0, 11), (0, 12), (0, 13), (0, 14), (0, 15), (2, 30), (2, 31), (3, 0), (0, 19), (3, 1), (3, 2), (3, 3), (3, 4), (3, 5), (3, 6), (2, 22), (2, 23), (2, 24), (2, 25), (0, 21), (0, 26), (1, 6), (1, 7), (1, 8), (1, 9), (1, 10), (3, 7), (3, 8), (3, 9), (3, 10), (3, 11), (3, 12), (3, 13), (3, 14), (2, 1), (2, 2), (3, 15), (3, 16), (3, 17), (3, 18), (6, 5), (6, 6), (6, 7), (6, 8), (6, 9), (6, 10), (6, 11), (6, 12), (6, 13), (6, 14), (6, 15), (6, 16), (6, 17)] (by rfl) (by decide +kernel)) (goodIn_sub (fun _ h => List.mem_cons_of_mem _ (List.mem_append_left _ (List.mem_append_right _ h))) (by decide +kernel))
set_option maxRecDepth 20000 in
theorem gX1_digest_X1_coming : GoodIn wsX1_digest (wsV RX1 195 RX1 yX1_coming wsX1_coming) := goodIn_app (goodIn_of _ (by decide +kernel)) ggX1_digest_X1_coming
set_option maxRecDepth 20000 in
theorem ggX1_digest_X1_keeping : GoodIn wsX1_digest wsX1_keeping := goodIn_ca (goodIn_rc _ [(3, 26), (0, 3), (2, 15), (2, 16), (0, 7), (2, 17), (0, 11), (0, 12), (0, 13), (0, 14), (0, 15), (2, 30), (2, 31), (3, 0), (0, 19), (3, 1), (3, 2), (3, 3), (3, 4), (3, 5), (3, 6), (2, 22), (2, 23), (2, 24), (2, 25), (0, 21), (0, 26), (1, 6), (1, 7), (1, 8), (1, 9), (1, 10), (3, 7), (3, 8), (3, 9), (3, 10), (3, 11), (3, 12), (3, 13), (3, 14), (2, 1), (2, 2), (3, 15), (3, 16), (3, 17), (3, 18), (6, 5), (6, 6), (6, 7), (6, 8), (6, 9), (6, 10), (6, 11), (6, 12), (6, 13), (6, 14), (6, 15), (6, 16), (6, 17)] (by rfl) (by decide +kernel)) (goodIn_sub (fun _ h => List.mem_cons_of_mem _ (List.mem_append_left _ (List.mem_append_right _ h))) (by decide +kernel))
set_option maxRecDepth 20000 in
theorem gX1_digest_X1_keeping : GoodIn wsX1_digest (wsV RX1 198 RX1 yX1_keeping wsX1_keeping) := goodIn_app (goodIn_of _ (by decide +kernel)) ggX1_digest_X1_keeping
set_option maxRecDepth 20000 in
theorem ggX1_digest_X1_again : GoodIn wsX1_digest wsX1_again := goodIn_ca (goodIn_rc _ [(3, 30), (0, 3), (2, 15), (2, 16), (0, 7), (2, 17), (0, 11), (0, 12), (0, 13), (0, 14), (0, 15), (2, 30), (2, 31), (3, 0), (0, 19), (3, 1), (3, 2), (3, 3), (3, 4), (3, 5), (3, 6), (2, 22), (2, 23), (2, 24), (2, 25), (0, 21), (0, 26), (1, 6), (1, 7), (1, 8), (1, 9), (1, 10), (3, 7), (3, 8), (3, 9), (3, 10), (3, 11), (3, 12), (3, 13), (3, 14), (2, 1), (2, 2), (3, 15), (3, 16), (3, 17), (3, 18), (6, 5), (6, 6), (6, 7), (6, 8), (6, 9), (6, 10), (6, 11), (6, 12), (6, 13), (6, 14), (6, 15), (6, 16), (6, 17)] (by rfl) (by decide +kernel)) (goodIn_sub (fun _ h => List.mem_cons_of_mem _ (List.mem_append_left _ (List.mem_append_right _ h))) (by decide +kernel))
set_option maxRecDepth 20000 in
theorem gX1_digest_X1_again : GoodIn wsX1_digest (wsV RX1 201 RX1 yX1_again wsX1_again) := goodIn_app (goodIn_of _ (by decide +kernel)) ggX1_digest_X1_again
set_option maxRecDepth 20000 in
theorem ggX1_digest_X1_ranked : GoodIn wsX1_digest wsX1_ranked := goodIn_ca (goodIn_rc _ [(4, 2), (0, 3), (2, 15), (2, 16), (0, 7), (2, 17), (0, 11), (0, 12), (0, 13), (0, 14), (0, 15), (2, 30), (2, 31), (3, 0), (0, 19), (3, 1), (3, 2), (3, 3), (3, 4), (3, 5), (3, 6), (2, 22), (2, 23), (2, 24), (2, 25), (0, 21), (0, 26), (1, 6), (1, 7), (1, 8), (1, 9), (1, 10), (3, 7), (3, 8), (3, 9), (3, 10), (3, 11), (3, 12), (3, 13), (3, 14), (2, 1), (2, 2), (3, 15), (3, 16), (3, 17), (3, 18), (6, 5), (6, 6), (6, 7), (6, 8), (6, 9), (6, 10), (6, 11), (6, 12), (6, 13), (6, 14), (6, 15), (6, 16), (6, 17)] (by rfl) (by decide +kernel)) (goodIn_sub (fun _ h => List.mem_cons_of_mem _ (List.mem_append_left _ (List.mem_append_right _ h))) (by decide +kernel))
set_option maxRecDepth 20000 in
theorem gX1_digest_X1_ranked : GoodIn wsX1_digest (wsV RX1 204 RX1 yX1_ranked wsX1_ranked) := goodIn_app (goodIn_of _ (by decide +kernel)) ggX1_digest_X1_ranked
set_option maxRecDepth 20000 in
theorem ggX1_digest_X1_falls : GoodIn wsX1_digest wsX1_falls := goodIn_ca (goodIn_rc _ [(4, 6), (0, 3), (2, 15), (2, 16), (0, 7), (2, 17), (0, 11), (0, 12), (0, 13), (0, 14), (0, 15), (4, 7), (1, 8), (1, 9), (0, 19), (1, 10), (0, 21), (4, 8), (2, 23), (2, 24), (2, 25), (0, 26), (1, 6), (4, 9), (3, 4), (3, 5), (3, 6), (2, 22), (6, 5), (6, 6), (6, 7), (6, 8), (6, 9), (6, 10), (6, 11), (6, 12), (6, 13), (6, 14), (6, 15), (6, 16), (6, 17)] (by rfl) (by decide +kernel)) (goodIn_sub (fun _ h => List.mem_cons_of_mem _ (List.mem_append_left _ (List.mem_append_right _ h))) (by decide +kernel))
set_option maxRecDepth 20000 in
theorem gX1_digest_X1_falls : GoodIn wsX1_digest (wsV RX1 207 RX1 yX1_falls wsX1_falls) := goodIn_app (goodIn_of _ (by decide +kernel)) ggX1_digest_X1_falls
set_option maxRecDepth 20000 in
theorem ggX1_digest_X1_choices : GoodIn wsX1_digest wsX1_choices := goodIn_ca (goodIn_rc _ [(4, 13), (0, 3), (2, 15), (2, 16), (0, 7), (2, 17), (0, 11), (0, 12), (0, 13), (0, 14), (0, 15), (4, 14), (4, 15), (4, 16), (0, 19), (4, 17), (0, 21), (0, 22), (0, 23), (0, 24), (0, 25), (0, 26), (0, 27), (0, 28), (0, 29), (0, 30), (0, 31), (1, 0), (1, 1), (4, 18), (1, 26), (1, 27), (1, 28), (1, 6), (6, 5), (6, 6), (6, 7), (6, 8), (6, 9), (6, 10), (6, 11), (6, 12), (6, 13), (6, 14), (6, 15), (6, 16), (6, 17)] (by rfl) (by decide +kernel)) (goodIn_sub (fun _ h => List.mem_cons_of_mem _ (List.mem_append_left _ (List.mem_append_right _ h))) (by decide +kernel))
set_option maxRecDepth 20000 in
theorem gX1_digest_X1_choices : GoodIn wsX1_digest (wsV RX1 210 RX1 yX1_choices wsX1_choices) := goodIn_app (goodIn_of _ (by decide +kernel)) ggX1_digest_X1_choices
set_option maxRecDepth 20000 in
theorem ggX1_digest_X1_house : GoodIn wsX1_digest wsX1_house := goodIn_ca (goodIn_rc _ [(4, 22), (4, 23), (4, 24), (4, 25), (0, 11), (0, 12), (0, 7), (0, 13), (0, 14), (0, 15), (6, 5), (6, 6), (6, 7), (6, 8), (6, 9), (6, 10), (6, 11)] (by rfl) (by decide +kernel)) (goodIn_sub (fun _ h => List.mem_cons_of_mem _ (List.mem_append_left _ (List.mem_append_right _ h))) (by decide +kernel))
set_option maxRecDepth 20000 in
theorem gX1_digest_X1_house : GoodIn wsX1_digest (wsV RX1 213 RX1 yX1_house wsX1_house) := goodIn_app (goodIn_of _ (by decide +kernel)) ggX1_digest_X1_house
set_option maxRecDepth 20000 in
theorem ggX1_digest_X1_isSound : GoodIn wsX1_digest wsX1_isSound := goodIn_rc _ [(4, 29), (4, 30), (4, 31), (5, 0), (0, 7), (5, 1), (0, 3), (2, 30), (2, 31), (3, 0), (0, 19), (3, 1), (3, 2), (3, 3), (3, 4), (3, 5), (3, 6), (2, 22), (2, 23), (2, 24), (2, 25), (0, 21), (0, 26), (1, 6), (1, 7), (1, 8), (1, 9), (1, 10), (3, 7), (3, 8), (3, 9), (3, 10), (3, 11), (3, 12), (3, 13), (3, 14), (2, 1), (2, 2), (3, 15), (3, 16), (3, 17), (3, 18), (4, 7), (4, 8), (5, 2), (5, 3), (5, 4), (5, 5), (5, 6), (5, 7), (5, 8), (5, 9), (5, 10), (5, 11), (5, 12), (5, 13), (5, 14), (0, 22), (0, 23), (0, 24), (0, 25), (5, 15), (5, 16), (5, 17), (5, 18), (5, 19), (1, 3), (1, 4), (1, 5), (2, 3), (2, 4), (5, 20), (5, 21), (5, 22), (5, 23), (5, 24), (2, 5), (5, 25), (5, 26), (5, 27), (5, 28), (5, 29), (5, 30), (5, 31), (6, 0), (6, 1), (6, 2), (6, 3), (6, 4), (1, 25), (1, 26), (1, 27), (1, 28), (2, 6), (6, 5), (6, 6), (6, 7), (6, 8), (6, 9), (6, 10), (6, 11), (6, 12), (6, 13), (6, 14), (6, 15), (6, 16), (6, 17)] (by rfl) (by decide +kernel)
set_option maxRecDepth 20000 in
theorem gX1_digest_X1_isSound : GoodIn wsX1_digest (wsV RX1 216 RX1 yX1_isSound wsX1_isSound) := goodIn_app (goodIn_of _ (by decide +kernel)) ggX1_digest_X1_isSound
theorem dX1_digest_0 : decode cX1_digest 0 = .ok (.ldc2_w 179, 3) := by decide +kernel
theorem dX1_digest_3 : decode cX1_digest 3 = .ok (.lstore_n 1, 1) := by decide +kernel
theorem dX1_digest_4 : decode cX1_digest 4 = .ok (.iconst 0, 1) := by decide +kernel
theorem dX1_digest_5 : decode cX1_digest 5 = .ok (.istore_n 3, 1) := by decide +kernel
theorem dX1_digest_6 : decode cX1_digest 6 = .ok (.iload_n 3, 1) := by decide +kernel
theorem dX1_digest_7 : decode cX1_digest 7 = .ok (.bipush 6, 2) := by decide +kernel
theorem dX1_digest_9 : decode cX1_digest 9 = .ok (.if_icmp .gt 22, 3) := by decide +kernel
theorem dX1_digest_12 : decode cX1_digest 12 = .ok (.lload_n 1, 1) := by decide +kernel
theorem dX1_digest_13 : decode cX1_digest 13 = .ok (.ldc2_w 181, 3) := by decide +kernel
theorem dX1_digest_16 : decode cX1_digest 16 = .ok (.lmul, 1) := by decide +kernel
theorem dX1_digest_17 : decode cX1_digest 17 = .ok (.aload_n 0, 1) := by decide +kernel
theorem dX1_digest_18 : decode cX1_digest 18 = .ok (.iload_n 3, 1) := by decide +kernel
theorem dX1_digest_19 : decode cX1_digest 19 = .ok (.invokevirtual 183, 3) := by decide +kernel
theorem dX1_digest_22 : decode cX1_digest 22 = .ok (.i2l, 1) := by decide +kernel
theorem dX1_digest_23 : decode cX1_digest 23 = .ok (.ladd, 1) := by decide +kernel
theorem dX1_digest_24 : decode cX1_digest 24 = .ok (.lstore_n 1, 1) := by decide +kernel
theorem dX1_digest_25 : decode cX1_digest 25 = .ok (.iinc 3 1, 3) := by decide +kernel
theorem dX1_digest_28 : decode cX1_digest 28 = .ok (.goto (-22), 3) := by decide +kernel
theorem dX1_digest_31 : decode cX1_digest 31 = .ok (.iconst 0, 1) := by decide +kernel
theorem dX1_digest_32 : decode cX1_digest 32 = .ok (.istore_n 3, 1) := by decide +kernel
theorem dX1_digest_33 : decode cX1_digest 33 = .ok (.iload_n 3, 1) := by decide +kernel
theorem dX1_digest_34 : decode cX1_digest 34 = .ok (.aload_n 0, 1) := by decide +kernel
theorem dX1_digest_35 : decode cX1_digest 35 = .ok (.getfield 10, 3) := by decide +kernel
theorem dX1_digest_38 : decode cX1_digest 38 = .ok (.getfield 23, 3) := by decide +kernel
theorem dX1_digest_41 : decode cX1_digest 41 = .ok (.if_icmp .ge 95, 3) := by decide +kernel
theorem dX1_digest_44 : decode cX1_digest 44 = .ok (.iconst 0, 1) := by decide +kernel
theorem dX1_digest_45 : decode cX1_digest 45 = .ok (.istore 4, 2) := by decide +kernel
theorem dX1_digest_47 : decode cX1_digest 47 = .ok (.iload 4, 2) := by decide +kernel
theorem dX1_digest_49 : decode cX1_digest 49 = .ok (.iconst 3, 1) := by decide +kernel
theorem dX1_digest_50 : decode cX1_digest 50 = .ok (.if_icmp .gt 24, 3) := by decide +kernel
theorem dX1_digest_53 : decode cX1_digest 53 = .ok (.lload_n 1, 1) := by decide +kernel
theorem dX1_digest_54 : decode cX1_digest 54 = .ok (.ldc2_w 181, 3) := by decide +kernel
theorem dX1_digest_57 : decode cX1_digest 57 = .ok (.lmul, 1) := by decide +kernel
theorem dX1_digest_58 : decode cX1_digest 58 = .ok (.aload_n 0, 1) := by decide +kernel
theorem dX1_digest_59 : decode cX1_digest 59 = .ok (.iload_n 3, 1) := by decide +kernel
theorem dX1_digest_60 : decode cX1_digest 60 = .ok (.iload 4, 2) := by decide +kernel
theorem dX1_digest_62 : decode cX1_digest 62 = .ok (.invokevirtual 186, 3) := by decide +kernel
theorem dX1_digest_65 : decode cX1_digest 65 = .ok (.i2l, 1) := by decide +kernel
theorem dX1_digest_66 : decode cX1_digest 66 = .ok (.ladd, 1) := by decide +kernel
theorem dX1_digest_67 : decode cX1_digest 67 = .ok (.lstore_n 1, 1) := by decide +kernel
theorem dX1_digest_68 : decode cX1_digest 68 = .ok (.iinc 4 1, 3) := by decide +kernel
theorem dX1_digest_71 : decode cX1_digest 71 = .ok (.goto (-24), 3) := by decide +kernel
theorem dX1_digest_74 : decode cX1_digest 74 = .ok (.lload_n 1, 1) := by decide +kernel
theorem dX1_digest_75 : decode cX1_digest 75 = .ok (.ldc2_w 181, 3) := by decide +kernel
theorem dX1_digest_78 : decode cX1_digest 78 = .ok (.lmul, 1) := by decide +kernel
theorem dX1_digest_79 : decode cX1_digest 79 = .ok (.aload_n 0, 1) := by decide +kernel
theorem dX1_digest_80 : decode cX1_digest 80 = .ok (.iconst 0, 1) := by decide +kernel
theorem dX1_digest_81 : decode cX1_digest 81 = .ok (.iload_n 3, 1) := by decide +kernel
theorem dX1_digest_82 : decode cX1_digest 82 = .ok (.invokevirtual 189, 3) := by decide +kernel
theorem dX1_digest_85 : decode cX1_digest 85 = .ok (.i2l, 1) := by decide +kernel
theorem dX1_digest_86 : decode cX1_digest 86 = .ok (.ladd, 1) := by decide +kernel
theorem dX1_digest_87 : decode cX1_digest 87 = .ok (.lstore_n 1, 1) := by decide +kernel
theorem dX1_digest_88 : decode cX1_digest 88 = .ok (.lload_n 1, 1) := by decide +kernel
theorem dX1_digest_89 : decode cX1_digest 89 = .ok (.ldc2_w 181, 3) := by decide +kernel
theorem dX1_digest_92 : decode cX1_digest 92 = .ok (.lmul, 1) := by decide +kernel
theorem dX1_digest_93 : decode cX1_digest 93 = .ok (.aload_n 0, 1) := by decide +kernel
theorem dX1_digest_94 : decode cX1_digest 94 = .ok (.iconst 1, 1) := by decide +kernel
theorem dX1_digest_95 : decode cX1_digest 95 = .ok (.iload_n 3, 1) := by decide +kernel
theorem dX1_digest_96 : decode cX1_digest 96 = .ok (.invokevirtual 189, 3) := by decide +kernel
theorem dX1_digest_99 : decode cX1_digest 99 = .ok (.i2l, 1) := by decide +kernel
theorem dX1_digest_100 : decode cX1_digest 100 = .ok (.ladd, 1) := by decide +kernel
theorem dX1_digest_101 : decode cX1_digest 101 = .ok (.lstore_n 1, 1) := by decide +kernel
theorem dX1_digest_102 : decode cX1_digest 102 = .ok (.lload_n 1, 1) := by decide +kernel
theorem dX1_digest_103 : decode cX1_digest 103 = .ok (.ldc2_w 181, 3) := by decide +kernel
theorem dX1_digest_106 : decode cX1_digest 106 = .ok (.lmul, 1) := by decide +kernel
theorem dX1_digest_107 : decode cX1_digest 107 = .ok (.aload_n 0, 1) := by decide +kernel
theorem dX1_digest_108 : decode cX1_digest 108 = .ok (.iconst 0, 1) := by decide +kernel
theorem dX1_digest_109 : decode cX1_digest 109 = .ok (.iload_n 3, 1) := by decide +kernel
theorem dX1_digest_110 : decode cX1_digest 110 = .ok (.invokevirtual 192, 3) := by decide +kernel
theorem dX1_digest_113 : decode cX1_digest 113 = .ok (.i2l, 1) := by decide +kernel
theorem dX1_digest_114 : decode cX1_digest 114 = .ok (.ladd, 1) := by decide +kernel
theorem dX1_digest_115 : decode cX1_digest 115 = .ok (.lstore_n 1, 1) := by decide +kernel
theorem dX1_digest_116 : decode cX1_digest 116 = .ok (.lload_n 1, 1) := by decide +kernel
theorem dX1_digest_117 : decode cX1_digest 117 = .ok (.ldc2_w 181, 3) := by decide +kernel
theorem dX1_digest_120 : decode cX1_digest 120 = .ok (.lmul, 1) := by decide +kernel
theorem dX1_digest_121 : decode cX1_digest 121 = .ok (.aload_n 0, 1) := by decide +kernel
theorem dX1_digest_122 : decode cX1_digest 122 = .ok (.iconst 1, 1) := by decide +kernel
theorem dX1_digest_123 : decode cX1_digest 123 = .ok (.iload_n 3, 1) := by decide +kernel
theorem dX1_digest_124 : decode cX1_digest 124 = .ok (.invokevirtual 192, 3) := by decide +kernel
theorem dX1_digest_127 : decode cX1_digest 127 = .ok (.i2l, 1) := by decide +kernel
theorem dX1_digest_128 : decode cX1_digest 128 = .ok (.ladd, 1) := by decide +kernel
theorem dX1_digest_129 : decode cX1_digest 129 = .ok (.lstore_n 1, 1) := by decide +kernel
theorem dX1_digest_130 : decode cX1_digest 130 = .ok (.iinc 3 1, 3) := by decide +kernel
theorem dX1_digest_133 : decode cX1_digest 133 = .ok (.goto (-100), 3) := by decide +kernel
theorem dX1_digest_136 : decode cX1_digest 136 = .ok (.iconst 0, 1) := by decide +kernel
theorem dX1_digest_137 : decode cX1_digest 137 = .ok (.istore_n 3, 1) := by decide +kernel
theorem dX1_digest_138 : decode cX1_digest 138 = .ok (.iload_n 3, 1) := by decide +kernel
theorem dX1_digest_139 : decode cX1_digest 139 = .ok (.iconst 1, 1) := by decide +kernel
theorem dX1_digest_140 : decode cX1_digest 140 = .ok (.if_icmp .gt 87, 3) := by decide +kernel
theorem dX1_digest_143 : decode cX1_digest 143 = .ok (.lload_n 1, 1) := by decide +kernel
theorem dX1_digest_144 : decode cX1_digest 144 = .ok (.ldc2_w 181, 3) := by decide +kernel
theorem dX1_digest_147 : decode cX1_digest 147 = .ok (.lmul, 1) := by decide +kernel
theorem dX1_digest_148 : decode cX1_digest 148 = .ok (.aload_n 0, 1) := by decide +kernel
theorem dX1_digest_149 : decode cX1_digest 149 = .ok (.iload_n 3, 1) := by decide +kernel
theorem dX1_digest_150 : decode cX1_digest 150 = .ok (.invokevirtual 195, 3) := by decide +kernel
theorem dX1_digest_153 : decode cX1_digest 153 = .ok (.i2l, 1) := by decide +kernel
theorem dX1_digest_154 : decode cX1_digest 154 = .ok (.ladd, 1) := by decide +kernel
theorem dX1_digest_155 : decode cX1_digest 155 = .ok (.lstore_n 1, 1) := by decide +kernel
theorem dX1_digest_156 : decode cX1_digest 156 = .ok (.lload_n 1, 1) := by decide +kernel
theorem dX1_digest_157 : decode cX1_digest 157 = .ok (.ldc2_w 181, 3) := by decide +kernel
theorem dX1_digest_160 : decode cX1_digest 160 = .ok (.lmul, 1) := by decide +kernel
theorem dX1_digest_161 : decode cX1_digest 161 = .ok (.aload_n 0, 1) := by decide +kernel
theorem dX1_digest_162 : decode cX1_digest 162 = .ok (.iload_n 3, 1) := by decide +kernel
theorem dX1_digest_163 : decode cX1_digest 163 = .ok (.invokevirtual 198, 3) := by decide +kernel
theorem dX1_digest_166 : decode cX1_digest 166 = .ok (.i2l, 1) := by decide +kernel
theorem dX1_digest_167 : decode cX1_digest 167 = .ok (.ladd, 1) := by decide +kernel
theorem dX1_digest_168 : decode cX1_digest 168 = .ok (.lstore_n 1, 1) := by decide +kernel
theorem dX1_digest_169 : decode cX1_digest 169 = .ok (.lload_n 1, 1) := by decide +kernel
theorem dX1_digest_170 : decode cX1_digest 170 = .ok (.ldc2_w 181, 3) := by decide +kernel
theorem dX1_digest_173 : decode cX1_digest 173 = .ok (.lmul, 1) := by decide +kernel
theorem dX1_digest_174 : decode cX1_digest 174 = .ok (.aload_n 0, 1) := by decide +kernel
theorem dX1_digest_175 : decode cX1_digest 175 = .ok (.iload_n 3, 1) := by decide +kernel
theorem dX1_digest_176 : decode cX1_digest 176 = .ok (.invokevirtual 201, 3) := by decide +kernel
theorem dX1_digest_179 : decode cX1_digest 179 = .ok (.i2l, 1) := by decide +kernel
theorem dX1_digest_180 : decode cX1_digest 180 = .ok (.ladd, 1) := by decide +kernel
theorem dX1_digest_181 : decode cX1_digest 181 = .ok (.lstore_n 1, 1) := by decide +kernel
theorem dX1_digest_182 : decode cX1_digest 182 = .ok (.lload_n 1, 1) := by decide +kernel
theorem dX1_digest_183 : decode cX1_digest 183 = .ok (.ldc2_w 181, 3) := by decide +kernel
theorem dX1_digest_186 : decode cX1_digest 186 = .ok (.lmul, 1) := by decide +kernel
theorem dX1_digest_187 : decode cX1_digest 187 = .ok (.aload_n 0, 1) := by decide +kernel
theorem dX1_digest_188 : decode cX1_digest 188 = .ok (.iload_n 3, 1) := by decide +kernel
theorem dX1_digest_189 : decode cX1_digest 189 = .ok (.invokevirtual 204, 3) := by decide +kernel
theorem dX1_digest_192 : decode cX1_digest 192 = .ok (.i2l, 1) := by decide +kernel
theorem dX1_digest_193 : decode cX1_digest 193 = .ok (.ladd, 1) := by decide +kernel
theorem dX1_digest_194 : decode cX1_digest 194 = .ok (.lstore_n 1, 1) := by decide +kernel
theorem dX1_digest_195 : decode cX1_digest 195 = .ok (.lload_n 1, 1) := by decide +kernel
theorem dX1_digest_196 : decode cX1_digest 196 = .ok (.ldc2_w 181, 3) := by decide +kernel
theorem dX1_digest_199 : decode cX1_digest 199 = .ok (.lmul, 1) := by decide +kernel
theorem dX1_digest_200 : decode cX1_digest 200 = .ok (.aload_n 0, 1) := by decide +kernel
theorem dX1_digest_201 : decode cX1_digest 201 = .ok (.iload_n 3, 1) := by decide +kernel
theorem dX1_digest_202 : decode cX1_digest 202 = .ok (.invokevirtual 207, 3) := by decide +kernel
theorem dX1_digest_205 : decode cX1_digest 205 = .ok (.i2l, 1) := by decide +kernel
theorem dX1_digest_206 : decode cX1_digest 206 = .ok (.ladd, 1) := by decide +kernel
theorem dX1_digest_207 : decode cX1_digest 207 = .ok (.lstore_n 1, 1) := by decide +kernel
theorem dX1_digest_208 : decode cX1_digest 208 = .ok (.lload_n 1, 1) := by decide +kernel
theorem dX1_digest_209 : decode cX1_digest 209 = .ok (.ldc2_w 181, 3) := by decide +kernel
theorem dX1_digest_212 : decode cX1_digest 212 = .ok (.lmul, 1) := by decide +kernel
theorem dX1_digest_213 : decode cX1_digest 213 = .ok (.aload_n 0, 1) := by decide +kernel
theorem dX1_digest_214 : decode cX1_digest 214 = .ok (.iload_n 3, 1) := by decide +kernel
theorem dX1_digest_215 : decode cX1_digest 215 = .ok (.invokevirtual 210, 3) := by decide +kernel
theorem dX1_digest_218 : decode cX1_digest 218 = .ok (.i2l, 1) := by decide +kernel
theorem dX1_digest_219 : decode cX1_digest 219 = .ok (.ladd, 1) := by decide +kernel
theorem dX1_digest_220 : decode cX1_digest 220 = .ok (.lstore_n 1, 1) := by decide +kernel
theorem dX1_digest_221 : decode cX1_digest 221 = .ok (.iinc 3 1, 3) := by decide +kernel
theorem dX1_digest_224 : decode cX1_digest 224 = .ok (.goto (-86), 3) := by decide +kernel
theorem dX1_digest_227 : decode cX1_digest 227 = .ok (.iconst 0, 1) := by decide +kernel
theorem dX1_digest_228 : decode cX1_digest 228 = .ok (.istore_n 3, 1) := by decide +kernel
theorem dX1_digest_229 : decode cX1_digest 229 = .ok (.iload_n 3, 1) := by decide +kernel
theorem dX1_digest_230 : decode cX1_digest 230 = .ok (.iconst 2, 1) := by decide +kernel
theorem dX1_digest_231 : decode cX1_digest 231 = .ok (.if_icmp .gt 22, 3) := by decide +kernel
theorem dX1_digest_234 : decode cX1_digest 234 = .ok (.lload_n 1, 1) := by decide +kernel
theorem dX1_digest_235 : decode cX1_digest 235 = .ok (.ldc2_w 181, 3) := by decide +kernel
theorem dX1_digest_238 : decode cX1_digest 238 = .ok (.lmul, 1) := by decide +kernel
theorem dX1_digest_239 : decode cX1_digest 239 = .ok (.aload_n 0, 1) := by decide +kernel
theorem dX1_digest_240 : decode cX1_digest 240 = .ok (.iload_n 3, 1) := by decide +kernel
theorem dX1_digest_241 : decode cX1_digest 241 = .ok (.invokevirtual 213, 3) := by decide +kernel
theorem dX1_digest_244 : decode cX1_digest 244 = .ok (.i2l, 1) := by decide +kernel
theorem dX1_digest_245 : decode cX1_digest 245 = .ok (.ladd, 1) := by decide +kernel
theorem dX1_digest_246 : decode cX1_digest 246 = .ok (.lstore_n 1, 1) := by decide +kernel
theorem dX1_digest_247 : decode cX1_digest 247 = .ok (.iinc 3 1, 3) := by decide +kernel
theorem dX1_digest_250 : decode cX1_digest 250 = .ok (.goto (-21), 3) := by decide +kernel
theorem dX1_digest_253 : decode cX1_digest 253 = .ok (.lload_n 1, 1) := by decide +kernel
theorem dX1_digest_254 : decode cX1_digest 254 = .ok (.ldc2_w 181, 3) := by decide +kernel
theorem dX1_digest_257 : decode cX1_digest 257 = .ok (.lmul, 1) := by decide +kernel
theorem dX1_digest_258 : decode cX1_digest 258 = .ok (.aload_n 0, 1) := by decide +kernel
theorem dX1_digest_259 : decode cX1_digest 259 = .ok (.invokevirtual 216, 3) := by decide +kernel
theorem dX1_digest_262 : decode cX1_digest 262 = .ok (.ifCond .eq 7, 3) := by decide +kernel
theorem dX1_digest_265 : decode cX1_digest 265 = .ok (.iconst 1, 1) := by decide +kernel
theorem dX1_digest_266 : decode cX1_digest 266 = .ok (.goto 4, 3) := by decide +kernel
theorem dX1_digest_269 : decode cX1_digest 269 = .ok (.iconst 0, 1) := by decide +kernel
theorem dX1_digest_270 : decode cX1_digest 270 = .ok (.i2l, 1) := by decide +kernel
theorem dX1_digest_271 : decode cX1_digest 271 = .ok (.ladd, 1) := by decide +kernel
theorem dX1_digest_272 : decode cX1_digest 272 = .ok (.lreturn, 1) := by decide +kernel
theorem dX1_checkPlace_0 : decode cX1_checkPlace 0 = .ok (.iload_n 1, 1) := by decide +kernel
theorem dX1_checkPlace_1 : decode cX1_checkPlace 1 = .ok (.ifCond .lt 14, 3) := by decide +kernel
theorem dX1_checkPlace_4 : decode cX1_checkPlace 4 = .ok (.iload_n 1, 1) := by decide +kernel
theorem dX1_checkPlace_5 : decode cX1_checkPlace 5 = .ok (.aload_n 0, 1) := by decide +kernel
theorem dX1_checkPlace_6 : decode cX1_checkPlace 6 = .ok (.getfield 10, 3) := by decide +kernel
theorem dX1_checkPlace_9 : decode cX1_checkPlace 9 = .ok (.getfield 23, 3) := by decide +kernel
theorem dX1_checkPlace_12 : decode cX1_checkPlace 12 = .ok (.if_icmp .lt 13, 3) := by decide +kernel
theorem dX1_checkPlace_15 : decode cX1_checkPlace 15 = .ok (.new 219, 3) := by decide +kernel
theorem dX1_checkPlace_18 : decode cX1_checkPlace 18 = .ok (.dup, 1) := by decide +kernel
theorem dX1_checkPlace_19 : decode cX1_checkPlace 19 = .ok (.ldc 221, 2) := by decide +kernel
theorem dX1_checkPlace_21 : decode cX1_checkPlace 21 = .ok (.invokespecial 223, 3) := by decide +kernel
theorem dX1_checkPlace_24 : decode cX1_checkPlace 24 = .ok (.athrow, 1) := by decide +kernel
theorem dX1_checkPlace_25 : decode cX1_checkPlace 25 = .ok (.return_, 1) := by decide +kernel
set_option maxRecDepth 20000 in
theorem ggX1_checkSet_X0_all : GoodIn wsX1_checkSet wsX0_all := goodIn_rc _ [(0, 6), (0, 7), (0, 21), (0, 22), (0, 23), (0, 24), (0, 25), (0, 26)] (by rfl) (by decide +kernel)
set_option maxRecDepth 20000 in
theorem gX1_checkSet_X0_all : GoodIn wsX1_checkSet (wsV RX1 93 RX0 yX0_all wsX0_all) := goodIn_app (goodIn_of _ (by decide +kernel)) ggX1_checkSet_X0_all
set_option maxRecDepth 20000 in
theorem ggX1_checkSet_X1_checkBetween : GoodIn wsX1_checkSet wsX1_checkBetween := goodIn_ca (goodIn_rc _ [(0, 11), (0, 12), (0, 13)] (by rfl) (by decide +kernel)) (goodIn_sub (fun _ h => List.mem_cons_of_mem _ (List.mem_append_right _ h)) (by decide +kernel))
set_option maxRecDepth 20000 in
theorem gX1_checkSet_X1_checkBetween : GoodIn wsX1_checkSet (va_wsS RX1 19 yX1_checkBetween wsX1_checkBetween) := goodIn_app (goodIn_of _ (by decide +kernel)) ggX1_checkSet_X1_checkBetween
theorem dX1_checkSet_0 : decode cX1_checkSet 0 = .ok (.iload_n 1, 1) := by decide +kernel
theorem dX1_checkSet_1 : decode cX1_checkSet 1 = .ok (.iconst 0, 1) := by decide +kernel
theorem dX1_checkSet_2 : decode cX1_checkSet 2 = .ok (.aload_n 0, 1) := by decide +kernel
theorem dX1_checkSet_3 : decode cX1_checkSet 3 = .ok (.getfield 10, 3) := by decide +kernel
theorem dX1_checkSet_6 : decode cX1_checkSet 6 = .ok (.invokevirtual 93, 3) := by decide +kernel
theorem dX1_checkSet_9 : decode cX1_checkSet 9 = .ok (.invokestatic 19, 3) := by decide +kernel
theorem dX1_checkSet_12 : decode cX1_checkSet 12 = .ok (.return_, 1) := by decide +kernel
set_option maxRecDepth 20000 in
theorem ggX1_checkSide_X1_checkBetween : GoodIn wsX1_checkSide wsX1_checkBetween := goodIn_ca (goodIn_rc _ [(0, 4), (0, 5), (0, 6)] (by rfl) (by decide +kernel)) (goodIn_sub (fun _ h => List.mem_cons_of_mem _ (List.mem_append_right _ h)) (by decide +kernel))
set_option maxRecDepth 20000 in
theorem gX1_checkSide_X1_checkBetween : GoodIn wsX1_checkSide (va_wsS RX1 19 yX1_checkBetween wsX1_checkBetween) := goodIn_app (goodIn_of _ (by decide +kernel)) ggX1_checkSide_X1_checkBetween
theorem dX1_checkSide_0 : decode cX1_checkSide 0 = .ok (.iload_n 0, 1) := by decide +kernel
theorem dX1_checkSide_1 : decode cX1_checkSide 1 = .ok (.iconst 0, 1) := by decide +kernel
theorem dX1_checkSide_2 : decode cX1_checkSide 2 = .ok (.iconst 1, 1) := by decide +kernel
theorem dX1_checkSide_3 : decode cX1_checkSide 3 = .ok (.invokestatic 19, 3) := by decide +kernel
theorem dX1_checkSide_6 : decode cX1_checkSide 6 = .ok (.return_, 1) := by decide +kernel
theorem dX1_checkBetween_0 : decode cX1_checkBetween 0 = .ok (.iload_n 0, 1) := by decide +kernel
theorem dX1_checkBetween_1 : decode cX1_checkBetween 1 = .ok (.iload_n 1, 1) := by decide +kernel
theorem dX1_checkBetween_2 : decode cX1_checkBetween 2 = .ok (.if_icmp .lt 8, 3) := by decide +kernel
theorem dX1_checkBetween_5 : decode cX1_checkBetween 5 = .ok (.iload_n 0, 1) := by decide +kernel
theorem dX1_checkBetween_6 : decode cX1_checkBetween 6 = .ok (.iload_n 2, 1) := by decide +kernel
theorem dX1_checkBetween_7 : decode cX1_checkBetween 7 = .ok (.if_icmp .le 13, 3) := by decide +kernel
theorem dX1_checkBetween_10 : decode cX1_checkBetween 10 = .ok (.new 226, 3) := by decide +kernel
theorem dX1_checkBetween_13 : decode cX1_checkBetween 13 = .ok (.dup, 1) := by decide +kernel
theorem dX1_checkBetween_14 : decode cX1_checkBetween 14 = .ok (.ldc 228, 2) := by decide +kernel
theorem dX1_checkBetween_16 : decode cX1_checkBetween 16 = .ok (.invokespecial 230, 3) := by decide +kernel
theorem dX1_checkBetween_19 : decode cX1_checkBetween 19 = .ok (.athrow, 1) := by decide +kernel
theorem dX1_checkBetween_20 : decode cX1_checkBetween 20 = .ok (.return_, 1) := by decide +kernel
theorem dX1_refuse_0 : decode cX1_refuse 0 = .ok (.aload_n 0, 1) := by decide +kernel
theorem dX1_refuse_1 : decode cX1_refuse 1 = .ok (.dup, 1) := by decide +kernel
theorem dX1_refuse_2 : decode cX1_refuse 2 = .ok (.getfield 162, 3) := by decide +kernel
theorem dX1_refuse_5 : decode cX1_refuse 5 = .ok (.iconst 1, 1) := by decide +kernel
theorem dX1_refuse_6 : decode cX1_refuse 6 = .ok (.iadd, 1) := by decide +kernel
theorem dX1_refuse_7 : decode cX1_refuse 7 = .ok (.putfield 162, 3) := by decide +kernel
theorem dX1_refuse_10 : decode cX1_refuse 10 = .ok (.bipush (-9), 2) := by decide +kernel
theorem dX1_refuse_12 : decode cX1_refuse 12 = .ok (.ireturn, 1) := by decide +kernel
theorem dX1_moveStone_0 : decode cX1_moveStone 0 = .ok (.aload_n 0, 1) := by decide +kernel
theorem dX1_moveStone_1 : decode cX1_moveStone 1 = .ok (.iload_n 1, 1) := by decide +kernel
theorem dX1_moveStone_2 : decode cX1_moveStone 2 = .ok (.putfield 31, 3) := by decide +kernel
theorem dX1_moveStone_5 : decode cX1_moveStone 5 = .ok (.aload_n 0, 1) := by decide +kernel
theorem dX1_moveStone_6 : decode cX1_moveStone 6 = .ok (.dup, 1) := by decide +kernel
theorem dX1_moveStone_7 : decode cX1_moveStone 7 = .ok (.getfield 34, 3) := by decide +kernel
theorem dX1_moveStone_10 : decode cX1_moveStone 10 = .ok (.iconst 1, 1) := by decide +kernel
theorem dX1_moveStone_11 : decode cX1_moveStone 11 = .ok (.iadd, 1) := by decide +kernel
theorem dX1_moveStone_12 : decode cX1_moveStone 12 = .ok (.putfield 34, 3) := by decide +kernel
theorem dX1_moveStone_15 : decode cX1_moveStone 15 = .ok (.aload_n 0, 1) := by decide +kernel
theorem dX1_moveStone_16 : decode cX1_moveStone 16 = .ok (.dup, 1) := by decide +kernel
theorem dX1_moveStone_17 : decode cX1_moveStone 17 = .ok (.getfield 37, 3) := by decide +kernel
theorem dX1_moveStone_20 : decode cX1_moveStone 20 = .ok (.iconst 1, 1) := by decide +kernel
theorem dX1_moveStone_21 : decode cX1_moveStone 21 = .ok (.iadd, 1) := by decide +kernel
theorem dX1_moveStone_22 : decode cX1_moveStone 22 = .ok (.putfield 37, 3) := by decide +kernel
theorem dX1_moveStone_25 : decode cX1_moveStone 25 = .ok (.return_, 1) := by decide +kernel
set_option maxRecDepth 20000 in
theorem ggX1_playedFrom_X0_sideOf : GoodIn wsX1_playedFrom wsX0_sideOf := goodIn_rc _ [(0, 6), (0, 7), (2, 15), (2, 16), (2, 17), (2, 18), (2, 19), (2, 20)] (by rfl) (by decide +kernel)
set_option maxRecDepth 20000 in
theorem gX1_playedFrom_X0_sideOf : GoodIn wsX1_playedFrom (wsV RX1 46 RX0 yX0_sideOf wsX0_sideOf) := goodIn_app (goodIn_of _ (by decide +kernel)) ggX1_playedFrom_X0_sideOf
set_option maxRecDepth 20000 in
theorem ggX1_playedFrom_X0_pick : GoodIn wsX1_playedFrom wsX0_pick := goodIn_rc _ [(0, 11), (0, 12), (0, 13), (0, 14), (0, 5), (0, 15), (0, 16), (0, 17), (0, 18), (0, 19), (0, 20), (0, 21), (0, 22), (0, 23), (0, 24), (0, 25), (0, 26), (0, 7), (0, 27), (0, 28), (0, 29), (0, 30), (0, 31), (1, 0), (1, 1), (1, 2), (1, 3), (1, 4), (1, 5), (1, 6), (1, 7), (1, 8), (1, 9), (1, 10), (1, 11), (1, 12), (1, 13), (1, 14), (1, 15), (1, 16), (1, 17), (1, 18), (1, 19), (1, 20), (1, 21), (1, 22), (1, 23), (1, 24), (1, 25), (1, 26), (1, 27), (1, 28), (1, 29), (1, 30), (1, 31), (2, 0), (2, 1), (2, 2), (2, 3), (2, 4), (2, 5), (2, 15), (2, 16), (2, 17), (2, 18), (2, 19), (2, 20)] (by rfl) (by decide +kernel)
set_option maxRecDepth 20000 in
theorem gX1_playedFrom_X0_pick : GoodIn wsX1_playedFrom (wsV RX1 110 RX0 yX0_pick wsX0_pick) := goodIn_app (goodIn_of _ (by decide +kernel)) ggX1_playedFrom_X0_pick
set_option maxRecDepth 20000 in
theorem ggX1_playedFrom_X0_waysFrom : GoodIn wsX1_playedFrom wsX0_waysFrom := goodIn_rc _ [(1, 27), (0, 26), (2, 15), (2, 16), (2, 17), (2, 18), (2, 19), (2, 20)] (by rfl) (by decide +kernel)
set_option maxRecDepth 20000 in
theorem gX1_playedFrom_X0_waysFrom : GoodIn wsX1_playedFrom (wsV RX1 66 RX0 yX0_waysFrom wsX0_waysFrom) := goodIn_app (goodIn_of _ (by decide +kernel)) ggX1_playedFrom_X0_waysFrom
set_option maxRecDepth 20000 in
theorem ggX1_playedFrom_X1_least : GoodIn wsX1_playedFrom wsX1_least := goodIn_rc _ [(1, 29), (1, 30), (1, 31), (1, 22), (2, 0), (2, 1), (1, 21), (1, 23)] (by rfl) (by decide +kernel)
set_option maxRecDepth 20000 in
theorem gX1_playedFrom_X1_least : GoodIn wsX1_playedFrom (va_wsS RX1 231 yX1_least wsX1_least) := goodIn_app (goodIn_of _ (by decide +kernel)) ggX1_playedFrom_X1_least
theorem dX1_playedFrom_0 : decode cX1_playedFrom 0 = .ok (.aload_n 0, 1) := by decide +kernel
theorem dX1_playedFrom_1 : decode cX1_playedFrom 1 = .ok (.getfield 10, 3) := by decide +kernel
theorem dX1_playedFrom_4 : decode cX1_playedFrom 4 = .ok (.iload_n 2, 1) := by decide +kernel
theorem dX1_playedFrom_5 : decode cX1_playedFrom 5 = .ok (.invokevirtual 46, 3) := by decide +kernel
theorem dX1_playedFrom_8 : decode cX1_playedFrom 8 = .ok (.istore_n 3, 1) := by decide +kernel
theorem dX1_playedFrom_9 : decode cX1_playedFrom 9 = .ok (.aload_n 0, 1) := by decide +kernel
theorem dX1_playedFrom_10 : decode cX1_playedFrom 10 = .ok (.getfield 10, 3) := by decide +kernel
theorem dX1_playedFrom_13 : decode cX1_playedFrom 13 = .ok (.iload_n 3, 1) := by decide +kernel
theorem dX1_playedFrom_14 : decode cX1_playedFrom 14 = .ok (.iload_n 1, 1) := by decide +kernel
theorem dX1_playedFrom_15 : decode cX1_playedFrom 15 = .ok (.if_icmp .ne 7, 3) := by decide +kernel
theorem dX1_playedFrom_18 : decode cX1_playedFrom 18 = .ok (.iconst 0, 1) := by decide +kernel
theorem dX1_playedFrom_19 : decode cX1_playedFrom 19 = .ok (.goto 4, 3) := by decide +kernel
theorem dX1_playedFrom_22 : decode cX1_playedFrom 22 = .ok (.iconst 1, 1) := by decide +kernel
theorem dX1_playedFrom_23 : decode cX1_playedFrom 23 = .ok (.iload_n 3, 1) := by decide +kernel
theorem dX1_playedFrom_24 : decode cX1_playedFrom 24 = .ok (.iload_n 2, 1) := by decide +kernel
theorem dX1_playedFrom_25 : decode cX1_playedFrom 25 = .ok (.invokevirtual 110, 3) := by decide +kernel
theorem dX1_playedFrom_28 : decode cX1_playedFrom 28 = .ok (.istore 4, 2) := by decide +kernel
theorem dX1_playedFrom_30 : decode cX1_playedFrom 30 = .ok (.iload 4, 2) := by decide +kernel
theorem dX1_playedFrom_32 : decode cX1_playedFrom 32 = .ok (.iconst (-1), 1) := by decide +kernel
theorem dX1_playedFrom_33 : decode cX1_playedFrom 33 = .ok (.if_icmp .ne 17, 3) := by decide +kernel
theorem dX1_playedFrom_36 : decode cX1_playedFrom 36 = .ok (.aload_n 0, 1) := by decide +kernel
theorem dX1_playedFrom_37 : decode cX1_playedFrom 37 = .ok (.getfield 10, 3) := by decide +kernel
theorem dX1_playedFrom_40 : decode cX1_playedFrom 40 = .ok (.iload_n 2, 1) := by decide +kernel
theorem dX1_playedFrom_41 : decode cX1_playedFrom 41 = .ok (.invokevirtual 66, 3) := by decide +kernel
theorem dX1_playedFrom_44 : decode cX1_playedFrom 44 = .ok (.invokestatic 231, 3) := by decide +kernel
theorem dX1_playedFrom_47 : decode cX1_playedFrom 47 = .ok (.goto 5, 3) := by decide +kernel
theorem dX1_playedFrom_50 : decode cX1_playedFrom 50 = .ok (.iload 4, 2) := by decide +kernel
theorem dX1_playedFrom_52 : decode cX1_playedFrom 52 = .ok (.ireturn, 1) := by decide +kernel
set_option maxRecDepth 20000 in
theorem ggX1_holdsByChoices_X0_copyFrom : GoodIn wsX1_holdsByChoices wsX0_copyFrom := goodIn_rc _ [(0, 7), (0, 8), (0, 9), (0, 10), (0, 11), (0, 12), (0, 13), (0, 14), (0, 15), (0, 16), (0, 6), (0, 17), (2, 14), (2, 15), (2, 16), (2, 17), (2, 18), (2, 19)] (by rfl) (by decide +kernel)
set_option maxRecDepth 20000 in
theorem gX1_holdsByChoices_X0_copyFrom : GoodIn wsX1_holdsByChoices (wsV RX1 86 RX0 yX0_copyFrom wsX0_copyFrom) := goodIn_app (goodIn_of _ (by decide +kernel)) ggX1_holdsByChoices_X0_copyFrom
set_option maxRecDepth 20000 in
theorem ggX1_holdsByChoices_X0_won : GoodIn wsX1_holdsByChoices wsX0_won := goodIn_rc _ [(0, 21), (0, 10), (0, 22), (0, 23), (0, 24), (0, 6), (0, 25), (0, 26), (0, 27), (0, 28), (0, 29), (0, 8), (0, 13), (0, 9), (0, 30), (0, 31), (1, 0), (1, 1), (1, 2), (1, 3), (1, 4), (1, 5), (1, 6), (1, 7), (1, 8), (1, 9), (0, 11), (0, 12), (1, 10), (1, 11), (1, 12), (1, 13), (2, 14), (2, 15), (2, 16), (2, 17), (2, 18), (2, 19)] (by rfl) (by decide +kernel)
set_option maxRecDepth 20000 in
theorem gX1_holdsByChoices_X0_won : GoodIn wsX1_holdsByChoices (wsV RX1 141 RX0 yX0_won wsX0_won) := goodIn_app (goodIn_of _ (by decide +kernel)) ggX1_holdsByChoices_X0_won
set_option maxRecDepth 20000 in
theorem ggX1_holdsByChoices_X0_pickWithin : GoodIn wsX1_holdsByChoices wsX0_pickWithin := goodIn_rc _ [(1, 17), (0, 10), (1, 18), (1, 19), (1, 20), (0, 6), (1, 21), (0, 9), (0, 30), (0, 31), (1, 0), (1, 1), (0, 8), (1, 22), (1, 23), (1, 24), (0, 14), (0, 15), (0, 16), (0, 17), (0, 13), (1, 25), (1, 26), (1, 27), (1, 28), (1, 29), (1, 30), (1, 31), (2, 0), (2, 1), (2, 2), (0, 26), (0, 27), (0, 28), (0, 29), (2, 14), (2, 15), (2, 16), (2, 17), (2, 18), (2, 19)] (by rfl) (by decide +kernel)
set_option maxRecDepth 20000 in
theorem gX1_holdsByChoices_X0_pickWithin : GoodIn wsX1_holdsByChoices (wsV RX1 234 RX0 yX0_pickWithin wsX0_pickWithin) := goodIn_app (goodIn_of _ (by decide +kernel)) ggX1_holdsByChoices_X0_pickWithin
set_option maxRecDepth 20000 in
theorem ggX1_holdsByChoices_X0_setWays : GoodIn wsX1_holdsByChoices wsX0_setWays := goodIn_rc _ [(2, 6), (0, 13), (2, 14), (2, 15), (2, 16), (2, 17), (2, 18), (2, 19)] (by rfl) (by decide +kernel)
set_option maxRecDepth 20000 in
theorem gX1_holdsByChoices_X0_setWays : GoodIn wsX1_holdsByChoices (wsV RX1 238 RX0 yX0_setWays wsX0_setWays) := goodIn_app (goodIn_of _ (by decide +kernel)) ggX1_holdsByChoices_X0_setWays
theorem dX1_holdsByChoices_0 : decode cX1_holdsByChoices 0 = .ok (.aload_n 0, 1) := by decide +kernel
theorem dX1_holdsByChoices_1 : decode cX1_holdsByChoices 1 = .ok (.getfield 16, 3) := by decide +kernel
theorem dX1_holdsByChoices_4 : decode cX1_holdsByChoices 4 = .ok (.aload_n 0, 1) := by decide +kernel
theorem dX1_holdsByChoices_5 : decode cX1_holdsByChoices 5 = .ok (.getfield 10, 3) := by decide +kernel
theorem dX1_holdsByChoices_8 : decode cX1_holdsByChoices 8 = .ok (.invokevirtual 86, 3) := by decide +kernel
theorem dX1_holdsByChoices_11 : decode cX1_holdsByChoices 11 = .ok (.aload_n 0, 1) := by decide +kernel
theorem dX1_holdsByChoices_12 : decode cX1_holdsByChoices 12 = .ok (.getfield 10, 3) := by decide +kernel
theorem dX1_holdsByChoices_15 : decode cX1_holdsByChoices 15 = .ok (.iload_n 1, 1) := by decide +kernel
theorem dX1_holdsByChoices_16 : decode cX1_holdsByChoices 16 = .ok (.iload_n 2, 1) := by decide +kernel
theorem dX1_holdsByChoices_17 : decode cX1_holdsByChoices 17 = .ok (.invokevirtual 141, 3) := by decide +kernel
theorem dX1_holdsByChoices_20 : decode cX1_holdsByChoices 20 = .ok (.istore_n 3, 1) := by decide +kernel
theorem dX1_holdsByChoices_21 : decode cX1_holdsByChoices 21 = .ok (.iconst 0, 1) := by decide +kernel
theorem dX1_holdsByChoices_22 : decode cX1_holdsByChoices 22 = .ok (.istore 4, 2) := by decide +kernel
theorem dX1_holdsByChoices_24 : decode cX1_holdsByChoices 24 = .ok (.iload 4, 2) := by decide +kernel
theorem dX1_holdsByChoices_26 : decode cX1_holdsByChoices 26 = .ok (.aload_n 0, 1) := by decide +kernel
theorem dX1_holdsByChoices_27 : decode cX1_holdsByChoices 27 = .ok (.getfield 10, 3) := by decide +kernel
theorem dX1_holdsByChoices_30 : decode cX1_holdsByChoices 30 = .ok (.getfield 23, 3) := by decide +kernel
theorem dX1_holdsByChoices_33 : decode cX1_holdsByChoices 33 = .ok (.if_icmp .ge 42, 3) := by decide +kernel
theorem dX1_holdsByChoices_36 : decode cX1_holdsByChoices 36 = .ok (.aload_n 0, 1) := by decide +kernel
theorem dX1_holdsByChoices_37 : decode cX1_holdsByChoices 37 = .ok (.getfield 10, 3) := by decide +kernel
theorem dX1_holdsByChoices_40 : decode cX1_holdsByChoices 40 = .ok (.iload_n 1, 1) := by decide +kernel
theorem dX1_holdsByChoices_41 : decode cX1_holdsByChoices 41 = .ok (.iload_n 2, 1) := by decide +kernel
theorem dX1_holdsByChoices_42 : decode cX1_holdsByChoices 42 = .ok (.iload 4, 2) := by decide +kernel
theorem dX1_holdsByChoices_44 : decode cX1_holdsByChoices 44 = .ok (.iload_n 3, 1) := by decide +kernel
theorem dX1_holdsByChoices_45 : decode cX1_holdsByChoices 45 = .ok (.invokevirtual 234, 3) := by decide +kernel
theorem dX1_holdsByChoices_48 : decode cX1_holdsByChoices 48 = .ok (.istore 5, 2) := by decide +kernel
theorem dX1_holdsByChoices_50 : decode cX1_holdsByChoices 50 = .ok (.iload 5, 2) := by decide +kernel
theorem dX1_holdsByChoices_52 : decode cX1_holdsByChoices 52 = .ok (.iconst (-1), 1) := by decide +kernel
theorem dX1_holdsByChoices_53 : decode cX1_holdsByChoices 53 = .ok (.if_icmp .eq 16, 3) := by decide +kernel
theorem dX1_holdsByChoices_56 : decode cX1_holdsByChoices 56 = .ok (.aload_n 0, 1) := by decide +kernel
theorem dX1_holdsByChoices_57 : decode cX1_holdsByChoices 57 = .ok (.getfield 16, 3) := by decide +kernel
theorem dX1_holdsByChoices_60 : decode cX1_holdsByChoices 60 = .ok (.iload 4, 2) := by decide +kernel
theorem dX1_holdsByChoices_62 : decode cX1_holdsByChoices 62 = .ok (.iconst 1, 1) := by decide +kernel
theorem dX1_holdsByChoices_63 : decode cX1_holdsByChoices 63 = .ok (.iload 5, 2) := by decide +kernel
theorem dX1_holdsByChoices_65 : decode cX1_holdsByChoices 65 = .ok (.ishl, 1) := by decide +kernel
theorem dX1_holdsByChoices_66 : decode cX1_holdsByChoices 66 = .ok (.invokevirtual 238, 3) := by decide +kernel
theorem dX1_holdsByChoices_69 : decode cX1_holdsByChoices 69 = .ok (.iinc 4 1, 3) := by decide +kernel
theorem dX1_holdsByChoices_72 : decode cX1_holdsByChoices 72 = .ok (.goto (-48), 3) := by decide +kernel
theorem dX1_holdsByChoices_75 : decode cX1_holdsByChoices 75 = .ok (.iload_n 3, 1) := by decide +kernel
theorem dX1_holdsByChoices_76 : decode cX1_holdsByChoices 76 = .ok (.aload_n 0, 1) := by decide +kernel
theorem dX1_holdsByChoices_77 : decode cX1_holdsByChoices 77 = .ok (.getfield 16, 3) := by decide +kernel
theorem dX1_holdsByChoices_80 : decode cX1_holdsByChoices 80 = .ok (.iload_n 1, 1) := by decide +kernel
theorem dX1_holdsByChoices_81 : decode cX1_holdsByChoices 81 = .ok (.iload_n 2, 1) := by decide +kernel
theorem dX1_holdsByChoices_82 : decode cX1_holdsByChoices 82 = .ok (.invokevirtual 141, 3) := by decide +kernel
theorem dX1_holdsByChoices_85 : decode cX1_holdsByChoices 85 = .ok (.iconst (-1), 1) := by decide +kernel
theorem dX1_holdsByChoices_86 : decode cX1_holdsByChoices 86 = .ok (.ixor, 1) := by decide +kernel
theorem dX1_holdsByChoices_87 : decode cX1_holdsByChoices 87 = .ok (.iand, 1) := by decide +kernel
theorem dX1_holdsByChoices_88 : decode cX1_holdsByChoices 88 = .ok (.ifCond .ne 7, 3) := by decide +kernel
theorem dX1_holdsByChoices_91 : decode cX1_holdsByChoices 91 = .ok (.iconst 1, 1) := by decide +kernel
theorem dX1_holdsByChoices_92 : decode cX1_holdsByChoices 92 = .ok (.goto 4, 3) := by decide +kernel
theorem dX1_holdsByChoices_95 : decode cX1_holdsByChoices 95 = .ok (.iconst 0, 1) := by decide +kernel
theorem dX1_holdsByChoices_96 : decode cX1_holdsByChoices 96 = .ok (.ireturn, 1) := by decide +kernel
set_option maxRecDepth 20000 in
theorem ggX1_layChoices_X0_copyFrom : GoodIn wsX1_layChoices wsX0_copyFrom := goodIn_rc _ [(0, 7), (0, 8), (0, 9), (0, 10), (0, 11), (0, 12), (0, 13), (0, 14), (0, 15), (0, 16), (0, 6), (0, 17), (1, 16), (1, 17), (1, 18), (1, 19), (1, 20), (1, 21)] (by rfl) (by decide +kernel)
set_option maxRecDepth 20000 in
theorem gX1_layChoices_X0_copyFrom : GoodIn wsX1_layChoices (wsV RX1 86 RX0 yX0_copyFrom wsX0_copyFrom) := goodIn_app (goodIn_of _ (by decide +kernel)) ggX1_layChoices_X0_copyFrom
set_option maxRecDepth 20000 in
theorem ggX1_layChoices_X0_waysFrom : GoodIn wsX1_layChoices wsX0_waysFrom := goodIn_rc _ [(0, 17), (0, 13), (1, 16), (1, 17), (1, 18), (1, 19), (1, 20), (1, 21)] (by rfl) (by decide +kernel)
set_option maxRecDepth 20000 in
theorem gX1_layChoices_X0_waysFrom : GoodIn wsX1_layChoices (wsV RX1 66 RX0 yX0_waysFrom wsX0_waysFrom) := goodIn_app (goodIn_of _ (by decide +kernel)) ggX1_layChoices_X0_waysFrom
set_option maxRecDepth 20000 in
theorem ggX1_layChoices_J6_bitCount_0f7a4 : GoodIn wsX1_layChoices wsJ6_bitCount_0f7a4 := goodIn_rc _ [(0, 22), (0, 23), (0, 24), (0, 25)] (by rfl) (by decide +kernel)
set_option maxRecDepth 20000 in
theorem gX1_layChoices_J6_bitCount_0f7a4 : GoodIn wsX1_layChoices (va_wsS RX1 102 yJ6_bitCount_0f7a4 wsJ6_bitCount_0f7a4) := goodIn_app (goodIn_of _ (by decide +kernel)) ggX1_layChoices_J6_bitCount_0f7a4
set_option maxRecDepth 20000 in
theorem ggX1_layChoices_X0_sideOf : GoodIn wsX1_layChoices wsX0_sideOf := goodIn_rc _ [(0, 29), (0, 9), (1, 16), (1, 17), (1, 18), (1, 19), (1, 20), (1, 21)] (by rfl) (by decide +kernel)
set_option maxRecDepth 20000 in
theorem gX1_layChoices_X0_sideOf : GoodIn wsX1_layChoices (wsV RX1 46 RX0 yX0_sideOf wsX0_sideOf) := goodIn_app (goodIn_of _ (by decide +kernel)) ggX1_layChoices_X0_sideOf
set_option maxRecDepth 20000 in
theorem ggX1_layChoices_X1_member : GoodIn wsX1_layChoices wsX1_member := goodIn_rc _ [(1, 1), (1, 2), (1, 3), (1, 0), (1, 4)] (by rfl) (by decide +kernel)
set_option maxRecDepth 20000 in
theorem gX1_layChoices_X1_member : GoodIn wsX1_layChoices (va_wsS RX1 241 yX1_member wsX1_member) := goodIn_app (goodIn_of _ (by decide +kernel)) ggX1_layChoices_X1_member
set_option maxRecDepth 20000 in
theorem ggX1_layChoices_X0_setWays : GoodIn wsX1_layChoices wsX0_setWays := goodIn_rc _ [(1, 8), (0, 13), (1, 16), (1, 17), (1, 18), (1, 19), (1, 20), (1, 21)] (by rfl) (by decide +kernel)
set_option maxRecDepth 20000 in
theorem gX1_layChoices_X0_setWays : GoodIn wsX1_layChoices (wsV RX1 238 RX0 yX0_setWays wsX0_setWays) := goodIn_app (goodIn_of _ (by decide +kernel)) ggX1_layChoices_X0_setWays
theorem dX1_layChoices_0 : decode cX1_layChoices 0 = .ok (.aload_n 0, 1) := by decide +kernel
theorem dX1_layChoices_1 : decode cX1_layChoices 1 = .ok (.getfield 16, 3) := by decide +kernel
theorem dX1_layChoices_4 : decode cX1_layChoices 4 = .ok (.aload_n 0, 1) := by decide +kernel
theorem dX1_layChoices_5 : decode cX1_layChoices 5 = .ok (.getfield 10, 3) := by decide +kernel
theorem dX1_layChoices_8 : decode cX1_layChoices 8 = .ok (.invokevirtual 86, 3) := by decide +kernel
theorem dX1_layChoices_11 : decode cX1_layChoices 11 = .ok (.iload_n 2, 1) := by decide +kernel
theorem dX1_layChoices_12 : decode cX1_layChoices 12 = .ok (.istore_n 3, 1) := by decide +kernel
theorem dX1_layChoices_13 : decode cX1_layChoices 13 = .ok (.iconst 0, 1) := by decide +kernel
theorem dX1_layChoices_14 : decode cX1_layChoices 14 = .ok (.istore 4, 2) := by decide +kernel
theorem dX1_layChoices_16 : decode cX1_layChoices 16 = .ok (.iload 4, 2) := by decide +kernel
theorem dX1_layChoices_18 : decode cX1_layChoices 18 = .ok (.aload_n 0, 1) := by decide +kernel
theorem dX1_layChoices_19 : decode cX1_layChoices 19 = .ok (.getfield 10, 3) := by decide +kernel
theorem dX1_layChoices_22 : decode cX1_layChoices 22 = .ok (.getfield 23, 3) := by decide +kernel
theorem dX1_layChoices_25 : decode cX1_layChoices 25 = .ok (.if_icmp .ge 70, 3) := by decide +kernel
theorem dX1_layChoices_28 : decode cX1_layChoices 28 = .ok (.aload_n 0, 1) := by decide +kernel
theorem dX1_layChoices_29 : decode cX1_layChoices 29 = .ok (.getfield 10, 3) := by decide +kernel
theorem dX1_layChoices_32 : decode cX1_layChoices 32 = .ok (.iload 4, 2) := by decide +kernel
theorem dX1_layChoices_34 : decode cX1_layChoices 34 = .ok (.invokevirtual 66, 3) := by decide +kernel
theorem dX1_layChoices_37 : decode cX1_layChoices 37 = .ok (.istore 5, 2) := by decide +kernel
theorem dX1_layChoices_39 : decode cX1_layChoices 39 = .ok (.iload 5, 2) := by decide +kernel
theorem dX1_layChoices_41 : decode cX1_layChoices 41 = .ok (.invokestatic 102, 3) := by decide +kernel
theorem dX1_layChoices_44 : decode cX1_layChoices 44 = .ok (.istore 6, 2) := by decide +kernel
theorem dX1_layChoices_46 : decode cX1_layChoices 46 = .ok (.iload 6, 2) := by decide +kernel
theorem dX1_layChoices_48 : decode cX1_layChoices 48 = .ok (.ifCond .le 41, 3) := by decide +kernel
theorem dX1_layChoices_51 : decode cX1_layChoices 51 = .ok (.aload_n 0, 1) := by decide +kernel
theorem dX1_layChoices_52 : decode cX1_layChoices 52 = .ok (.getfield 10, 3) := by decide +kernel
theorem dX1_layChoices_55 : decode cX1_layChoices 55 = .ok (.iload 4, 2) := by decide +kernel
theorem dX1_layChoices_57 : decode cX1_layChoices 57 = .ok (.invokevirtual 46, 3) := by decide +kernel
theorem dX1_layChoices_60 : decode cX1_layChoices 60 = .ok (.iload_n 1, 1) := by decide +kernel
theorem dX1_layChoices_61 : decode cX1_layChoices 61 = .ok (.if_icmp .ne 28, 3) := by decide +kernel
theorem dX1_layChoices_64 : decode cX1_layChoices 64 = .ok (.aload_n 0, 1) := by decide +kernel
theorem dX1_layChoices_65 : decode cX1_layChoices 65 = .ok (.getfield 16, 3) := by decide +kernel
theorem dX1_layChoices_68 : decode cX1_layChoices 68 = .ok (.iload 4, 2) := by decide +kernel
theorem dX1_layChoices_70 : decode cX1_layChoices 70 = .ok (.iconst 1, 1) := by decide +kernel
theorem dX1_layChoices_71 : decode cX1_layChoices 71 = .ok (.iload 5, 2) := by decide +kernel
theorem dX1_layChoices_73 : decode cX1_layChoices 73 = .ok (.iload_n 3, 1) := by decide +kernel
theorem dX1_layChoices_74 : decode cX1_layChoices 74 = .ok (.iload 6, 2) := by decide +kernel
theorem dX1_layChoices_76 : decode cX1_layChoices 76 = .ok (.irem, 1) := by decide +kernel
theorem dX1_layChoices_77 : decode cX1_layChoices 77 = .ok (.invokestatic 241, 3) := by decide +kernel
theorem dX1_layChoices_80 : decode cX1_layChoices 80 = .ok (.ishl, 1) := by decide +kernel
theorem dX1_layChoices_81 : decode cX1_layChoices 81 = .ok (.invokevirtual 238, 3) := by decide +kernel
theorem dX1_layChoices_84 : decode cX1_layChoices 84 = .ok (.iload_n 3, 1) := by decide +kernel
theorem dX1_layChoices_85 : decode cX1_layChoices 85 = .ok (.iload 6, 2) := by decide +kernel
theorem dX1_layChoices_87 : decode cX1_layChoices 87 = .ok (.idiv, 1) := by decide +kernel
theorem dX1_layChoices_88 : decode cX1_layChoices 88 = .ok (.istore_n 3, 1) := by decide +kernel
theorem dX1_layChoices_89 : decode cX1_layChoices 89 = .ok (.iinc 4 1, 3) := by decide +kernel
theorem dX1_layChoices_92 : decode cX1_layChoices 92 = .ok (.goto (-76), 3) := by decide +kernel
theorem dX1_layChoices_95 : decode cX1_layChoices 95 = .ok (.return_, 1) := by decide +kernel
set_option maxRecDepth 20000 in
theorem ggX1_isComingSound_X0_won : GoodIn wsX1_isComingSound wsX0_won := goodIn_rc _ [(0, 6), (0, 7), (0, 8), (0, 9), (0, 10), (0, 5), (0, 11), (0, 12), (0, 13), (0, 14), (0, 15), (0, 16), (0, 17), (0, 18), (0, 19), (0, 20), (0, 21), (0, 22), (0, 23), (0, 24), (0, 25), (0, 26), (0, 27), (0, 28), (0, 29), (0, 30), (0, 31), (1, 0), (1, 1), (1, 2), (1, 3), (1, 4), (1, 14), (1, 15), (1, 16), (1, 17), (1, 18), (1, 19)] (by rfl) (by decide +kernel)
set_option maxRecDepth 20000 in
theorem gX1_isComingSound_X0_won : GoodIn wsX1_isComingSound (wsV RX1 141 RX0 yX0_won wsX0_won) := goodIn_app (goodIn_of _ (by decide +kernel)) ggX1_isComingSound_X0_won
set_option maxRecDepth 20000 in
theorem ggX1_isComingSound_X0_all : GoodIn wsX1_isComingSound wsX0_all := goodIn_rc _ [(0, 22), (0, 16), (1, 14), (1, 15), (1, 16), (1, 17), (1, 18), (1, 19)] (by rfl) (by decide +kernel)
set_option maxRecDepth 20000 in
theorem gX1_isComingSound_X0_all : GoodIn wsX1_isComingSound (wsV RX1 93 RX0 yX0_all wsX0_all) := goodIn_app (goodIn_of _ (by decide +kernel)) ggX1_isComingSound_X0_all
set_option maxRecDepth 20000 in
theorem ggX1_isComingSound_X0_seenBefore : GoodIn wsX1_isComingSound wsX0_seenBefore := goodIn_rc _ [(0, 15), (0, 16), (0, 17), (0, 18), (1, 14), (1, 15), (1, 16), (1, 17), (1, 18), (1, 19)] (by rfl) (by decide +kernel)
set_option maxRecDepth 20000 in
theorem gX1_isComingSound_X0_seenBefore : GoodIn wsX1_isComingSound (wsV RX1 137 RX0 yX0_seenBefore wsX0_seenBefore) := goodIn_app (goodIn_of _ (by decide +kernel)) ggX1_isComingSound_X0_seenBefore
theorem dX1_isComingSound_0 : decode cX1_isComingSound 0 = .ok (.aload_n 0, 1) := by decide +kernel
theorem dX1_isComingSound_1 : decode cX1_isComingSound 1 = .ok (.getfield 10, 3) := by decide +kernel
theorem dX1_isComingSound_4 : decode cX1_isComingSound 4 = .ok (.iconst 0, 1) := by decide +kernel
theorem dX1_isComingSound_5 : decode cX1_isComingSound 5 = .ok (.iload_n 1, 1) := by decide +kernel
theorem dX1_isComingSound_6 : decode cX1_isComingSound 6 = .ok (.invokevirtual 141, 3) := by decide +kernel
theorem dX1_isComingSound_9 : decode cX1_isComingSound 9 = .ok (.istore_n 2, 1) := by decide +kernel
theorem dX1_isComingSound_10 : decode cX1_isComingSound 10 = .ok (.aload_n 0, 1) := by decide +kernel
theorem dX1_isComingSound_11 : decode cX1_isComingSound 11 = .ok (.getfield 10, 3) := by decide +kernel
theorem dX1_isComingSound_14 : decode cX1_isComingSound 14 = .ok (.iconst 1, 1) := by decide +kernel
theorem dX1_isComingSound_15 : decode cX1_isComingSound 15 = .ok (.iconst 1, 1) := by decide +kernel
theorem dX1_isComingSound_16 : decode cX1_isComingSound 16 = .ok (.iload_n 1, 1) := by decide +kernel
theorem dX1_isComingSound_17 : decode cX1_isComingSound 17 = .ok (.isub, 1) := by decide +kernel
theorem dX1_isComingSound_18 : decode cX1_isComingSound 18 = .ok (.invokevirtual 141, 3) := by decide +kernel
theorem dX1_isComingSound_21 : decode cX1_isComingSound 21 = .ok (.istore_n 3, 1) := by decide +kernel
theorem dX1_isComingSound_22 : decode cX1_isComingSound 22 = .ok (.iload_n 2, 1) := by decide +kernel
theorem dX1_isComingSound_23 : decode cX1_isComingSound 23 = .ok (.iload_n 3, 1) := by decide +kernel
theorem dX1_isComingSound_24 : decode cX1_isComingSound 24 = .ok (.iand, 1) := by decide +kernel
theorem dX1_isComingSound_25 : decode cX1_isComingSound 25 = .ok (.ifCond .ne 16, 3) := by decide +kernel
theorem dX1_isComingSound_28 : decode cX1_isComingSound 28 = .ok (.iload_n 2, 1) := by decide +kernel
theorem dX1_isComingSound_29 : decode cX1_isComingSound 29 = .ok (.iload_n 3, 1) := by decide +kernel
theorem dX1_isComingSound_30 : decode cX1_isComingSound 30 = .ok (.ior, 1) := by decide +kernel
theorem dX1_isComingSound_31 : decode cX1_isComingSound 31 = .ok (.aload_n 0, 1) := by decide +kernel
theorem dX1_isComingSound_32 : decode cX1_isComingSound 32 = .ok (.getfield 10, 3) := by decide +kernel
theorem dX1_isComingSound_35 : decode cX1_isComingSound 35 = .ok (.invokevirtual 93, 3) := by decide +kernel
theorem dX1_isComingSound_38 : decode cX1_isComingSound 38 = .ok (.if_icmp .eq 5, 3) := by decide +kernel
theorem dX1_isComingSound_41 : decode cX1_isComingSound 41 = .ok (.iconst 0, 1) := by decide +kernel
theorem dX1_isComingSound_42 : decode cX1_isComingSound 42 = .ok (.ireturn, 1) := by decide +kernel
theorem dX1_isComingSound_43 : decode cX1_isComingSound 43 = .ok (.aload_n 0, 1) := by decide +kernel
theorem dX1_isComingSound_44 : decode cX1_isComingSound 44 = .ok (.getfield 10, 3) := by decide +kernel
theorem dX1_isComingSound_47 : decode cX1_isComingSound 47 = .ok (.iload_n 2, 1) := by decide +kernel
theorem dX1_isComingSound_48 : decode cX1_isComingSound 48 = .ok (.iload_n 1, 1) := by decide +kernel
theorem dX1_isComingSound_49 : decode cX1_isComingSound 49 = .ok (.invokevirtual 137, 3) := by decide +kernel
theorem dX1_isComingSound_52 : decode cX1_isComingSound 52 = .ok (.aload_n 0, 1) := by decide +kernel
theorem dX1_isComingSound_53 : decode cX1_isComingSound 53 = .ok (.getfield 10, 3) := by decide +kernel
theorem dX1_isComingSound_56 : decode cX1_isComingSound 56 = .ok (.getfield 63, 3) := by decide +kernel
theorem dX1_isComingSound_59 : decode cX1_isComingSound 59 = .ok (.ior, 1) := by decide +kernel
theorem dX1_isComingSound_60 : decode cX1_isComingSound 60 = .ok (.istore 4, 2) := by decide +kernel
theorem dX1_isComingSound_62 : decode cX1_isComingSound 62 = .ok (.iload 4, 2) := by decide +kernel
theorem dX1_isComingSound_64 : decode cX1_isComingSound 64 = .ok (.iload_n 2, 1) := by decide +kernel
theorem dX1_isComingSound_65 : decode cX1_isComingSound 65 = .ok (.iconst (-1), 1) := by decide +kernel
theorem dX1_isComingSound_66 : decode cX1_isComingSound 66 = .ok (.ixor, 1) := by decide +kernel
theorem dX1_isComingSound_67 : decode cX1_isComingSound 67 = .ok (.iand, 1) := by decide +kernel
theorem dX1_isComingSound_68 : decode cX1_isComingSound 68 = .ok (.ifCond .ne 7, 3) := by decide +kernel
theorem dX1_isComingSound_71 : decode cX1_isComingSound 71 = .ok (.iconst 1, 1) := by decide +kernel
theorem dX1_isComingSound_72 : decode cX1_isComingSound 72 = .ok (.goto 4, 3) := by decide +kernel
theorem dX1_isComingSound_75 : decode cX1_isComingSound 75 = .ok (.iconst 0, 1) := by decide +kernel
theorem dX1_isComingSound_76 : decode cX1_isComingSound 76 = .ok (.ireturn, 1) := by decide +kernel
set_option maxRecDepth 20000 in
theorem ggX1_isAgainSound_X0_won : GoodIn wsX1_isAgainSound wsX0_won := goodIn_rc _ [(0, 6), (0, 7), (0, 8), (0, 9), (0, 10), (0, 5), (0, 11), (0, 12), (0, 13), (0, 14), (0, 15), (0, 16), (0, 17), (0, 18), (0, 19), (0, 20), (0, 21), (0, 22), (0, 23), (0, 24), (0, 25), (0, 26), (0, 27), (0, 28), (0, 29), (0, 30), (0, 31), (1, 0), (1, 1), (1, 2), (1, 3), (1, 4), (1, 13), (1, 14), (1, 15), (1, 16), (1, 17), (1, 18)] (by rfl) (by decide +kernel)
set_option maxRecDepth 20000 in
theorem gX1_isAgainSound_X0_won : GoodIn wsX1_isAgainSound (wsV RX1 141 RX0 yX0_won wsX0_won) := goodIn_app (goodIn_of _ (by decide +kernel)) ggX1_isAgainSound_X0_won
set_option maxRecDepth 20000 in
theorem ggX1_isAgainSound_X0_seenBefore : GoodIn wsX1_isAgainSound wsX0_seenBefore := goodIn_rc _ [(0, 15), (0, 16), (0, 17), (0, 18), (1, 13), (1, 14), (1, 15), (1, 16), (1, 17), (1, 18)] (by rfl) (by decide +kernel)
set_option maxRecDepth 20000 in
theorem gX1_isAgainSound_X0_seenBefore : GoodIn wsX1_isAgainSound (wsV RX1 137 RX0 yX0_seenBefore wsX0_seenBefore) := goodIn_app (goodIn_of _ (by decide +kernel)) ggX1_isAgainSound_X0_seenBefore
theorem dX1_isAgainSound_0 : decode cX1_isAgainSound 0 = .ok (.aload_n 0, 1) := by decide +kernel
theorem dX1_isAgainSound_1 : decode cX1_isAgainSound 1 = .ok (.getfield 10, 3) := by decide +kernel
theorem dX1_isAgainSound_4 : decode cX1_isAgainSound 4 = .ok (.iconst 2, 1) := by decide +kernel
theorem dX1_isAgainSound_5 : decode cX1_isAgainSound 5 = .ok (.iload_n 1, 1) := by decide +kernel
theorem dX1_isAgainSound_6 : decode cX1_isAgainSound 6 = .ok (.invokevirtual 141, 3) := by decide +kernel
theorem dX1_isAgainSound_9 : decode cX1_isAgainSound 9 = .ok (.istore_n 2, 1) := by decide +kernel
theorem dX1_isAgainSound_10 : decode cX1_isAgainSound 10 = .ok (.iload_n 2, 1) := by decide +kernel
theorem dX1_isAgainSound_11 : decode cX1_isAgainSound 11 = .ok (.aload_n 0, 1) := by decide +kernel
theorem dX1_isAgainSound_12 : decode cX1_isAgainSound 12 = .ok (.getfield 10, 3) := by decide +kernel
theorem dX1_isAgainSound_15 : decode cX1_isAgainSound 15 = .ok (.iconst 0, 1) := by decide +kernel
theorem dX1_isAgainSound_16 : decode cX1_isAgainSound 16 = .ok (.iload_n 1, 1) := by decide +kernel
theorem dX1_isAgainSound_17 : decode cX1_isAgainSound 17 = .ok (.invokevirtual 141, 3) := by decide +kernel
theorem dX1_isAgainSound_20 : decode cX1_isAgainSound 20 = .ok (.iconst (-1), 1) := by decide +kernel
theorem dX1_isAgainSound_21 : decode cX1_isAgainSound 21 = .ok (.ixor, 1) := by decide +kernel
theorem dX1_isAgainSound_22 : decode cX1_isAgainSound 22 = .ok (.iand, 1) := by decide +kernel
theorem dX1_isAgainSound_23 : decode cX1_isAgainSound 23 = .ok (.ifCond .eq 5, 3) := by decide +kernel
theorem dX1_isAgainSound_26 : decode cX1_isAgainSound 26 = .ok (.iconst 0, 1) := by decide +kernel
theorem dX1_isAgainSound_27 : decode cX1_isAgainSound 27 = .ok (.ireturn, 1) := by decide +kernel
theorem dX1_isAgainSound_28 : decode cX1_isAgainSound 28 = .ok (.aload_n 0, 1) := by decide +kernel
theorem dX1_isAgainSound_29 : decode cX1_isAgainSound 29 = .ok (.getfield 10, 3) := by decide +kernel
theorem dX1_isAgainSound_32 : decode cX1_isAgainSound 32 = .ok (.iload_n 2, 1) := by decide +kernel
theorem dX1_isAgainSound_33 : decode cX1_isAgainSound 33 = .ok (.iload_n 1, 1) := by decide +kernel
theorem dX1_isAgainSound_34 : decode cX1_isAgainSound 34 = .ok (.invokevirtual 137, 3) := by decide +kernel
theorem dX1_isAgainSound_37 : decode cX1_isAgainSound 37 = .ok (.iload_n 2, 1) := by decide +kernel
theorem dX1_isAgainSound_38 : decode cX1_isAgainSound 38 = .ok (.iconst (-1), 1) := by decide +kernel
theorem dX1_isAgainSound_39 : decode cX1_isAgainSound 39 = .ok (.ixor, 1) := by decide +kernel
theorem dX1_isAgainSound_40 : decode cX1_isAgainSound 40 = .ok (.iand, 1) := by decide +kernel
theorem dX1_isAgainSound_41 : decode cX1_isAgainSound 41 = .ok (.ifCond .ne 7, 3) := by decide +kernel
theorem dX1_isAgainSound_44 : decode cX1_isAgainSound 44 = .ok (.iconst 1, 1) := by decide +kernel
theorem dX1_isAgainSound_45 : decode cX1_isAgainSound 45 = .ok (.goto 4, 3) := by decide +kernel
theorem dX1_isAgainSound_48 : decode cX1_isAgainSound 48 = .ok (.iconst 0, 1) := by decide +kernel
theorem dX1_isAgainSound_49 : decode cX1_isAgainSound 49 = .ok (.ireturn, 1) := by decide +kernel
set_option maxRecDepth 20000 in
theorem ggX1_isRankedSound_X0_won : GoodIn wsX1_isRankedSound wsX0_won := goodIn_rc _ [(0, 6), (0, 7), (0, 8), (0, 9), (0, 10), (0, 5), (0, 11), (0, 12), (0, 13), (0, 14), (0, 15), (0, 16), (0, 17), (0, 18), (0, 19), (0, 20), (0, 21), (0, 22), (0, 23), (0, 24), (0, 25), (0, 26), (0, 27), (0, 28), (0, 29), (0, 30), (0, 31), (1, 0), (1, 1), (1, 2), (1, 3), (1, 4), (1, 25), (1, 26), (1, 27), (1, 28), (1, 29), (1, 30)] (by rfl) (by decide +kernel)
set_option maxRecDepth 20000 in
theorem gX1_isRankedSound_X0_won : GoodIn wsX1_isRankedSound (wsV RX1 141 RX0 yX0_won wsX0_won) := goodIn_app (goodIn_of _ (by decide +kernel)) ggX1_isRankedSound_X0_won
set_option maxRecDepth 20000 in
theorem ggX1_isRankedSound_X0_all : GoodIn wsX1_isRankedSound wsX0_all := goodIn_rc _ [(0, 22), (0, 16), (1, 25), (1, 26), (1, 27), (1, 28), (1, 29), (1, 30)] (by rfl) (by decide +kernel)
set_option maxRecDepth 20000 in
theorem gX1_isRankedSound_X0_all : GoodIn wsX1_isRankedSound (wsV RX1 93 RX0 yX0_all wsX0_all) := goodIn_app (goodIn_of _ (by decide +kernel)) ggX1_isRankedSound_X0_all
set_option maxRecDepth 20000 in
theorem ggX1_isRankedSound_X0_sideOf : GoodIn wsX1_isRankedSound wsX0_sideOf := goodIn_rc _ [(1, 9), (0, 18), (1, 25), (1, 26), (1, 27), (1, 28), (1, 29), (1, 30)] (by rfl) (by decide +kernel)
set_option maxRecDepth 20000 in
theorem gX1_isRankedSound_X0_sideOf : GoodIn wsX1_isRankedSound (wsV RX1 46 RX0 yX0_sideOf wsX0_sideOf) := goodIn_app (goodIn_of _ (by decide +kernel)) ggX1_isRankedSound_X0_sideOf
set_option maxRecDepth 20000 in
theorem ggX1_isRankedSound_X0_waysFrom : GoodIn wsX1_isRankedSound wsX0_waysFrom := goodIn_rc _ [(1, 13), (0, 17), (1, 25), (1, 26), (1, 27), (1, 28), (1, 29), (1, 30)] (by rfl) (by decide +kernel)
set_option maxRecDepth 20000 in
theorem gX1_isRankedSound_X0_waysFrom : GoodIn wsX1_isRankedSound (wsV RX1 66 RX0 yX0_waysFrom wsX0_waysFrom) := goodIn_app (goodIn_of _ (by decide +kernel)) ggX1_isRankedSound_X0_waysFrom
set_option maxRecDepth 20000 in
theorem ggX1_isRankedSound_X1_has : GoodIn wsX1_isRankedSound wsX1_has := goodIn_rc _ [(1, 17)] (by rfl) (by decide +kernel)
set_option maxRecDepth 20000 in
theorem gX1_isRankedSound_X1_has : GoodIn wsX1_isRankedSound (va_wsS RX1 69 yX1_has wsX1_has) := goodIn_app (goodIn_of _ (by decide +kernel)) ggX1_isRankedSound_X1_has
theorem dX1_isRankedSound_0 : decode cX1_isRankedSound 0 = .ok (.aload_n 0, 1) := by decide +kernel
theorem dX1_isRankedSound_1 : decode cX1_isRankedSound 1 = .ok (.getfield 10, 3) := by decide +kernel
theorem dX1_isRankedSound_4 : decode cX1_isRankedSound 4 = .ok (.iconst 3, 1) := by decide +kernel
theorem dX1_isRankedSound_5 : decode cX1_isRankedSound 5 = .ok (.iconst 0, 1) := by decide +kernel
theorem dX1_isRankedSound_6 : decode cX1_isRankedSound 6 = .ok (.invokevirtual 141, 3) := by decide +kernel
theorem dX1_isRankedSound_9 : decode cX1_isRankedSound 9 = .ok (.istore_n 1, 1) := by decide +kernel
theorem dX1_isRankedSound_10 : decode cX1_isRankedSound 10 = .ok (.aload_n 0, 1) := by decide +kernel
theorem dX1_isRankedSound_11 : decode cX1_isRankedSound 11 = .ok (.getfield 10, 3) := by decide +kernel
theorem dX1_isRankedSound_14 : decode cX1_isRankedSound 14 = .ok (.iconst 3, 1) := by decide +kernel
theorem dX1_isRankedSound_15 : decode cX1_isRankedSound 15 = .ok (.iconst 1, 1) := by decide +kernel
theorem dX1_isRankedSound_16 : decode cX1_isRankedSound 16 = .ok (.invokevirtual 141, 3) := by decide +kernel
theorem dX1_isRankedSound_19 : decode cX1_isRankedSound 19 = .ok (.istore_n 2, 1) := by decide +kernel
theorem dX1_isRankedSound_20 : decode cX1_isRankedSound 20 = .ok (.iload_n 1, 1) := by decide +kernel
theorem dX1_isRankedSound_21 : decode cX1_isRankedSound 21 = .ok (.iload_n 2, 1) := by decide +kernel
theorem dX1_isRankedSound_22 : decode cX1_isRankedSound 22 = .ok (.iand, 1) := by decide +kernel
theorem dX1_isRankedSound_23 : decode cX1_isRankedSound 23 = .ok (.ifCond .ne 16, 3) := by decide +kernel
theorem dX1_isRankedSound_26 : decode cX1_isRankedSound 26 = .ok (.iload_n 1, 1) := by decide +kernel
theorem dX1_isRankedSound_27 : decode cX1_isRankedSound 27 = .ok (.iload_n 2, 1) := by decide +kernel
theorem dX1_isRankedSound_28 : decode cX1_isRankedSound 28 = .ok (.ior, 1) := by decide +kernel
theorem dX1_isRankedSound_29 : decode cX1_isRankedSound 29 = .ok (.aload_n 0, 1) := by decide +kernel
theorem dX1_isRankedSound_30 : decode cX1_isRankedSound 30 = .ok (.getfield 10, 3) := by decide +kernel
theorem dX1_isRankedSound_33 : decode cX1_isRankedSound 33 = .ok (.invokevirtual 93, 3) := by decide +kernel
theorem dX1_isRankedSound_36 : decode cX1_isRankedSound 36 = .ok (.if_icmp .eq 5, 3) := by decide +kernel
theorem dX1_isRankedSound_39 : decode cX1_isRankedSound 39 = .ok (.iconst 0, 1) := by decide +kernel
theorem dX1_isRankedSound_40 : decode cX1_isRankedSound 40 = .ok (.ireturn, 1) := by decide +kernel
theorem dX1_isRankedSound_41 : decode cX1_isRankedSound 41 = .ok (.iconst 0, 1) := by decide +kernel
theorem dX1_isRankedSound_42 : decode cX1_isRankedSound 42 = .ok (.istore_n 3, 1) := by decide +kernel
theorem dX1_isRankedSound_43 : decode cX1_isRankedSound 43 = .ok (.iload_n 3, 1) := by decide +kernel
theorem dX1_isRankedSound_44 : decode cX1_isRankedSound 44 = .ok (.aload_n 0, 1) := by decide +kernel
theorem dX1_isRankedSound_45 : decode cX1_isRankedSound 45 = .ok (.getfield 10, 3) := by decide +kernel
theorem dX1_isRankedSound_48 : decode cX1_isRankedSound 48 = .ok (.getfield 23, 3) := by decide +kernel
theorem dX1_isRankedSound_51 : decode cX1_isRankedSound 51 = .ok (.if_icmp .ge 49, 3) := by decide +kernel
theorem dX1_isRankedSound_54 : decode cX1_isRankedSound 54 = .ok (.aload_n 0, 1) := by decide +kernel
theorem dX1_isRankedSound_55 : decode cX1_isRankedSound 55 = .ok (.getfield 10, 3) := by decide +kernel
theorem dX1_isRankedSound_58 : decode cX1_isRankedSound 58 = .ok (.iload_n 3, 1) := by decide +kernel
theorem dX1_isRankedSound_59 : decode cX1_isRankedSound 59 = .ok (.invokevirtual 46, 3) := by decide +kernel
theorem dX1_isRankedSound_62 : decode cX1_isRankedSound 62 = .ok (.ifCond .ne 7, 3) := by decide +kernel
theorem dX1_isRankedSound_65 : decode cX1_isRankedSound 65 = .ok (.iload_n 1, 1) := by decide +kernel
theorem dX1_isRankedSound_66 : decode cX1_isRankedSound 66 = .ok (.goto 4, 3) := by decide +kernel
theorem dX1_isRankedSound_69 : decode cX1_isRankedSound 69 = .ok (.iload_n 2, 1) := by decide +kernel
theorem dX1_isRankedSound_70 : decode cX1_isRankedSound 70 = .ok (.istore 4, 2) := by decide +kernel
theorem dX1_isRankedSound_72 : decode cX1_isRankedSound 72 = .ok (.aload_n 0, 1) := by decide +kernel
theorem dX1_isRankedSound_73 : decode cX1_isRankedSound 73 = .ok (.getfield 10, 3) := by decide +kernel
theorem dX1_isRankedSound_76 : decode cX1_isRankedSound 76 = .ok (.iload_n 3, 1) := by decide +kernel
theorem dX1_isRankedSound_77 : decode cX1_isRankedSound 77 = .ok (.invokevirtual 66, 3) := by decide +kernel
theorem dX1_isRankedSound_80 : decode cX1_isRankedSound 80 = .ok (.ifCond .ne 14, 3) := by decide +kernel
