theorem dX0_init_0 : decode cX0_init 0 = .ok (.aload_n 0, 1) := by decide +kernel
theorem dX0_init_1 : decode cX0_init 1 = .ok (.invokespecial 3, 3) := by decide +kernel
theorem dX0_init_4 : decode cX0_init 4 = .ok (.aload_n 0, 1) := by decide +kernel
theorem dX0_init_5 : decode cX0_init 5 = .ok (.bipush 12, 2) := by decide +kernel
theorem dX0_init_7 : decode cX0_init 7 = .ok (.newarray .int, 2) := by decide +kernel
theorem dX0_init_9 : decode cX0_init 9 = .ok (.putfield 9, 3) := by decide +kernel
theorem dX0_init_12 : decode cX0_init 12 = .ok (.aload_n 0, 1) := by decide +kernel
theorem dX0_init_13 : decode cX0_init 13 = .ok (.bipush 6, 2) := by decide +kernel
theorem dX0_init_15 : decode cX0_init 15 = .ok (.putfield 15, 3) := by decide +kernel
theorem dX0_init_18 : decode cX0_init 18 = .ok (.return_, 1) := by decide +kernel
theorem dX0_clear_0 : decode cX0_clear 0 = .ok (.aload_n 0, 1) := by decide +kernel
theorem dX0_clear_1 : decode cX0_clear 1 = .ok (.iload_n 1, 1) := by decide +kernel
theorem dX0_clear_2 : decode cX0_clear 2 = .ok (.putfield 15, 3) := by decide +kernel
theorem dX0_clear_5 : decode cX0_clear 5 = .ok (.aload_n 0, 1) := by decide +kernel
theorem dX0_clear_6 : decode cX0_clear 6 = .ok (.iconst 0, 1) := by decide +kernel
theorem dX0_clear_7 : decode cX0_clear 7 = .ok (.putfield 19, 3) := by decide +kernel
theorem dX0_clear_10 : decode cX0_clear 10 = .ok (.aload_n 0, 1) := by decide +kernel
theorem dX0_clear_11 : decode cX0_clear 11 = .ok (.iconst 0, 1) := by decide +kernel
theorem dX0_clear_12 : decode cX0_clear 12 = .ok (.putfield 22, 3) := by decide +kernel
theorem dX0_clear_15 : decode cX0_clear 15 = .ok (.aload_n 0, 1) := by decide +kernel
theorem dX0_clear_16 : decode cX0_clear 16 = .ok (.iconst 0, 1) := by decide +kernel
theorem dX0_clear_17 : decode cX0_clear 17 = .ok (.putfield 25, 3) := by decide +kernel
theorem dX0_clear_20 : decode cX0_clear 20 = .ok (.aload_n 0, 1) := by decide +kernel
theorem dX0_clear_21 : decode cX0_clear 21 = .ok (.iconst 0, 1) := by decide +kernel
theorem dX0_clear_22 : decode cX0_clear 22 = .ok (.putfield 28, 3) := by decide +kernel
theorem dX0_clear_25 : decode cX0_clear 25 = .ok (.iconst 0, 1) := by decide +kernel
theorem dX0_clear_26 : decode cX0_clear 26 = .ok (.istore_n 2, 1) := by decide +kernel
theorem dX0_clear_27 : decode cX0_clear 27 = .ok (.iload_n 2, 1) := by decide +kernel
theorem dX0_clear_28 : decode cX0_clear 28 = .ok (.aload_n 0, 1) := by decide +kernel
theorem dX0_clear_29 : decode cX0_clear 29 = .ok (.getfield 9, 3) := by decide +kernel
theorem dX0_clear_32 : decode cX0_clear 32 = .ok (.arraylength, 1) := by decide +kernel
theorem dX0_clear_33 : decode cX0_clear 33 = .ok (.if_icmp .ge 16, 3) := by decide +kernel
theorem dX0_clear_36 : decode cX0_clear 36 = .ok (.aload_n 0, 1) := by decide +kernel
theorem dX0_clear_37 : decode cX0_clear 37 = .ok (.getfield 9, 3) := by decide +kernel
theorem dX0_clear_40 : decode cX0_clear 40 = .ok (.iload_n 2, 1) := by decide +kernel
theorem dX0_clear_41 : decode cX0_clear 41 = .ok (.iconst 0, 1) := by decide +kernel
theorem dX0_clear_42 : decode cX0_clear 42 = .ok (.iastore, 1) := by decide +kernel
theorem dX0_clear_43 : decode cX0_clear 43 = .ok (.iinc 2 1, 3) := by decide +kernel
theorem dX0_clear_46 : decode cX0_clear 46 = .ok (.goto (-19), 3) := by decide +kernel
theorem dX0_clear_49 : decode cX0_clear 49 = .ok (.return_, 1) := by decide +kernel
set_option maxRecDepth 20000 in
theorem ggX0_copyFrom_X0_waysFrom : GoodIn wsX0_copyFrom wsX0_waysFrom := goodIn_rc _ [(0, 11), (0, 6), (0, 12), (0, 13), (0, 14), (0, 15), (0, 16), (0, 17)] (by rfl) (by decide +kernel)
set_option maxRecDepth 20000 in
theorem gX0_copyFrom_X0_waysFrom : GoodIn wsX0_copyFrom (wsV RX0 31 RX0 yX0_waysFrom wsX0_waysFrom) := goodIn_app (goodIn_of _ (by decide +kernel)) ggX0_copyFrom_X0_waysFrom
theorem dX0_copyFrom_0 : decode cX0_copyFrom 0 = .ok (.aload_n 1, 1) := by decide +kernel
theorem dX0_copyFrom_1 : decode cX0_copyFrom 1 = .ok (.ifnonnull 4, 3) := by decide +kernel
theorem dX0_copyFrom_4 : decode cX0_copyFrom 4 = .ok (.return_, 1) := by decide +kernel
theorem dX0_copyFrom_5 : decode cX0_copyFrom 5 = .ok (.aload_n 0, 1) := by decide +kernel
theorem dX0_copyFrom_6 : decode cX0_copyFrom 6 = .ok (.aload_n 1, 1) := by decide +kernel
theorem dX0_copyFrom_7 : decode cX0_copyFrom 7 = .ok (.getfield 15, 3) := by decide +kernel
theorem dX0_copyFrom_10 : decode cX0_copyFrom 10 = .ok (.putfield 15, 3) := by decide +kernel
theorem dX0_copyFrom_13 : decode cX0_copyFrom 13 = .ok (.aload_n 0, 1) := by decide +kernel
theorem dX0_copyFrom_14 : decode cX0_copyFrom 14 = .ok (.aload_n 1, 1) := by decide +kernel
theorem dX0_copyFrom_15 : decode cX0_copyFrom 15 = .ok (.getfield 19, 3) := by decide +kernel
theorem dX0_copyFrom_18 : decode cX0_copyFrom 18 = .ok (.putfield 19, 3) := by decide +kernel
theorem dX0_copyFrom_21 : decode cX0_copyFrom 21 = .ok (.aload_n 0, 1) := by decide +kernel
theorem dX0_copyFrom_22 : decode cX0_copyFrom 22 = .ok (.aload_n 1, 1) := by decide +kernel
theorem dX0_copyFrom_23 : decode cX0_copyFrom 23 = .ok (.getfield 22, 3) := by decide +kernel
theorem dX0_copyFrom_26 : decode cX0_copyFrom 26 = .ok (.putfield 22, 3) := by decide +kernel
theorem dX0_copyFrom_29 : decode cX0_copyFrom 29 = .ok (.aload_n 0, 1) := by decide +kernel
theorem dX0_copyFrom_30 : decode cX0_copyFrom 30 = .ok (.aload_n 1, 1) := by decide +kernel
theorem dX0_copyFrom_31 : decode cX0_copyFrom 31 = .ok (.getfield 25, 3) := by decide +kernel
theorem dX0_copyFrom_34 : decode cX0_copyFrom 34 = .ok (.putfield 25, 3) := by decide +kernel
theorem dX0_copyFrom_37 : decode cX0_copyFrom 37 = .ok (.aload_n 0, 1) := by decide +kernel
theorem dX0_copyFrom_38 : decode cX0_copyFrom 38 = .ok (.aload_n 1, 1) := by decide +kernel
theorem dX0_copyFrom_39 : decode cX0_copyFrom 39 = .ok (.getfield 28, 3) := by decide +kernel
theorem dX0_copyFrom_42 : decode cX0_copyFrom 42 = .ok (.putfield 28, 3) := by decide +kernel
theorem dX0_copyFrom_45 : decode cX0_copyFrom 45 = .ok (.iconst 0, 1) := by decide +kernel
theorem dX0_copyFrom_46 : decode cX0_copyFrom 46 = .ok (.istore_n 2, 1) := by decide +kernel
theorem dX0_copyFrom_47 : decode cX0_copyFrom 47 = .ok (.iload_n 2, 1) := by decide +kernel
theorem dX0_copyFrom_48 : decode cX0_copyFrom 48 = .ok (.aload_n 0, 1) := by decide +kernel
theorem dX0_copyFrom_49 : decode cX0_copyFrom 49 = .ok (.getfield 9, 3) := by decide +kernel
theorem dX0_copyFrom_52 : decode cX0_copyFrom 52 = .ok (.arraylength, 1) := by decide +kernel
theorem dX0_copyFrom_53 : decode cX0_copyFrom 53 = .ok (.if_icmp .ge 20, 3) := by decide +kernel
theorem dX0_copyFrom_56 : decode cX0_copyFrom 56 = .ok (.aload_n 0, 1) := by decide +kernel
theorem dX0_copyFrom_57 : decode cX0_copyFrom 57 = .ok (.getfield 9, 3) := by decide +kernel
theorem dX0_copyFrom_60 : decode cX0_copyFrom 60 = .ok (.iload_n 2, 1) := by decide +kernel
theorem dX0_copyFrom_61 : decode cX0_copyFrom 61 = .ok (.aload_n 1, 1) := by decide +kernel
theorem dX0_copyFrom_62 : decode cX0_copyFrom 62 = .ok (.iload_n 2, 1) := by decide +kernel
theorem dX0_copyFrom_63 : decode cX0_copyFrom 63 = .ok (.invokevirtual 31, 3) := by decide +kernel
theorem dX0_copyFrom_66 : decode cX0_copyFrom 66 = .ok (.iastore, 1) := by decide +kernel
theorem dX0_copyFrom_67 : decode cX0_copyFrom 67 = .ok (.iinc 2 1, 3) := by decide +kernel
theorem dX0_copyFrom_70 : decode cX0_copyFrom 70 = .ok (.goto (-23), 3) := by decide +kernel
theorem dX0_copyFrom_73 : decode cX0_copyFrom 73 = .ok (.return_, 1) := by decide +kernel
theorem dX0_all_0 : decode cX0_all 0 = .ok (.iconst 1, 1) := by decide +kernel
theorem dX0_all_1 : decode cX0_all 1 = .ok (.aload_n 0, 1) := by decide +kernel
theorem dX0_all_2 : decode cX0_all 2 = .ok (.getfield 15, 3) := by decide +kernel
theorem dX0_all_5 : decode cX0_all 5 = .ok (.ishl, 1) := by decide +kernel
theorem dX0_all_6 : decode cX0_all 6 = .ok (.iconst 1, 1) := by decide +kernel
theorem dX0_all_7 : decode cX0_all 7 = .ok (.isub, 1) := by decide +kernel
theorem dX0_all_8 : decode cX0_all 8 = .ok (.ireturn, 1) := by decide +kernel
theorem dX0_wrapped_0 : decode cX0_wrapped 0 = .ok (.aload_n 0, 1) := by decide +kernel
theorem dX0_wrapped_1 : decode cX0_wrapped 1 = .ok (.getfield 15, 3) := by decide +kernel
theorem dX0_wrapped_4 : decode cX0_wrapped 4 = .ok (.ifCond .le 12, 3) := by decide +kernel
theorem dX0_wrapped_7 : decode cX0_wrapped 7 = .ok (.iload_n 1, 1) := by decide +kernel
theorem dX0_wrapped_8 : decode cX0_wrapped 8 = .ok (.aload_n 0, 1) := by decide +kernel
theorem dX0_wrapped_9 : decode cX0_wrapped 9 = .ok (.getfield 15, 3) := by decide +kernel
theorem dX0_wrapped_12 : decode cX0_wrapped 12 = .ok (.irem, 1) := by decide +kernel
theorem dX0_wrapped_13 : decode cX0_wrapped 13 = .ok (.goto 4, 3) := by decide +kernel
theorem dX0_wrapped_16 : decode cX0_wrapped 16 = .ok (.iconst 0, 1) := by decide +kernel
theorem dX0_wrapped_17 : decode cX0_wrapped 17 = .ok (.ireturn, 1) := by decide +kernel
theorem dX0_sideOf_0 : decode cX0_sideOf 0 = .ok (.aload_n 0, 1) := by decide +kernel
theorem dX0_sideOf_1 : decode cX0_sideOf 1 = .ok (.getfield 19, 3) := by decide +kernel
theorem dX0_sideOf_4 : decode cX0_sideOf 4 = .ok (.iload_n 1, 1) := by decide +kernel
theorem dX0_sideOf_5 : decode cX0_sideOf 5 = .ok (.ishr, 1) := by decide +kernel
theorem dX0_sideOf_6 : decode cX0_sideOf 6 = .ok (.iconst 1, 1) := by decide +kernel
theorem dX0_sideOf_7 : decode cX0_sideOf 7 = .ok (.iand, 1) := by decide +kernel
theorem dX0_sideOf_8 : decode cX0_sideOf 8 = .ok (.ireturn, 1) := by decide +kernel
set_option maxRecDepth 20000 in
theorem ggX0_placesOf_X0_all : GoodIn wsX0_placesOf wsX0_all := goodIn_rc _ [(0, 6), (0, 7), (0, 8), (0, 9), (0, 10), (0, 11), (0, 12), (0, 13)] (by rfl) (by decide +kernel)
set_option maxRecDepth 20000 in
theorem gX0_placesOf_X0_all : GoodIn wsX0_placesOf (wsV RX0 35 RX0 yX0_all wsX0_all) := goodIn_app (goodIn_of _ (by decide +kernel)) ggX0_placesOf_X0_all
theorem dX0_placesOf_0 : decode cX0_placesOf 0 = .ok (.iload_n 1, 1) := by decide +kernel
theorem dX0_placesOf_1 : decode cX0_placesOf 1 = .ok (.iconst 1, 1) := by decide +kernel
theorem dX0_placesOf_2 : decode cX0_placesOf 2 = .ok (.if_icmp .ne 10, 3) := by decide +kernel
theorem dX0_placesOf_5 : decode cX0_placesOf 5 = .ok (.aload_n 0, 1) := by decide +kernel
theorem dX0_placesOf_6 : decode cX0_placesOf 6 = .ok (.getfield 19, 3) := by decide +kernel
theorem dX0_placesOf_9 : decode cX0_placesOf 9 = .ok (.goto 14, 3) := by decide +kernel
theorem dX0_placesOf_12 : decode cX0_placesOf 12 = .ok (.aload_n 0, 1) := by decide +kernel
theorem dX0_placesOf_13 : decode cX0_placesOf 13 = .ok (.invokevirtual 35, 3) := by decide +kernel
theorem dX0_placesOf_16 : decode cX0_placesOf 16 = .ok (.aload_n 0, 1) := by decide +kernel
theorem dX0_placesOf_17 : decode cX0_placesOf 17 = .ok (.getfield 19, 3) := by decide +kernel
theorem dX0_placesOf_20 : decode cX0_placesOf 20 = .ok (.iconst (-1), 1) := by decide +kernel
theorem dX0_placesOf_21 : decode cX0_placesOf 21 = .ok (.ixor, 1) := by decide +kernel
theorem dX0_placesOf_22 : decode cX0_placesOf 22 = .ok (.iand, 1) := by decide +kernel
theorem dX0_placesOf_23 : decode cX0_placesOf 23 = .ok (.ireturn, 1) := by decide +kernel
theorem dX0_setSide_0 : decode cX0_setSide 0 = .ok (.aload_n 0, 1) := by decide +kernel
theorem dX0_setSide_1 : decode cX0_setSide 1 = .ok (.aload_n 0, 1) := by decide +kernel
theorem dX0_setSide_2 : decode cX0_setSide 2 = .ok (.getfield 19, 3) := by decide +kernel
theorem dX0_setSide_5 : decode cX0_setSide 5 = .ok (.iconst 1, 1) := by decide +kernel
theorem dX0_setSide_6 : decode cX0_setSide 6 = .ok (.iload_n 1, 1) := by decide +kernel
theorem dX0_setSide_7 : decode cX0_setSide 7 = .ok (.ishl, 1) := by decide +kernel
theorem dX0_setSide_8 : decode cX0_setSide 8 = .ok (.iconst (-1), 1) := by decide +kernel
theorem dX0_setSide_9 : decode cX0_setSide 9 = .ok (.ixor, 1) := by decide +kernel
theorem dX0_setSide_10 : decode cX0_setSide 10 = .ok (.iand, 1) := by decide +kernel
theorem dX0_setSide_11 : decode cX0_setSide 11 = .ok (.iload_n 2, 1) := by decide +kernel
theorem dX0_setSide_12 : decode cX0_setSide 12 = .ok (.iload_n 1, 1) := by decide +kernel
theorem dX0_setSide_13 : decode cX0_setSide 13 = .ok (.ishl, 1) := by decide +kernel
theorem dX0_setSide_14 : decode cX0_setSide 14 = .ok (.ior, 1) := by decide +kernel
theorem dX0_setSide_15 : decode cX0_setSide 15 = .ok (.putfield 19, 3) := by decide +kernel
theorem dX0_setSide_18 : decode cX0_setSide 18 = .ok (.return_, 1) := by decide +kernel
set_option maxRecDepth 20000 in
theorem ggX0_rankOf_X1_has : GoodIn wsX0_rankOf wsX1_has := goodIn_rc _ [(0, 5)] (by rfl) (by decide +kernel)
set_option maxRecDepth 20000 in
theorem gX0_rankOf_X1_has_n39 : GoodIn wsX0_rankOf (wsX1_has) := ggX0_rankOf_X1_has
theorem dX0_rankOf_0 : decode cX0_rankOf 0 = .ok (.aload_n 0, 1) := by decide +kernel
theorem dX0_rankOf_1 : decode cX0_rankOf 1 = .ok (.getfield 25, 3) := by decide +kernel
theorem dX0_rankOf_4 : decode cX0_rankOf 4 = .ok (.iload_n 1, 1) := by decide +kernel
theorem dX0_rankOf_5 : decode cX0_rankOf 5 = .ok (.invokestatic 39, 3) := by decide +kernel
theorem dX0_rankOf_8 : decode cX0_rankOf 8 = .ok (.ifCond .eq 5, 3) := by decide +kernel
theorem dX0_rankOf_11 : decode cX0_rankOf 11 = .ok (.iconst 0, 1) := by decide +kernel
theorem dX0_rankOf_12 : decode cX0_rankOf 12 = .ok (.ireturn, 1) := by decide +kernel
theorem dX0_rankOf_13 : decode cX0_rankOf 13 = .ok (.aload_n 0, 1) := by decide +kernel
theorem dX0_rankOf_14 : decode cX0_rankOf 14 = .ok (.getfield 28, 3) := by decide +kernel
theorem dX0_rankOf_17 : decode cX0_rankOf 17 = .ok (.iload_n 1, 1) := by decide +kernel
theorem dX0_rankOf_18 : decode cX0_rankOf 18 = .ok (.invokestatic 39, 3) := by decide +kernel
theorem dX0_rankOf_21 : decode cX0_rankOf 21 = .ok (.ifCond .eq 7, 3) := by decide +kernel
theorem dX0_rankOf_24 : decode cX0_rankOf 24 = .ok (.iconst 1, 1) := by decide +kernel
theorem dX0_rankOf_25 : decode cX0_rankOf 25 = .ok (.goto 4, 3) := by decide +kernel
theorem dX0_rankOf_28 : decode cX0_rankOf 28 = .ok (.iconst 2, 1) := by decide +kernel
theorem dX0_rankOf_29 : decode cX0_rankOf 29 = .ok (.ireturn, 1) := by decide +kernel
theorem dX0_setRank_0 : decode cX0_setRank 0 = .ok (.iconst 1, 1) := by decide +kernel
theorem dX0_setRank_1 : decode cX0_setRank 1 = .ok (.iload_n 1, 1) := by decide +kernel
theorem dX0_setRank_2 : decode cX0_setRank 2 = .ok (.ishl, 1) := by decide +kernel
theorem dX0_setRank_3 : decode cX0_setRank 3 = .ok (.istore_n 3, 1) := by decide +kernel
theorem dX0_setRank_4 : decode cX0_setRank 4 = .ok (.aload_n 0, 1) := by decide +kernel
theorem dX0_setRank_5 : decode cX0_setRank 5 = .ok (.iload_n 2, 1) := by decide +kernel
theorem dX0_setRank_6 : decode cX0_setRank 6 = .ok (.ifCond .ne 12, 3) := by decide +kernel
theorem dX0_setRank_9 : decode cX0_setRank 9 = .ok (.aload_n 0, 1) := by decide +kernel
theorem dX0_setRank_10 : decode cX0_setRank 10 = .ok (.getfield 25, 3) := by decide +kernel
theorem dX0_setRank_13 : decode cX0_setRank 13 = .ok (.iload_n 3, 1) := by decide +kernel
theorem dX0_setRank_14 : decode cX0_setRank 14 = .ok (.ior, 1) := by decide +kernel
theorem dX0_setRank_15 : decode cX0_setRank 15 = .ok (.goto 11, 3) := by decide +kernel
theorem dX0_setRank_18 : decode cX0_setRank 18 = .ok (.aload_n 0, 1) := by decide +kernel
theorem dX0_setRank_19 : decode cX0_setRank 19 = .ok (.getfield 25, 3) := by decide +kernel
theorem dX0_setRank_22 : decode cX0_setRank 22 = .ok (.iload_n 3, 1) := by decide +kernel
theorem dX0_setRank_23 : decode cX0_setRank 23 = .ok (.iconst (-1), 1) := by decide +kernel
theorem dX0_setRank_24 : decode cX0_setRank 24 = .ok (.ixor, 1) := by decide +kernel
theorem dX0_setRank_25 : decode cX0_setRank 25 = .ok (.iand, 1) := by decide +kernel
theorem dX0_setRank_26 : decode cX0_setRank 26 = .ok (.putfield 25, 3) := by decide +kernel
theorem dX0_setRank_29 : decode cX0_setRank 29 = .ok (.aload_n 0, 1) := by decide +kernel
theorem dX0_setRank_30 : decode cX0_setRank 30 = .ok (.iload_n 2, 1) := by decide +kernel
theorem dX0_setRank_31 : decode cX0_setRank 31 = .ok (.iconst 1, 1) := by decide +kernel
theorem dX0_setRank_32 : decode cX0_setRank 32 = .ok (.if_icmp .ne 12, 3) := by decide +kernel
theorem dX0_setRank_35 : decode cX0_setRank 35 = .ok (.aload_n 0, 1) := by decide +kernel
theorem dX0_setRank_36 : decode cX0_setRank 36 = .ok (.getfield 28, 3) := by decide +kernel
theorem dX0_setRank_39 : decode cX0_setRank 39 = .ok (.iload_n 3, 1) := by decide +kernel
theorem dX0_setRank_40 : decode cX0_setRank 40 = .ok (.ior, 1) := by decide +kernel
theorem dX0_setRank_41 : decode cX0_setRank 41 = .ok (.goto 11, 3) := by decide +kernel
theorem dX0_setRank_44 : decode cX0_setRank 44 = .ok (.aload_n 0, 1) := by decide +kernel
theorem dX0_setRank_45 : decode cX0_setRank 45 = .ok (.getfield 28, 3) := by decide +kernel
theorem dX0_setRank_48 : decode cX0_setRank 48 = .ok (.iload_n 3, 1) := by decide +kernel
theorem dX0_setRank_49 : decode cX0_setRank 49 = .ok (.iconst (-1), 1) := by decide +kernel
theorem dX0_setRank_50 : decode cX0_setRank 50 = .ok (.ixor, 1) := by decide +kernel
theorem dX0_setRank_51 : decode cX0_setRank 51 = .ok (.iand, 1) := by decide +kernel
theorem dX0_setRank_52 : decode cX0_setRank 52 = .ok (.putfield 28, 3) := by decide +kernel
theorem dX0_setRank_55 : decode cX0_setRank 55 = .ok (.return_, 1) := by decide +kernel
theorem dX0_waysFrom_0 : decode cX0_waysFrom 0 = .ok (.iload_n 1, 1) := by decide +kernel
theorem dX0_waysFrom_1 : decode cX0_waysFrom 1 = .ok (.ifCond .lt 21, 3) := by decide +kernel
theorem dX0_waysFrom_4 : decode cX0_waysFrom 4 = .ok (.iload_n 1, 1) := by decide +kernel
theorem dX0_waysFrom_5 : decode cX0_waysFrom 5 = .ok (.aload_n 0, 1) := by decide +kernel
theorem dX0_waysFrom_6 : decode cX0_waysFrom 6 = .ok (.getfield 9, 3) := by decide +kernel
theorem dX0_waysFrom_9 : decode cX0_waysFrom 9 = .ok (.arraylength, 1) := by decide +kernel
theorem dX0_waysFrom_10 : decode cX0_waysFrom 10 = .ok (.if_icmp .ge 12, 3) := by decide +kernel
theorem dX0_waysFrom_13 : decode cX0_waysFrom 13 = .ok (.aload_n 0, 1) := by decide +kernel
theorem dX0_waysFrom_14 : decode cX0_waysFrom 14 = .ok (.getfield 9, 3) := by decide +kernel
theorem dX0_waysFrom_17 : decode cX0_waysFrom 17 = .ok (.iload_n 1, 1) := by decide +kernel
theorem dX0_waysFrom_18 : decode cX0_waysFrom 18 = .ok (.iaload, 1) := by decide +kernel
theorem dX0_waysFrom_19 : decode cX0_waysFrom 19 = .ok (.goto 4, 3) := by decide +kernel
theorem dX0_waysFrom_22 : decode cX0_waysFrom 22 = .ok (.iconst 0, 1) := by decide +kernel
theorem dX0_waysFrom_23 : decode cX0_waysFrom 23 = .ok (.ireturn, 1) := by decide +kernel
set_option maxRecDepth 20000 in
theorem ggX0_waysInto_X0_waysFrom : GoodIn wsX0_waysInto wsX0_waysFrom := goodIn_rc _ [(0, 6), (0, 7), (0, 11), (0, 12), (0, 13), (0, 14), (0, 15), (0, 16)] (by rfl) (by decide +kernel)
set_option maxRecDepth 20000 in
theorem gX0_waysInto_X0_waysFrom : GoodIn wsX0_waysInto (wsV RX0 31 RX0 yX0_waysFrom wsX0_waysFrom) := goodIn_app (goodIn_of _ (by decide +kernel)) ggX0_waysInto_X0_waysFrom
set_option maxRecDepth 20000 in
theorem ggX0_waysInto_X1_has : GoodIn wsX0_waysInto wsX1_has := goodIn_rc _ [(0, 10)] (by rfl) (by decide +kernel)
set_option maxRecDepth 20000 in
theorem gX0_waysInto_X1_has_n39 : GoodIn wsX0_waysInto (wsX1_has) := ggX0_waysInto_X1_has
theorem dX0_waysInto_0 : decode cX0_waysInto 0 = .ok (.iconst 0, 1) := by decide +kernel
theorem dX0_waysInto_1 : decode cX0_waysInto 1 = .ok (.istore_n 2, 1) := by decide +kernel
theorem dX0_waysInto_2 : decode cX0_waysInto 2 = .ok (.iconst 0, 1) := by decide +kernel
theorem dX0_waysInto_3 : decode cX0_waysInto 3 = .ok (.istore_n 3, 1) := by decide +kernel
theorem dX0_waysInto_4 : decode cX0_waysInto 4 = .ok (.iload_n 3, 1) := by decide +kernel
theorem dX0_waysInto_5 : decode cX0_waysInto 5 = .ok (.aload_n 0, 1) := by decide +kernel
theorem dX0_waysInto_6 : decode cX0_waysInto 6 = .ok (.getfield 15, 3) := by decide +kernel
theorem dX0_waysInto_9 : decode cX0_waysInto 9 = .ok (.if_icmp .ge 27, 3) := by decide +kernel
theorem dX0_waysInto_12 : decode cX0_waysInto 12 = .ok (.aload_n 0, 1) := by decide +kernel
theorem dX0_waysInto_13 : decode cX0_waysInto 13 = .ok (.iload_n 3, 1) := by decide +kernel
theorem dX0_waysInto_14 : decode cX0_waysInto 14 = .ok (.invokevirtual 31, 3) := by decide +kernel
theorem dX0_waysInto_17 : decode cX0_waysInto 17 = .ok (.iload_n 1, 1) := by decide +kernel
theorem dX0_waysInto_18 : decode cX0_waysInto 18 = .ok (.invokestatic 39, 3) := by decide +kernel
theorem dX0_waysInto_21 : decode cX0_waysInto 21 = .ok (.ifCond .eq 9, 3) := by decide +kernel
theorem dX0_waysInto_24 : decode cX0_waysInto 24 = .ok (.iload_n 2, 1) := by decide +kernel
theorem dX0_waysInto_25 : decode cX0_waysInto 25 = .ok (.iconst 1, 1) := by decide +kernel
theorem dX0_waysInto_26 : decode cX0_waysInto 26 = .ok (.iload_n 3, 1) := by decide +kernel
theorem dX0_waysInto_27 : decode cX0_waysInto 27 = .ok (.ishl, 1) := by decide +kernel
theorem dX0_waysInto_28 : decode cX0_waysInto 28 = .ok (.ior, 1) := by decide +kernel
theorem dX0_waysInto_29 : decode cX0_waysInto 29 = .ok (.istore_n 2, 1) := by decide +kernel
theorem dX0_waysInto_30 : decode cX0_waysInto 30 = .ok (.iinc 3 1, 3) := by decide +kernel
theorem dX0_waysInto_33 : decode cX0_waysInto 33 = .ok (.goto (-29), 3) := by decide +kernel
theorem dX0_waysInto_36 : decode cX0_waysInto 36 = .ok (.iload_n 2, 1) := by decide +kernel
theorem dX0_waysInto_37 : decode cX0_waysInto 37 = .ok (.ireturn, 1) := by decide +kernel
theorem dX0_setWays_0 : decode cX0_setWays 0 = .ok (.iload_n 1, 1) := by decide +kernel
theorem dX0_setWays_1 : decode cX0_setWays 1 = .ok (.ifCond .lt 19, 3) := by decide +kernel
theorem dX0_setWays_4 : decode cX0_setWays 4 = .ok (.iload_n 1, 1) := by decide +kernel
theorem dX0_setWays_5 : decode cX0_setWays 5 = .ok (.aload_n 0, 1) := by decide +kernel
theorem dX0_setWays_6 : decode cX0_setWays 6 = .ok (.getfield 9, 3) := by decide +kernel
theorem dX0_setWays_9 : decode cX0_setWays 9 = .ok (.arraylength, 1) := by decide +kernel
theorem dX0_setWays_10 : decode cX0_setWays 10 = .ok (.if_icmp .ge 10, 3) := by decide +kernel
theorem dX0_setWays_13 : decode cX0_setWays 13 = .ok (.aload_n 0, 1) := by decide +kernel
theorem dX0_setWays_14 : decode cX0_setWays 14 = .ok (.getfield 9, 3) := by decide +kernel
theorem dX0_setWays_17 : decode cX0_setWays 17 = .ok (.iload_n 1, 1) := by decide +kernel
theorem dX0_setWays_18 : decode cX0_setWays 18 = .ok (.iload_n 2, 1) := by decide +kernel
theorem dX0_setWays_19 : decode cX0_setWays 19 = .ok (.iastore, 1) := by decide +kernel
theorem dX0_setWays_20 : decode cX0_setWays 20 = .ok (.return_, 1) := by decide +kernel
set_option maxRecDepth 20000 in
theorem ggX0_putWay_X0_waysFrom : GoodIn wsX0_putWay wsX0_waysFrom := goodIn_rc _ [(0, 5), (0, 6), (0, 11), (0, 12), (0, 13), (0, 14), (0, 15), (0, 16)] (by rfl) (by decide +kernel)
set_option maxRecDepth 20000 in
theorem gX0_putWay_X0_waysFrom : GoodIn wsX0_putWay (wsV RX0 31 RX0 yX0_waysFrom wsX0_waysFrom) := goodIn_app (goodIn_of _ (by decide +kernel)) ggX0_putWay_X0_waysFrom
set_option maxRecDepth 20000 in
theorem ggX0_putWay_X0_setWays : GoodIn wsX0_putWay wsX0_setWays := goodIn_rc _ [(0, 10), (0, 6), (0, 11), (0, 12), (0, 13), (0, 14), (0, 15), (0, 16)] (by rfl) (by decide +kernel)
set_option maxRecDepth 20000 in
theorem gX0_putWay_X0_setWays : GoodIn wsX0_putWay (wsV RX0 43 RX0 yX0_setWays wsX0_setWays) := goodIn_app (goodIn_of _ (by decide +kernel)) ggX0_putWay_X0_setWays
theorem dX0_putWay_0 : decode cX0_putWay 0 = .ok (.aload_n 0, 1) := by decide +kernel
theorem dX0_putWay_1 : decode cX0_putWay 1 = .ok (.iload_n 1, 1) := by decide +kernel
theorem dX0_putWay_2 : decode cX0_putWay 2 = .ok (.aload_n 0, 1) := by decide +kernel
theorem dX0_putWay_3 : decode cX0_putWay 3 = .ok (.iload_n 1, 1) := by decide +kernel
theorem dX0_putWay_4 : decode cX0_putWay 4 = .ok (.invokevirtual 31, 3) := by decide +kernel
theorem dX0_putWay_7 : decode cX0_putWay 7 = .ok (.iconst 1, 1) := by decide +kernel
theorem dX0_putWay_8 : decode cX0_putWay 8 = .ok (.iload_n 2, 1) := by decide +kernel
theorem dX0_putWay_9 : decode cX0_putWay 9 = .ok (.ishl, 1) := by decide +kernel
theorem dX0_putWay_10 : decode cX0_putWay 10 = .ok (.ior, 1) := by decide +kernel
theorem dX0_putWay_11 : decode cX0_putWay 11 = .ok (.invokevirtual 43, 3) := by decide +kernel
theorem dX0_putWay_14 : decode cX0_putWay 14 = .ok (.return_, 1) := by decide +kernel
set_option maxRecDepth 20000 in
theorem ggX0_takeWay_X0_waysFrom : GoodIn wsX0_takeWay wsX0_waysFrom := goodIn_rc _ [(0, 5), (0, 6), (0, 11), (0, 12), (0, 13), (0, 14), (0, 15), (0, 16)] (by rfl) (by decide +kernel)
set_option maxRecDepth 20000 in
theorem gX0_takeWay_X0_waysFrom : GoodIn wsX0_takeWay (wsV RX0 31 RX0 yX0_waysFrom wsX0_waysFrom) := goodIn_app (goodIn_of _ (by decide +kernel)) ggX0_takeWay_X0_waysFrom
set_option maxRecDepth 20000 in
theorem ggX0_takeWay_X0_setWays : GoodIn wsX0_takeWay wsX0_setWays := goodIn_rc _ [(0, 10), (0, 6), (0, 11), (0, 12), (0, 13), (0, 14), (0, 15), (0, 16)] (by rfl) (by decide +kernel)
set_option maxRecDepth 20000 in
theorem gX0_takeWay_X0_setWays : GoodIn wsX0_takeWay (wsV RX0 43 RX0 yX0_setWays wsX0_setWays) := goodIn_app (goodIn_of _ (by decide +kernel)) ggX0_takeWay_X0_setWays
theorem dX0_takeWay_0 : decode cX0_takeWay 0 = .ok (.aload_n 0, 1) := by decide +kernel
theorem dX0_takeWay_1 : decode cX0_takeWay 1 = .ok (.iload_n 1, 1) := by decide +kernel
theorem dX0_takeWay_2 : decode cX0_takeWay 2 = .ok (.aload_n 0, 1) := by decide +kernel
theorem dX0_takeWay_3 : decode cX0_takeWay 3 = .ok (.iload_n 1, 1) := by decide +kernel
theorem dX0_takeWay_4 : decode cX0_takeWay 4 = .ok (.invokevirtual 31, 3) := by decide +kernel
theorem dX0_takeWay_7 : decode cX0_takeWay 7 = .ok (.iconst 1, 1) := by decide +kernel
theorem dX0_takeWay_8 : decode cX0_takeWay 8 = .ok (.iload_n 2, 1) := by decide +kernel
theorem dX0_takeWay_9 : decode cX0_takeWay 9 = .ok (.ishl, 1) := by decide +kernel
theorem dX0_takeWay_10 : decode cX0_takeWay 10 = .ok (.iconst (-1), 1) := by decide +kernel
theorem dX0_takeWay_11 : decode cX0_takeWay 11 = .ok (.ixor, 1) := by decide +kernel
theorem dX0_takeWay_12 : decode cX0_takeWay 12 = .ok (.iand, 1) := by decide +kernel
theorem dX0_takeWay_13 : decode cX0_takeWay 13 = .ok (.invokevirtual 43, 3) := by decide +kernel
theorem dX0_takeWay_16 : decode cX0_takeWay 16 = .ok (.return_, 1) := by decide +kernel
set_option maxRecDepth 20000 in
theorem ggX0_countWays_X0_waysFrom : GoodIn wsX0_countWays wsX0_waysFrom := goodIn_rc _ [(0, 6), (0, 7), (0, 15), (0, 16), (0, 17), (0, 18), (0, 19), (0, 20)] (by rfl) (by decide +kernel)
set_option maxRecDepth 20000 in
theorem gX0_countWays_X0_waysFrom : GoodIn wsX0_countWays (wsV RX0 31 RX0 yX0_waysFrom wsX0_waysFrom) := goodIn_app (goodIn_of _ (by decide +kernel)) ggX0_countWays_X0_waysFrom
set_option maxRecDepth 20000 in
theorem ggX0_countWays_J6_bitCount_0f7a4 : GoodIn wsX0_countWays wsJ6_bitCount_0f7a4 := goodIn_rc _ [(0, 11), (0, 12), (0, 13), (0, 14)] (by rfl) (by decide +kernel)
set_option maxRecDepth 20000 in
theorem gX0_countWays_J6_bitCount_0f7a4 : GoodIn wsX0_countWays (va_wsS RX0 47 yJ6_bitCount_0f7a4 wsJ6_bitCount_0f7a4) := goodIn_app (goodIn_of _ (by decide +kernel)) ggX0_countWays_J6_bitCount_0f7a4
theorem dX0_countWays_0 : decode cX0_countWays 0 = .ok (.iconst 0, 1) := by decide +kernel
theorem dX0_countWays_1 : decode cX0_countWays 1 = .ok (.istore_n 1, 1) := by decide +kernel
theorem dX0_countWays_2 : decode cX0_countWays 2 = .ok (.iconst 0, 1) := by decide +kernel
theorem dX0_countWays_3 : decode cX0_countWays 3 = .ok (.istore_n 2, 1) := by decide +kernel
theorem dX0_countWays_4 : decode cX0_countWays 4 = .ok (.iload_n 2, 1) := by decide +kernel
theorem dX0_countWays_5 : decode cX0_countWays 5 = .ok (.aload_n 0, 1) := by decide +kernel
theorem dX0_countWays_6 : decode cX0_countWays 6 = .ok (.getfield 15, 3) := by decide +kernel
theorem dX0_countWays_9 : decode cX0_countWays 9 = .ok (.if_icmp .ge 20, 3) := by decide +kernel
theorem dX0_countWays_12 : decode cX0_countWays 12 = .ok (.iload_n 1, 1) := by decide +kernel
theorem dX0_countWays_13 : decode cX0_countWays 13 = .ok (.aload_n 0, 1) := by decide +kernel
theorem dX0_countWays_14 : decode cX0_countWays 14 = .ok (.iload_n 2, 1) := by decide +kernel
theorem dX0_countWays_15 : decode cX0_countWays 15 = .ok (.invokevirtual 31, 3) := by decide +kernel
theorem dX0_countWays_18 : decode cX0_countWays 18 = .ok (.invokestatic 47, 3) := by decide +kernel
theorem dX0_countWays_21 : decode cX0_countWays 21 = .ok (.iadd, 1) := by decide +kernel
theorem dX0_countWays_22 : decode cX0_countWays 22 = .ok (.istore_n 1, 1) := by decide +kernel
theorem dX0_countWays_23 : decode cX0_countWays 23 = .ok (.iinc 2 1, 3) := by decide +kernel
theorem dX0_countWays_26 : decode cX0_countWays 26 = .ok (.goto (-22), 3) := by decide +kernel
theorem dX0_countWays_29 : decode cX0_countWays 29 = .ok (.iload_n 1, 1) := by decide +kernel
theorem dX0_countWays_30 : decode cX0_countWays 30 = .ok (.ireturn, 1) := by decide +kernel
set_option maxRecDepth 20000 in
theorem ggX0_countWithoutWays_X0_waysFrom : GoodIn wsX0_countWithoutWays wsX0_waysFrom := goodIn_rc _ [(0, 6), (0, 7), (0, 8), (0, 9), (0, 10), (0, 11), (0, 12), (0, 13)] (by rfl) (by decide +kernel)
set_option maxRecDepth 20000 in
theorem gX0_countWithoutWays_X0_waysFrom : GoodIn wsX0_countWithoutWays (wsV RX0 31 RX0 yX0_waysFrom wsX0_waysFrom) := goodIn_app (goodIn_of _ (by decide +kernel)) ggX0_countWithoutWays_X0_waysFrom
theorem dX0_countWithoutWays_0 : decode cX0_countWithoutWays 0 = .ok (.iconst 0, 1) := by decide +kernel
theorem dX0_countWithoutWays_1 : decode cX0_countWithoutWays 1 = .ok (.istore_n 1, 1) := by decide +kernel
theorem dX0_countWithoutWays_2 : decode cX0_countWithoutWays 2 = .ok (.iconst 0, 1) := by decide +kernel
theorem dX0_countWithoutWays_3 : decode cX0_countWithoutWays 3 = .ok (.istore_n 2, 1) := by decide +kernel
theorem dX0_countWithoutWays_4 : decode cX0_countWithoutWays 4 = .ok (.iload_n 2, 1) := by decide +kernel
theorem dX0_countWithoutWays_5 : decode cX0_countWithoutWays 5 = .ok (.aload_n 0, 1) := by decide +kernel
theorem dX0_countWithoutWays_6 : decode cX0_countWithoutWays 6 = .ok (.getfield 15, 3) := by decide +kernel
theorem dX0_countWithoutWays_9 : decode cX0_countWithoutWays 9 = .ok (.if_icmp .ge 20, 3) := by decide +kernel
theorem dX0_countWithoutWays_12 : decode cX0_countWithoutWays 12 = .ok (.aload_n 0, 1) := by decide +kernel
theorem dX0_countWithoutWays_13 : decode cX0_countWithoutWays 13 = .ok (.iload_n 2, 1) := by decide +kernel
theorem dX0_countWithoutWays_14 : decode cX0_countWithoutWays 14 = .ok (.invokevirtual 31, 3) := by decide +kernel
theorem dX0_countWithoutWays_17 : decode cX0_countWithoutWays 17 = .ok (.ifCond .ne 6, 3) := by decide +kernel
theorem dX0_countWithoutWays_20 : decode cX0_countWithoutWays 20 = .ok (.iinc 1 1, 3) := by decide +kernel
theorem dX0_countWithoutWays_23 : decode cX0_countWithoutWays 23 = .ok (.iinc 2 1, 3) := by decide +kernel
theorem dX0_countWithoutWays_26 : decode cX0_countWithoutWays 26 = .ok (.goto (-22), 3) := by decide +kernel
theorem dX0_countWithoutWays_29 : decode cX0_countWithoutWays 29 = .ok (.iload_n 1, 1) := by decide +kernel
theorem dX0_countWithoutWays_30 : decode cX0_countWithoutWays 30 = .ok (.ireturn, 1) := by decide +kernel
set_option maxRecDepth 20000 in
theorem ggX0_countChoices_X0_waysFrom : GoodIn wsX0_countChoices wsX0_waysFrom := goodIn_rc _ [(0, 6), (0, 7), (0, 20), (0, 21), (0, 22), (0, 23), (0, 24), (0, 25)] (by rfl) (by decide +kernel)
set_option maxRecDepth 20000 in
theorem gX0_countChoices_X0_waysFrom : GoodIn wsX0_countChoices (wsV RX0 31 RX0 yX0_waysFrom wsX0_waysFrom) := goodIn_app (goodIn_of _ (by decide +kernel)) ggX0_countChoices_X0_waysFrom
set_option maxRecDepth 20000 in
theorem ggX0_countChoices_J6_bitCount_0f7a4 : GoodIn wsX0_countChoices wsJ6_bitCount_0f7a4 := goodIn_rc _ [(0, 11), (0, 12), (0, 13), (0, 14)] (by rfl) (by decide +kernel)
set_option maxRecDepth 20000 in
theorem gX0_countChoices_J6_bitCount_0f7a4 : GoodIn wsX0_countChoices (va_wsS RX0 47 yJ6_bitCount_0f7a4 wsJ6_bitCount_0f7a4) := goodIn_app (goodIn_of _ (by decide +kernel)) ggX0_countChoices_J6_bitCount_0f7a4
set_option maxRecDepth 20000 in
theorem ggX0_countChoices_X0_sideOf : GoodIn wsX0_countChoices wsX0_sideOf := goodIn_rc _ [(0, 18), (0, 19), (0, 20), (0, 21), (0, 22), (0, 23), (0, 24), (0, 25)] (by rfl) (by decide +kernel)
set_option maxRecDepth 20000 in
theorem gX0_countChoices_X0_sideOf : GoodIn wsX0_countChoices (wsV RX0 52 RX0 yX0_sideOf wsX0_sideOf) := goodIn_app (goodIn_of _ (by decide +kernel)) ggX0_countChoices_X0_sideOf
theorem dX0_countChoices_0 : decode cX0_countChoices 0 = .ok (.iconst 1, 1) := by decide +kernel
theorem dX0_countChoices_1 : decode cX0_countChoices 1 = .ok (.istore_n 2, 1) := by decide +kernel
theorem dX0_countChoices_2 : decode cX0_countChoices 2 = .ok (.iconst 0, 1) := by decide +kernel
theorem dX0_countChoices_3 : decode cX0_countChoices 3 = .ok (.istore_n 3, 1) := by decide +kernel
theorem dX0_countChoices_4 : decode cX0_countChoices 4 = .ok (.iload_n 3, 1) := by decide +kernel
theorem dX0_countChoices_5 : decode cX0_countChoices 5 = .ok (.aload_n 0, 1) := by decide +kernel
theorem dX0_countChoices_6 : decode cX0_countChoices 6 = .ok (.getfield 15, 3) := by decide +kernel
theorem dX0_countChoices_9 : decode cX0_countChoices 9 = .ok (.if_icmp .ge 38, 3) := by decide +kernel
theorem dX0_countChoices_12 : decode cX0_countChoices 12 = .ok (.aload_n 0, 1) := by decide +kernel
theorem dX0_countChoices_13 : decode cX0_countChoices 13 = .ok (.iload_n 3, 1) := by decide +kernel
theorem dX0_countChoices_14 : decode cX0_countChoices 14 = .ok (.invokevirtual 31, 3) := by decide +kernel
theorem dX0_countChoices_17 : decode cX0_countChoices 17 = .ok (.invokestatic 47, 3) := by decide +kernel
theorem dX0_countChoices_20 : decode cX0_countChoices 20 = .ok (.istore 4, 2) := by decide +kernel
theorem dX0_countChoices_22 : decode cX0_countChoices 22 = .ok (.iload 4, 2) := by decide +kernel
theorem dX0_countChoices_24 : decode cX0_countChoices 24 = .ok (.ifCond .le 17, 3) := by decide +kernel
theorem dX0_countChoices_27 : decode cX0_countChoices 27 = .ok (.aload_n 0, 1) := by decide +kernel
theorem dX0_countChoices_28 : decode cX0_countChoices 28 = .ok (.iload_n 3, 1) := by decide +kernel
theorem dX0_countChoices_29 : decode cX0_countChoices 29 = .ok (.invokevirtual 52, 3) := by decide +kernel
theorem dX0_countChoices_32 : decode cX0_countChoices 32 = .ok (.iload_n 1, 1) := by decide +kernel
theorem dX0_countChoices_33 : decode cX0_countChoices 33 = .ok (.if_icmp .ne 8, 3) := by decide +kernel
theorem dX0_countChoices_36 : decode cX0_countChoices 36 = .ok (.iload_n 2, 1) := by decide +kernel
theorem dX0_countChoices_37 : decode cX0_countChoices 37 = .ok (.iload 4, 2) := by decide +kernel
theorem dX0_countChoices_39 : decode cX0_countChoices 39 = .ok (.imul, 1) := by decide +kernel
theorem dX0_countChoices_40 : decode cX0_countChoices 40 = .ok (.istore_n 2, 1) := by decide +kernel
theorem dX0_countChoices_41 : decode cX0_countChoices 41 = .ok (.iinc 3 1, 3) := by decide +kernel
theorem dX0_countChoices_44 : decode cX0_countChoices 44 = .ok (.goto (-40), 3) := by decide +kernel
theorem dX0_countChoices_47 : decode cX0_countChoices 47 = .ok (.iload_n 2, 1) := by decide +kernel
theorem dX0_countChoices_48 : decode cX0_countChoices 48 = .ok (.ireturn, 1) := by decide +kernel
theorem dX0_seenBefore_0 : decode cX0_seenBefore 0 = .ok (.iconst 0, 1) := by decide +kernel
theorem dX0_seenBefore_1 : decode cX0_seenBefore 1 = .ok (.istore_n 3, 1) := by decide +kernel
theorem dX0_seenBefore_2 : decode cX0_seenBefore 2 = .ok (.iconst 0, 1) := by decide +kernel
theorem dX0_seenBefore_3 : decode cX0_seenBefore 3 = .ok (.istore 4, 2) := by decide +kernel
theorem dX0_seenBefore_5 : decode cX0_seenBefore 5 = .ok (.iload 4, 2) := by decide +kernel
theorem dX0_seenBefore_7 : decode cX0_seenBefore 7 = .ok (.aload_n 0, 1) := by decide +kernel
theorem dX0_seenBefore_8 : decode cX0_seenBefore 8 = .ok (.getfield 15, 3) := by decide +kernel
theorem dX0_seenBefore_11 : decode cX0_seenBefore 11 = .ok (.if_icmp .ge 97, 3) := by decide +kernel
theorem dX0_seenBefore_14 : decode cX0_seenBefore 14 = .ok (.iload 4, 2) := by decide +kernel
theorem dX0_seenBefore_16 : decode cX0_seenBefore 16 = .ok (.aload_n 0, 1) := by decide +kernel
theorem dX0_seenBefore_17 : decode cX0_seenBefore 17 = .ok (.getfield 9, 3) := by decide +kernel
theorem dX0_seenBefore_20 : decode cX0_seenBefore 20 = .ok (.arraylength, 1) := by decide +kernel
theorem dX0_seenBefore_21 : decode cX0_seenBefore 21 = .ok (.if_icmp .ge 87, 3) := by decide +kernel
theorem dX0_seenBefore_24 : decode cX0_seenBefore 24 = .ok (.aload_n 0, 1) := by decide +kernel
theorem dX0_seenBefore_25 : decode cX0_seenBefore 25 = .ok (.getfield 19, 3) := by decide +kernel
theorem dX0_seenBefore_28 : decode cX0_seenBefore 28 = .ok (.iload 4, 2) := by decide +kernel
theorem dX0_seenBefore_30 : decode cX0_seenBefore 30 = .ok (.ishr, 1) := by decide +kernel
theorem dX0_seenBefore_31 : decode cX0_seenBefore 31 = .ok (.iconst 1, 1) := by decide +kernel
theorem dX0_seenBefore_32 : decode cX0_seenBefore 32 = .ok (.iand, 1) := by decide +kernel
theorem dX0_seenBefore_33 : decode cX0_seenBefore 33 = .ok (.iload_n 2, 1) := by decide +kernel
theorem dX0_seenBefore_34 : decode cX0_seenBefore 34 = .ok (.if_icmp .ne 7, 3) := by decide +kernel
theorem dX0_seenBefore_37 : decode cX0_seenBefore 37 = .ok (.iconst 1, 1) := by decide +kernel
theorem dX0_seenBefore_38 : decode cX0_seenBefore 38 = .ok (.goto 4, 3) := by decide +kernel
theorem dX0_seenBefore_41 : decode cX0_seenBefore 41 = .ok (.iconst 0, 1) := by decide +kernel
theorem dX0_seenBefore_42 : decode cX0_seenBefore 42 = .ok (.istore 5, 2) := by decide +kernel
theorem dX0_seenBefore_44 : decode cX0_seenBefore 44 = .ok (.iload 5, 2) := by decide +kernel
theorem dX0_seenBefore_46 : decode cX0_seenBefore 46 = .ok (.ifCond .eq 23, 3) := by decide +kernel
theorem dX0_seenBefore_49 : decode cX0_seenBefore 49 = .ok (.aload_n 0, 1) := by decide +kernel
theorem dX0_seenBefore_50 : decode cX0_seenBefore 50 = .ok (.getfield 9, 3) := by decide +kernel
theorem dX0_seenBefore_53 : decode cX0_seenBefore 53 = .ok (.iload 4, 2) := by decide +kernel
theorem dX0_seenBefore_55 : decode cX0_seenBefore 55 = .ok (.iaload, 1) := by decide +kernel
theorem dX0_seenBefore_56 : decode cX0_seenBefore 56 = .ok (.iload_n 1, 1) := by decide +kernel
theorem dX0_seenBefore_57 : decode cX0_seenBefore 57 = .ok (.iand, 1) := by decide +kernel
theorem dX0_seenBefore_58 : decode cX0_seenBefore 58 = .ok (.ifCond .eq 7, 3) := by decide +kernel
theorem dX0_seenBefore_61 : decode cX0_seenBefore 61 = .ok (.iconst 1, 1) := by decide +kernel
theorem dX0_seenBefore_62 : decode cX0_seenBefore 62 = .ok (.goto 26, 3) := by decide +kernel
theorem dX0_seenBefore_65 : decode cX0_seenBefore 65 = .ok (.iconst 0, 1) := by decide +kernel
theorem dX0_seenBefore_66 : decode cX0_seenBefore 66 = .ok (.goto 22, 3) := by decide +kernel
theorem dX0_seenBefore_69 : decode cX0_seenBefore 69 = .ok (.aload_n 0, 1) := by decide +kernel
theorem dX0_seenBefore_70 : decode cX0_seenBefore 70 = .ok (.getfield 9, 3) := by decide +kernel
theorem dX0_seenBefore_73 : decode cX0_seenBefore 73 = .ok (.iload 4, 2) := by decide +kernel
theorem dX0_seenBefore_75 : decode cX0_seenBefore 75 = .ok (.iaload, 1) := by decide +kernel
theorem dX0_seenBefore_76 : decode cX0_seenBefore 76 = .ok (.iload_n 1, 1) := by decide +kernel
theorem dX0_seenBefore_77 : decode cX0_seenBefore 77 = .ok (.iconst (-1), 1) := by decide +kernel
theorem dX0_seenBefore_78 : decode cX0_seenBefore 78 = .ok (.ixor, 1) := by decide +kernel
theorem dX0_seenBefore_79 : decode cX0_seenBefore 79 = .ok (.iand, 1) := by decide +kernel
theorem dX0_seenBefore_80 : decode cX0_seenBefore 80 = .ok (.ifCond .ne 7, 3) := by decide +kernel
theorem dX0_seenBefore_83 : decode cX0_seenBefore 83 = .ok (.iconst 1, 1) := by decide +kernel
theorem dX0_seenBefore_84 : decode cX0_seenBefore 84 = .ok (.goto 4, 3) := by decide +kernel
theorem dX0_seenBefore_87 : decode cX0_seenBefore 87 = .ok (.iconst 0, 1) := by decide +kernel
theorem dX0_seenBefore_88 : decode cX0_seenBefore 88 = .ok (.istore 6, 2) := by decide +kernel
theorem dX0_seenBefore_90 : decode cX0_seenBefore 90 = .ok (.iload 6, 2) := by decide +kernel
theorem dX0_seenBefore_92 : decode cX0_seenBefore 92 = .ok (.ifCond .eq 10, 3) := by decide +kernel
theorem dX0_seenBefore_95 : decode cX0_seenBefore 95 = .ok (.iload_n 3, 1) := by decide +kernel
theorem dX0_seenBefore_96 : decode cX0_seenBefore 96 = .ok (.iconst 1, 1) := by decide +kernel
theorem dX0_seenBefore_97 : decode cX0_seenBefore 97 = .ok (.iload 4, 2) := by decide +kernel
theorem dX0_seenBefore_99 : decode cX0_seenBefore 99 = .ok (.ishl, 1) := by decide +kernel
theorem dX0_seenBefore_100 : decode cX0_seenBefore 100 = .ok (.ior, 1) := by decide +kernel
theorem dX0_seenBefore_101 : decode cX0_seenBefore 101 = .ok (.istore_n 3, 1) := by decide +kernel
theorem dX0_seenBefore_102 : decode cX0_seenBefore 102 = .ok (.iinc 4 1, 3) := by decide +kernel
theorem dX0_seenBefore_105 : decode cX0_seenBefore 105 = .ok (.goto (-100), 3) := by decide +kernel
theorem dX0_seenBefore_108 : decode cX0_seenBefore 108 = .ok (.iload_n 3, 1) := by decide +kernel
theorem dX0_seenBefore_109 : decode cX0_seenBefore 109 = .ok (.ireturn, 1) := by decide +kernel
set_option maxRecDepth 20000 in
theorem ggX0_reaching_X0_seenBefore : GoodIn wsX0_reaching wsX0_seenBefore := goodIn_rc _ [(0, 5), (0, 6), (0, 7), (0, 8), (0, 9), (0, 10), (0, 11), (0, 12), (0, 13), (0, 14)] (by rfl) (by decide +kernel)
set_option maxRecDepth 20000 in
theorem gX0_reaching_X0_seenBefore : GoodIn wsX0_reaching (wsV RX0 55 RX0 yX0_seenBefore wsX0_seenBefore) := goodIn_app (goodIn_of _ (by decide +kernel)) ggX0_reaching_X0_seenBefore
theorem dX0_reaching_0 : decode cX0_reaching 0 = .ok (.iload_n 1, 1) := by decide +kernel
theorem dX0_reaching_1 : decode cX0_reaching 1 = .ok (.aload_n 0, 1) := by decide +kernel
theorem dX0_reaching_2 : decode cX0_reaching 2 = .ok (.iconst 0, 1) := by decide +kernel
theorem dX0_reaching_3 : decode cX0_reaching 3 = .ok (.iload_n 2, 1) := by decide +kernel
theorem dX0_reaching_4 : decode cX0_reaching 4 = .ok (.invokevirtual 55, 3) := by decide +kernel
theorem dX0_reaching_7 : decode cX0_reaching 7 = .ok (.ior, 1) := by decide +kernel
theorem dX0_reaching_8 : decode cX0_reaching 8 = .ok (.istore_n 3, 1) := by decide +kernel
theorem dX0_reaching_9 : decode cX0_reaching 9 = .ok (.iconst 0, 1) := by decide +kernel
theorem dX0_reaching_10 : decode cX0_reaching 10 = .ok (.istore 4, 2) := by decide +kernel
theorem dX0_reaching_12 : decode cX0_reaching 12 = .ok (.iload 4, 2) := by decide +kernel
theorem dX0_reaching_14 : decode cX0_reaching 14 = .ok (.bipush 12, 2) := by decide +kernel
theorem dX0_reaching_16 : decode cX0_reaching 16 = .ok (.if_icmp .ge 31, 3) := by decide +kernel
theorem dX0_reaching_19 : decode cX0_reaching 19 = .ok (.iload_n 3, 1) := by decide +kernel
theorem dX0_reaching_20 : decode cX0_reaching 20 = .ok (.aload_n 0, 1) := by decide +kernel
theorem dX0_reaching_21 : decode cX0_reaching 21 = .ok (.iload_n 3, 1) := by decide +kernel
theorem dX0_reaching_22 : decode cX0_reaching 22 = .ok (.iload_n 2, 1) := by decide +kernel
theorem dX0_reaching_23 : decode cX0_reaching 23 = .ok (.invokevirtual 55, 3) := by decide +kernel
theorem dX0_reaching_26 : decode cX0_reaching 26 = .ok (.ior, 1) := by decide +kernel
theorem dX0_reaching_27 : decode cX0_reaching 27 = .ok (.istore 5, 2) := by decide +kernel
theorem dX0_reaching_29 : decode cX0_reaching 29 = .ok (.iload 5, 2) := by decide +kernel
theorem dX0_reaching_31 : decode cX0_reaching 31 = .ok (.iload_n 3, 1) := by decide +kernel
theorem dX0_reaching_32 : decode cX0_reaching 32 = .ok (.if_icmp .ne 6, 3) := by decide +kernel
theorem dX0_reaching_35 : decode cX0_reaching 35 = .ok (.goto 12, 3) := by decide +kernel
theorem dX0_reaching_38 : decode cX0_reaching 38 = .ok (.iload 5, 2) := by decide +kernel
theorem dX0_reaching_40 : decode cX0_reaching 40 = .ok (.istore_n 3, 1) := by decide +kernel
theorem dX0_reaching_41 : decode cX0_reaching 41 = .ok (.iinc 4 1, 3) := by decide +kernel
theorem dX0_reaching_44 : decode cX0_reaching 44 = .ok (.goto (-32), 3) := by decide +kernel
theorem dX0_reaching_47 : decode cX0_reaching 47 = .ok (.iload_n 3, 1) := by decide +kernel
theorem dX0_reaching_48 : decode cX0_reaching 48 = .ok (.ireturn, 1) := by decide +kernel
set_option maxRecDepth 20000 in
theorem ggX0_roundsTo_X0_seenBefore : GoodIn wsX0_roundsTo wsX0_seenBefore := goodIn_rc _ [(0, 5), (0, 6), (0, 7), (0, 8), (0, 12), (0, 13), (0, 14), (0, 15), (0, 16), (0, 17)] (by rfl) (by decide +kernel)
set_option maxRecDepth 20000 in
theorem gX0_roundsTo_X0_seenBefore : GoodIn wsX0_roundsTo (wsV RX0 55 RX0 yX0_seenBefore wsX0_seenBefore) := goodIn_app (goodIn_of _ (by decide +kernel)) ggX0_roundsTo_X0_seenBefore
set_option maxRecDepth 20000 in
theorem ggX0_roundsTo_X1_has : GoodIn wsX0_roundsTo wsX1_has := goodIn_rc _ [(0, 11)] (by rfl) (by decide +kernel)
set_option maxRecDepth 20000 in
theorem gX0_roundsTo_X1_has_n39 : GoodIn wsX0_roundsTo (wsX1_has) := ggX0_roundsTo_X1_has
theorem dX0_roundsTo_0 : decode cX0_roundsTo 0 = .ok (.iload_n 1, 1) := by decide +kernel
theorem dX0_roundsTo_1 : decode cX0_roundsTo 1 = .ok (.aload_n 0, 1) := by decide +kernel
theorem dX0_roundsTo_2 : decode cX0_roundsTo 2 = .ok (.iconst 0, 1) := by decide +kernel
theorem dX0_roundsTo_3 : decode cX0_roundsTo 3 = .ok (.iload_n 2, 1) := by decide +kernel
theorem dX0_roundsTo_4 : decode cX0_roundsTo 4 = .ok (.invokevirtual 55, 3) := by decide +kernel
theorem dX0_roundsTo_7 : decode cX0_roundsTo 7 = .ok (.ior, 1) := by decide +kernel
theorem dX0_roundsTo_8 : decode cX0_roundsTo 8 = .ok (.istore 4, 2) := by decide +kernel
theorem dX0_roundsTo_10 : decode cX0_roundsTo 10 = .ok (.iconst 0, 1) := by decide +kernel
theorem dX0_roundsTo_11 : decode cX0_roundsTo 11 = .ok (.istore 5, 2) := by decide +kernel
theorem dX0_roundsTo_13 : decode cX0_roundsTo 13 = .ok (.iload 5, 2) := by decide +kernel
theorem dX0_roundsTo_15 : decode cX0_roundsTo 15 = .ok (.bipush 12, 2) := by decide +kernel
theorem dX0_roundsTo_17 : decode cX0_roundsTo 17 = .ok (.if_icmp .ge 33, 3) := by decide +kernel
theorem dX0_roundsTo_20 : decode cX0_roundsTo 20 = .ok (.iload 4, 2) := by decide +kernel
theorem dX0_roundsTo_22 : decode cX0_roundsTo 22 = .ok (.iload_n 3, 1) := by decide +kernel
theorem dX0_roundsTo_23 : decode cX0_roundsTo 23 = .ok (.invokestatic 39, 3) := by decide +kernel
theorem dX0_roundsTo_26 : decode cX0_roundsTo 26 = .ok (.ifCond .eq 6, 3) := by decide +kernel
theorem dX0_roundsTo_29 : decode cX0_roundsTo 29 = .ok (.iload 5, 2) := by decide +kernel
theorem dX0_roundsTo_31 : decode cX0_roundsTo 31 = .ok (.ireturn, 1) := by decide +kernel
theorem dX0_roundsTo_32 : decode cX0_roundsTo 32 = .ok (.iload 4, 2) := by decide +kernel
theorem dX0_roundsTo_34 : decode cX0_roundsTo 34 = .ok (.aload_n 0, 1) := by decide +kernel
theorem dX0_roundsTo_35 : decode cX0_roundsTo 35 = .ok (.iload 4, 2) := by decide +kernel
theorem dX0_roundsTo_37 : decode cX0_roundsTo 37 = .ok (.iload_n 2, 1) := by decide +kernel
theorem dX0_roundsTo_38 : decode cX0_roundsTo 38 = .ok (.invokevirtual 55, 3) := by decide +kernel
theorem dX0_roundsTo_41 : decode cX0_roundsTo 41 = .ok (.ior, 1) := by decide +kernel
theorem dX0_roundsTo_42 : decode cX0_roundsTo 42 = .ok (.istore 4, 2) := by decide +kernel
theorem dX0_roundsTo_44 : decode cX0_roundsTo 44 = .ok (.iinc 5 1, 3) := by decide +kernel
theorem dX0_roundsTo_47 : decode cX0_roundsTo 47 = .ok (.goto (-34), 3) := by decide +kernel
theorem dX0_roundsTo_50 : decode cX0_roundsTo 50 = .ok (.iconst (-1), 1) := by decide +kernel
theorem dX0_roundsTo_51 : decode cX0_roundsTo 51 = .ok (.ireturn, 1) := by decide +kernel
set_option maxRecDepth 20000 in
theorem ggX0_nearer_X0_seenBefore : GoodIn wsX0_nearer wsX0_seenBefore := goodIn_rc _ [(0, 5), (0, 6), (0, 7), (0, 8), (0, 12), (0, 13), (0, 14), (0, 15), (0, 16), (0, 17)] (by rfl) (by decide +kernel)
set_option maxRecDepth 20000 in
theorem gX0_nearer_X0_seenBefore : GoodIn wsX0_nearer (wsV RX0 55 RX0 yX0_seenBefore wsX0_seenBefore) := goodIn_app (goodIn_of _ (by decide +kernel)) ggX0_nearer_X0_seenBefore
set_option maxRecDepth 20000 in
theorem ggX0_nearer_X1_has : GoodIn wsX0_nearer wsX1_has := goodIn_rc _ [(0, 11)] (by rfl) (by decide +kernel)
set_option maxRecDepth 20000 in
theorem gX0_nearer_X1_has_n39 : GoodIn wsX0_nearer (wsX1_has) := ggX0_nearer_X1_has
theorem dX0_nearer_0 : decode cX0_nearer 0 = .ok (.iload_n 1, 1) := by decide +kernel
theorem dX0_nearer_1 : decode cX0_nearer 1 = .ok (.aload_n 0, 1) := by decide +kernel
theorem dX0_nearer_2 : decode cX0_nearer 2 = .ok (.iconst 0, 1) := by decide +kernel
theorem dX0_nearer_3 : decode cX0_nearer 3 = .ok (.iload_n 2, 1) := by decide +kernel
theorem dX0_nearer_4 : decode cX0_nearer 4 = .ok (.invokevirtual 55, 3) := by decide +kernel
theorem dX0_nearer_7 : decode cX0_nearer 7 = .ok (.ior, 1) := by decide +kernel
theorem dX0_nearer_8 : decode cX0_nearer 8 = .ok (.istore 4, 2) := by decide +kernel
theorem dX0_nearer_10 : decode cX0_nearer 10 = .ok (.iload 4, 2) := by decide +kernel
theorem dX0_nearer_12 : decode cX0_nearer 12 = .ok (.iload_n 3, 1) := by decide +kernel
theorem dX0_nearer_13 : decode cX0_nearer 13 = .ok (.invokestatic 39, 3) := by decide +kernel
theorem dX0_nearer_16 : decode cX0_nearer 16 = .ok (.ifCond .eq 5, 3) := by decide +kernel
theorem dX0_nearer_19 : decode cX0_nearer 19 = .ok (.iconst 0, 1) := by decide +kernel
theorem dX0_nearer_20 : decode cX0_nearer 20 = .ok (.ireturn, 1) := by decide +kernel
theorem dX0_nearer_21 : decode cX0_nearer 21 = .ok (.iconst 0, 1) := by decide +kernel
theorem dX0_nearer_22 : decode cX0_nearer 22 = .ok (.istore 5, 2) := by decide +kernel
theorem dX0_nearer_24 : decode cX0_nearer 24 = .ok (.iload 5, 2) := by decide +kernel
theorem dX0_nearer_26 : decode cX0_nearer 26 = .ok (.bipush 12, 2) := by decide +kernel
theorem dX0_nearer_28 : decode cX0_nearer 28 = .ok (.if_icmp .ge 37, 3) := by decide +kernel
theorem dX0_nearer_31 : decode cX0_nearer 31 = .ok (.iload 4, 2) := by decide +kernel
theorem dX0_nearer_33 : decode cX0_nearer 33 = .ok (.aload_n 0, 1) := by decide +kernel
theorem dX0_nearer_34 : decode cX0_nearer 34 = .ok (.iload 4, 2) := by decide +kernel
theorem dX0_nearer_36 : decode cX0_nearer 36 = .ok (.iload_n 2, 1) := by decide +kernel
theorem dX0_nearer_37 : decode cX0_nearer 37 = .ok (.invokevirtual 55, 3) := by decide +kernel
theorem dX0_nearer_40 : decode cX0_nearer 40 = .ok (.ior, 1) := by decide +kernel
theorem dX0_nearer_41 : decode cX0_nearer 41 = .ok (.istore 6, 2) := by decide +kernel
theorem dX0_nearer_43 : decode cX0_nearer 43 = .ok (.iload 6, 2) := by decide +kernel
theorem dX0_nearer_45 : decode cX0_nearer 45 = .ok (.iload_n 3, 1) := by decide +kernel
theorem dX0_nearer_46 : decode cX0_nearer 46 = .ok (.invokestatic 39, 3) := by decide +kernel
theorem dX0_nearer_49 : decode cX0_nearer 49 = .ok (.ifCond .eq 6, 3) := by decide +kernel
theorem dX0_nearer_52 : decode cX0_nearer 52 = .ok (.iload 4, 2) := by decide +kernel
theorem dX0_nearer_54 : decode cX0_nearer 54 = .ok (.ireturn, 1) := by decide +kernel
theorem dX0_nearer_55 : decode cX0_nearer 55 = .ok (.iload 6, 2) := by decide +kernel
theorem dX0_nearer_57 : decode cX0_nearer 57 = .ok (.istore 4, 2) := by decide +kernel
theorem dX0_nearer_59 : decode cX0_nearer 59 = .ok (.iinc 5 1, 3) := by decide +kernel
theorem dX0_nearer_62 : decode cX0_nearer 62 = .ok (.goto (-38), 3) := by decide +kernel
theorem dX0_nearer_65 : decode cX0_nearer 65 = .ok (.iconst 0, 1) := by decide +kernel
theorem dX0_nearer_66 : decode cX0_nearer 66 = .ok (.ireturn, 1) := by decide +kernel
set_option maxRecDepth 20000 in
theorem ggX0_wonAgain_X0_all : GoodIn wsX0_wonAgain wsX0_all := goodIn_rc _ [(0, 6), (0, 7), (0, 18), (0, 19), (0, 20), (0, 21), (0, 22), (0, 23)] (by rfl) (by decide +kernel)
set_option maxRecDepth 20000 in
theorem gX0_wonAgain_X0_all : GoodIn wsX0_wonAgain (wsV RX0 35 RX0 yX0_all wsX0_all) := goodIn_app (goodIn_of _ (by decide +kernel)) ggX0_wonAgain_X0_all
set_option maxRecDepth 20000 in
theorem ggX0_wonAgain_X0_seenBefore : GoodIn wsX0_wonAgain wsX0_seenBefore := goodIn_rc _ [(0, 11), (0, 7), (0, 12), (0, 13), (0, 18), (0, 19), (0, 20), (0, 21), (0, 22), (0, 23)] (by rfl) (by decide +kernel)
set_option maxRecDepth 20000 in
theorem gX0_wonAgain_X0_seenBefore : GoodIn wsX0_wonAgain (wsV RX0 55 RX0 yX0_seenBefore wsX0_seenBefore) := goodIn_app (goodIn_of _ (by decide +kernel)) ggX0_wonAgain_X0_seenBefore
set_option maxRecDepth 20000 in
theorem ggX0_wonAgain_X0_reaching : GoodIn wsX0_wonAgain wsX0_reaching := goodIn_rc _ [(0, 17), (0, 8), (0, 9), (0, 10), (0, 5), (0, 11), (0, 7), (0, 12), (0, 13), (0, 18), (0, 19), (0, 20), (0, 21), (0, 22), (0, 23)] (by rfl) (by decide +kernel)
set_option maxRecDepth 20000 in
theorem gX0_wonAgain_X0_reaching : GoodIn wsX0_wonAgain (wsV RX0 59 RX0 yX0_reaching wsX0_reaching) := goodIn_app (goodIn_of _ (by decide +kernel)) ggX0_wonAgain_X0_reaching
theorem dX0_wonAgain_0 : decode cX0_wonAgain 0 = .ok (.aload_n 0, 1) := by decide +kernel
theorem dX0_wonAgain_1 : decode cX0_wonAgain 1 = .ok (.invokevirtual 35, 3) := by decide +kernel
theorem dX0_wonAgain_4 : decode cX0_wonAgain 4 = .ok (.istore_n 2, 1) := by decide +kernel
theorem dX0_wonAgain_5 : decode cX0_wonAgain 5 = .ok (.iconst 0, 1) := by decide +kernel
theorem dX0_wonAgain_6 : decode cX0_wonAgain 6 = .ok (.istore_n 3, 1) := by decide +kernel
theorem dX0_wonAgain_7 : decode cX0_wonAgain 7 = .ok (.iload_n 3, 1) := by decide +kernel
theorem dX0_wonAgain_8 : decode cX0_wonAgain 8 = .ok (.bipush 12, 2) := by decide +kernel
theorem dX0_wonAgain_10 : decode cX0_wonAgain 10 = .ok (.if_icmp .ge 39, 3) := by decide +kernel
theorem dX0_wonAgain_13 : decode cX0_wonAgain 13 = .ok (.aload_n 0, 1) := by decide +kernel
theorem dX0_wonAgain_14 : decode cX0_wonAgain 14 = .ok (.aload_n 0, 1) := by decide +kernel
theorem dX0_wonAgain_15 : decode cX0_wonAgain 15 = .ok (.getfield 22, 3) := by decide +kernel
theorem dX0_wonAgain_18 : decode cX0_wonAgain 18 = .ok (.aload_n 0, 1) := by decide +kernel
theorem dX0_wonAgain_19 : decode cX0_wonAgain 19 = .ok (.iload_n 2, 1) := by decide +kernel
theorem dX0_wonAgain_20 : decode cX0_wonAgain 20 = .ok (.iload_n 1, 1) := by decide +kernel
theorem dX0_wonAgain_21 : decode cX0_wonAgain 21 = .ok (.invokevirtual 55, 3) := by decide +kernel
theorem dX0_wonAgain_24 : decode cX0_wonAgain 24 = .ok (.iand, 1) := by decide +kernel
theorem dX0_wonAgain_25 : decode cX0_wonAgain 25 = .ok (.iload_n 1, 1) := by decide +kernel
theorem dX0_wonAgain_26 : decode cX0_wonAgain 26 = .ok (.invokevirtual 59, 3) := by decide +kernel
theorem dX0_wonAgain_29 : decode cX0_wonAgain 29 = .ok (.istore 4, 2) := by decide +kernel
theorem dX0_wonAgain_31 : decode cX0_wonAgain 31 = .ok (.iload 4, 2) := by decide +kernel
theorem dX0_wonAgain_33 : decode cX0_wonAgain 33 = .ok (.iload_n 2, 1) := by decide +kernel
theorem dX0_wonAgain_34 : decode cX0_wonAgain 34 = .ok (.if_icmp .ne 6, 3) := by decide +kernel
theorem dX0_wonAgain_37 : decode cX0_wonAgain 37 = .ok (.goto 12, 3) := by decide +kernel
theorem dX0_wonAgain_40 : decode cX0_wonAgain 40 = .ok (.iload 4, 2) := by decide +kernel
theorem dX0_wonAgain_42 : decode cX0_wonAgain 42 = .ok (.istore_n 2, 1) := by decide +kernel
theorem dX0_wonAgain_43 : decode cX0_wonAgain 43 = .ok (.iinc 3 1, 3) := by decide +kernel
theorem dX0_wonAgain_46 : decode cX0_wonAgain 46 = .ok (.goto (-39), 3) := by decide +kernel
theorem dX0_wonAgain_49 : decode cX0_wonAgain 49 = .ok (.iload_n 2, 1) := by decide +kernel
theorem dX0_wonAgain_50 : decode cX0_wonAgain 50 = .ok (.ireturn, 1) := by decide +kernel
set_option maxRecDepth 20000 in
theorem ggX0_wonRankedByZero_X0_all : GoodIn wsX0_wonRankedByZero wsX0_all := goodIn_rc _ [(0, 7), (0, 8), (0, 19), (0, 20), (0, 21), (0, 22), (0, 23), (0, 24)] (by rfl) (by decide +kernel)
set_option maxRecDepth 20000 in
theorem gX0_wonRankedByZero_X0_all : GoodIn wsX0_wonRankedByZero (wsV RX0 35 RX0 yX0_all wsX0_all) := goodIn_app (goodIn_of _ (by decide +kernel)) ggX0_wonRankedByZero_X0_all
set_option maxRecDepth 20000 in
theorem ggX0_wonRankedByZero_X0_seenBefore : GoodIn wsX0_wonRankedByZero wsX0_seenBefore := goodIn_rc _ [(0, 12), (0, 8), (0, 13), (0, 14), (0, 19), (0, 20), (0, 21), (0, 22), (0, 23), (0, 24)] (by rfl) (by decide +kernel)
set_option maxRecDepth 20000 in
theorem gX0_wonRankedByZero_X0_seenBefore : GoodIn wsX0_wonRankedByZero (wsV RX0 55 RX0 yX0_seenBefore wsX0_seenBefore) := goodIn_app (goodIn_of _ (by decide +kernel)) ggX0_wonRankedByZero_X0_seenBefore
set_option maxRecDepth 20000 in
theorem ggX0_wonRankedByZero_X0_holdingRankTwo : GoodIn wsX0_wonRankedByZero wsX0_holdingRankTwo := goodIn_rc _ [(0, 18), (0, 1), (0, 2), (0, 3), (0, 4), (0, 5), (0, 6), (0, 7), (0, 8), (0, 9), (0, 10), (0, 11), (0, 12), (0, 13), (0, 14), (0, 19), (0, 20), (0, 21), (0, 22), (0, 23), (0, 24)] (by rfl) (by decide +kernel)
set_option maxRecDepth 20000 in
theorem gX0_wonRankedByZero_X0_holdingRankTwo : GoodIn wsX0_wonRankedByZero (wsV RX0 62 RX0 yX0_holdingRankTwo wsX0_holdingRankTwo) := goodIn_app (goodIn_of _ (by decide +kernel)) ggX0_wonRankedByZero_X0_holdingRankTwo
theorem dX0_wonRankedByZero_0 : decode cX0_wonRankedByZero 0 = .ok (.aload_n 0, 1) := by decide +kernel
theorem dX0_wonRankedByZero_1 : decode cX0_wonRankedByZero 1 = .ok (.invokevirtual 35, 3) := by decide +kernel
theorem dX0_wonRankedByZero_4 : decode cX0_wonRankedByZero 4 = .ok (.istore_n 1, 1) := by decide +kernel
theorem dX0_wonRankedByZero_5 : decode cX0_wonRankedByZero 5 = .ok (.iconst 0, 1) := by decide +kernel
theorem dX0_wonRankedByZero_6 : decode cX0_wonRankedByZero 6 = .ok (.istore_n 2, 1) := by decide +kernel
theorem dX0_wonRankedByZero_7 : decode cX0_wonRankedByZero 7 = .ok (.iload_n 2, 1) := by decide +kernel
theorem dX0_wonRankedByZero_8 : decode cX0_wonRankedByZero 8 = .ok (.bipush 12, 2) := by decide +kernel
theorem dX0_wonRankedByZero_10 : decode cX0_wonRankedByZero 10 = .ok (.if_icmp .ge 86, 3) := by decide +kernel
theorem dX0_wonRankedByZero_13 : decode cX0_wonRankedByZero 13 = .ok (.aload_n 0, 1) := by decide +kernel
theorem dX0_wonRankedByZero_14 : decode cX0_wonRankedByZero 14 = .ok (.getfield 25, 3) := by decide +kernel
theorem dX0_wonRankedByZero_17 : decode cX0_wonRankedByZero 17 = .ok (.aload_n 0, 1) := by decide +kernel
theorem dX0_wonRankedByZero_18 : decode cX0_wonRankedByZero 18 = .ok (.iload_n 1, 1) := by decide +kernel
theorem dX0_wonRankedByZero_19 : decode cX0_wonRankedByZero 19 = .ok (.iconst 0, 1) := by decide +kernel
theorem dX0_wonRankedByZero_20 : decode cX0_wonRankedByZero 20 = .ok (.invokevirtual 55, 3) := by decide +kernel
theorem dX0_wonRankedByZero_23 : decode cX0_wonRankedByZero 23 = .ok (.iand, 1) := by decide +kernel
theorem dX0_wonRankedByZero_24 : decode cX0_wonRankedByZero 24 = .ok (.istore_n 3, 1) := by decide +kernel
theorem dX0_wonRankedByZero_25 : decode cX0_wonRankedByZero 25 = .ok (.iconst 0, 1) := by decide +kernel
theorem dX0_wonRankedByZero_26 : decode cX0_wonRankedByZero 26 = .ok (.istore 4, 2) := by decide +kernel
theorem dX0_wonRankedByZero_28 : decode cX0_wonRankedByZero 28 = .ok (.iconst 0, 1) := by decide +kernel
theorem dX0_wonRankedByZero_29 : decode cX0_wonRankedByZero 29 = .ok (.istore 5, 2) := by decide +kernel
theorem dX0_wonRankedByZero_31 : decode cX0_wonRankedByZero 31 = .ok (.iload 5, 2) := by decide +kernel
theorem dX0_wonRankedByZero_33 : decode cX0_wonRankedByZero 33 = .ok (.bipush 12, 2) := by decide +kernel
theorem dX0_wonRankedByZero_35 : decode cX0_wonRankedByZero 35 = .ok (.if_icmp .ge 43, 3) := by decide +kernel
theorem dX0_wonRankedByZero_38 : decode cX0_wonRankedByZero 38 = .ok (.aload_n 0, 1) := by decide +kernel
theorem dX0_wonRankedByZero_39 : decode cX0_wonRankedByZero 39 = .ok (.iload_n 3, 1) := by decide +kernel
theorem dX0_wonRankedByZero_40 : decode cX0_wonRankedByZero 40 = .ok (.aload_n 0, 1) := by decide +kernel
theorem dX0_wonRankedByZero_41 : decode cX0_wonRankedByZero 41 = .ok (.getfield 28, 3) := by decide +kernel
theorem dX0_wonRankedByZero_44 : decode cX0_wonRankedByZero 44 = .ok (.aload_n 0, 1) := by decide +kernel
theorem dX0_wonRankedByZero_45 : decode cX0_wonRankedByZero 45 = .ok (.iload 4, 2) := by decide +kernel
theorem dX0_wonRankedByZero_47 : decode cX0_wonRankedByZero 47 = .ok (.iconst 0, 1) := by decide +kernel
theorem dX0_wonRankedByZero_48 : decode cX0_wonRankedByZero 48 = .ok (.invokevirtual 55, 3) := by decide +kernel
theorem dX0_wonRankedByZero_51 : decode cX0_wonRankedByZero 51 = .ok (.iand, 1) := by decide +kernel
theorem dX0_wonRankedByZero_52 : decode cX0_wonRankedByZero 52 = .ok (.ior, 1) := by decide +kernel
theorem dX0_wonRankedByZero_53 : decode cX0_wonRankedByZero 53 = .ok (.invokevirtual 62, 3) := by decide +kernel
theorem dX0_wonRankedByZero_56 : decode cX0_wonRankedByZero 56 = .ok (.istore 6, 2) := by decide +kernel
theorem dX0_wonRankedByZero_58 : decode cX0_wonRankedByZero 58 = .ok (.iload 6, 2) := by decide +kernel
theorem dX0_wonRankedByZero_60 : decode cX0_wonRankedByZero 60 = .ok (.iload 4, 2) := by decide +kernel
theorem dX0_wonRankedByZero_62 : decode cX0_wonRankedByZero 62 = .ok (.if_icmp .ne 6, 3) := by decide +kernel
theorem dX0_wonRankedByZero_65 : decode cX0_wonRankedByZero 65 = .ok (.goto 13, 3) := by decide +kernel
theorem dX0_wonRankedByZero_68 : decode cX0_wonRankedByZero 68 = .ok (.iload 6, 2) := by decide +kernel
theorem dX0_wonRankedByZero_70 : decode cX0_wonRankedByZero 70 = .ok (.istore 4, 2) := by decide +kernel
theorem dX0_wonRankedByZero_72 : decode cX0_wonRankedByZero 72 = .ok (.iinc 5 1, 3) := by decide +kernel
theorem dX0_wonRankedByZero_75 : decode cX0_wonRankedByZero 75 = .ok (.goto (-44), 3) := by decide +kernel
theorem dX0_wonRankedByZero_78 : decode cX0_wonRankedByZero 78 = .ok (.iload 4, 2) := by decide +kernel
theorem dX0_wonRankedByZero_80 : decode cX0_wonRankedByZero 80 = .ok (.iload_n 1, 1) := by decide +kernel
theorem dX0_wonRankedByZero_81 : decode cX0_wonRankedByZero 81 = .ok (.if_icmp .ne 6, 3) := by decide +kernel
theorem dX0_wonRankedByZero_84 : decode cX0_wonRankedByZero 84 = .ok (.goto 12, 3) := by decide +kernel
theorem dX0_wonRankedByZero_87 : decode cX0_wonRankedByZero 87 = .ok (.iload 4, 2) := by decide +kernel
theorem dX0_wonRankedByZero_89 : decode cX0_wonRankedByZero 89 = .ok (.istore_n 1, 1) := by decide +kernel
theorem dX0_wonRankedByZero_90 : decode cX0_wonRankedByZero 90 = .ok (.iinc 2 1, 3) := by decide +kernel
theorem dX0_wonRankedByZero_93 : decode cX0_wonRankedByZero 93 = .ok (.goto (-86), 3) := by decide +kernel
theorem dX0_wonRankedByZero_96 : decode cX0_wonRankedByZero 96 = .ok (.iload_n 1, 1) := by decide +kernel
theorem dX0_wonRankedByZero_97 : decode cX0_wonRankedByZero 97 = .ok (.ireturn, 1) := by decide +kernel
set_option maxRecDepth 20000 in
theorem ggX0_holdingRankTwo_X0_all : GoodIn wsX0_holdingRankTwo wsX0_all := goodIn_rc _ [(0, 7), (0, 8), (0, 15), (0, 16), (0, 17), (0, 18), (0, 19), (0, 20)] (by rfl) (by decide +kernel)
set_option maxRecDepth 20000 in
theorem gX0_holdingRankTwo_X0_all : GoodIn wsX0_holdingRankTwo (wsV RX0 35 RX0 yX0_all wsX0_all) := goodIn_app (goodIn_of _ (by decide +kernel)) ggX0_holdingRankTwo_X0_all
set_option maxRecDepth 20000 in
theorem ggX0_holdingRankTwo_X0_seenBefore : GoodIn wsX0_holdingRankTwo wsX0_seenBefore := goodIn_rc _ [(0, 12), (0, 8), (0, 13), (0, 14), (0, 15), (0, 16), (0, 17), (0, 18), (0, 19), (0, 20)] (by rfl) (by decide +kernel)
set_option maxRecDepth 20000 in
theorem gX0_holdingRankTwo_X0_seenBefore : GoodIn wsX0_holdingRankTwo (wsV RX0 55 RX0 yX0_seenBefore wsX0_seenBefore) := goodIn_app (goodIn_of _ (by decide +kernel)) ggX0_holdingRankTwo_X0_seenBefore
theorem dX0_holdingRankTwo_0 : decode cX0_holdingRankTwo 0 = .ok (.aload_n 0, 1) := by decide +kernel
theorem dX0_holdingRankTwo_1 : decode cX0_holdingRankTwo 1 = .ok (.invokevirtual 35, 3) := by decide +kernel
theorem dX0_holdingRankTwo_4 : decode cX0_holdingRankTwo 4 = .ok (.aload_n 0, 1) := by decide +kernel
theorem dX0_holdingRankTwo_5 : decode cX0_holdingRankTwo 5 = .ok (.getfield 25, 3) := by decide +kernel
theorem dX0_holdingRankTwo_8 : decode cX0_holdingRankTwo 8 = .ok (.aload_n 0, 1) := by decide +kernel
theorem dX0_holdingRankTwo_9 : decode cX0_holdingRankTwo 9 = .ok (.getfield 28, 3) := by decide +kernel
theorem dX0_holdingRankTwo_12 : decode cX0_holdingRankTwo 12 = .ok (.ior, 1) := by decide +kernel
theorem dX0_holdingRankTwo_13 : decode cX0_holdingRankTwo 13 = .ok (.iconst (-1), 1) := by decide +kernel
theorem dX0_holdingRankTwo_14 : decode cX0_holdingRankTwo 14 = .ok (.ixor, 1) := by decide +kernel
theorem dX0_holdingRankTwo_15 : decode cX0_holdingRankTwo 15 = .ok (.iand, 1) := by decide +kernel
theorem dX0_holdingRankTwo_16 : decode cX0_holdingRankTwo 16 = .ok (.istore_n 2, 1) := by decide +kernel
theorem dX0_holdingRankTwo_17 : decode cX0_holdingRankTwo 17 = .ok (.aload_n 0, 1) := by decide +kernel
theorem dX0_holdingRankTwo_18 : decode cX0_holdingRankTwo 18 = .ok (.invokevirtual 35, 3) := by decide +kernel
theorem dX0_holdingRankTwo_21 : decode cX0_holdingRankTwo 21 = .ok (.istore_n 3, 1) := by decide +kernel
theorem dX0_holdingRankTwo_22 : decode cX0_holdingRankTwo 22 = .ok (.iconst 0, 1) := by decide +kernel
theorem dX0_holdingRankTwo_23 : decode cX0_holdingRankTwo 23 = .ok (.istore 4, 2) := by decide +kernel
theorem dX0_holdingRankTwo_25 : decode cX0_holdingRankTwo 25 = .ok (.iload 4, 2) := by decide +kernel
theorem dX0_holdingRankTwo_27 : decode cX0_holdingRankTwo 27 = .ok (.bipush 12, 2) := by decide +kernel
theorem dX0_holdingRankTwo_29 : decode cX0_holdingRankTwo 29 = .ok (.if_icmp .ge 33, 3) := by decide +kernel
theorem dX0_holdingRankTwo_32 : decode cX0_holdingRankTwo 32 = .ok (.iload_n 1, 1) := by decide +kernel
theorem dX0_holdingRankTwo_33 : decode cX0_holdingRankTwo 33 = .ok (.iload_n 2, 1) := by decide +kernel
theorem dX0_holdingRankTwo_34 : decode cX0_holdingRankTwo 34 = .ok (.aload_n 0, 1) := by decide +kernel
theorem dX0_holdingRankTwo_35 : decode cX0_holdingRankTwo 35 = .ok (.iload_n 3, 1) := by decide +kernel
theorem dX0_holdingRankTwo_36 : decode cX0_holdingRankTwo 36 = .ok (.iconst 0, 1) := by decide +kernel
theorem dX0_holdingRankTwo_37 : decode cX0_holdingRankTwo 37 = .ok (.invokevirtual 55, 3) := by decide +kernel
theorem dX0_holdingRankTwo_40 : decode cX0_holdingRankTwo 40 = .ok (.iand, 1) := by decide +kernel
theorem dX0_holdingRankTwo_41 : decode cX0_holdingRankTwo 41 = .ok (.ior, 1) := by decide +kernel
theorem dX0_holdingRankTwo_42 : decode cX0_holdingRankTwo 42 = .ok (.istore 5, 2) := by decide +kernel
theorem dX0_holdingRankTwo_44 : decode cX0_holdingRankTwo 44 = .ok (.iload 5, 2) := by decide +kernel
theorem dX0_holdingRankTwo_46 : decode cX0_holdingRankTwo 46 = .ok (.iload_n 3, 1) := by decide +kernel
theorem dX0_holdingRankTwo_47 : decode cX0_holdingRankTwo 47 = .ok (.if_icmp .ne 6, 3) := by decide +kernel
theorem dX0_holdingRankTwo_50 : decode cX0_holdingRankTwo 50 = .ok (.goto 12, 3) := by decide +kernel
theorem dX0_holdingRankTwo_53 : decode cX0_holdingRankTwo 53 = .ok (.iload 5, 2) := by decide +kernel
theorem dX0_holdingRankTwo_55 : decode cX0_holdingRankTwo 55 = .ok (.istore_n 3, 1) := by decide +kernel
theorem dX0_holdingRankTwo_56 : decode cX0_holdingRankTwo 56 = .ok (.iinc 4 1, 3) := by decide +kernel
theorem dX0_holdingRankTwo_59 : decode cX0_holdingRankTwo 59 = .ok (.goto (-34), 3) := by decide +kernel
theorem dX0_holdingRankTwo_62 : decode cX0_holdingRankTwo 62 = .ok (.iload_n 3, 1) := by decide +kernel
theorem dX0_holdingRankTwo_63 : decode cX0_holdingRankTwo 63 = .ok (.ireturn, 1) := by decide +kernel
set_option maxRecDepth 20000 in
theorem ggX0_won_X0_reaching : GoodIn wsX0_won wsX0_reaching := goodIn_rc _ [(0, 6), (0, 7), (0, 8), (0, 9), (0, 5), (0, 10), (0, 11), (0, 12), (0, 13), (1, 0), (1, 1), (1, 2), (1, 3), (1, 4), (1, 5)] (by rfl) (by decide +kernel)
set_option maxRecDepth 20000 in
theorem gX0_won_X0_reaching : GoodIn wsX0_won (wsV RX0 59 RX0 yX0_reaching wsX0_reaching) := goodIn_app (goodIn_of _ (by decide +kernel)) ggX0_won_X0_reaching
set_option maxRecDepth 20000 in
theorem ggX0_won_X0_all : GoodIn wsX0_won wsX0_all := goodIn_rc _ [(0, 17), (0, 11), (1, 0), (1, 1), (1, 2), (1, 3), (1, 4), (1, 5)] (by rfl) (by decide +kernel)
set_option maxRecDepth 20000 in
theorem gX0_won_X0_all : GoodIn wsX0_won (wsV RX0 35 RX0 yX0_all wsX0_all) := goodIn_app (goodIn_of _ (by decide +kernel)) ggX0_won_X0_all
set_option maxRecDepth 20000 in
theorem ggX0_won_X0_wonAgain : GoodIn wsX0_won wsX0_wonAgain := goodIn_rc _ [(0, 21), (0, 1), (0, 14), (0, 15), (0, 16), (0, 5), (0, 17), (0, 11), (0, 7), (0, 8), (0, 9), (0, 10), (0, 12), (0, 13), (0, 2), (0, 3), (0, 4), (0, 6), (1, 0), (1, 1), (1, 2), (1, 3), (1, 4), (1, 5)] (by rfl) (by decide +kernel)
set_option maxRecDepth 20000 in
theorem gX0_won_X0_wonAgain : GoodIn wsX0_won (wsV RX0 65 RX0 yX0_wonAgain wsX0_wonAgain) := goodIn_app (goodIn_of _ (by decide +kernel)) ggX0_won_X0_wonAgain
set_option maxRecDepth 20000 in
theorem ggX0_won_X0_wonRankedByZero : GoodIn wsX0_won wsX0_wonRankedByZero := goodIn_rc _ [(0, 25), (0, 26), (0, 27), (0, 14), (0, 15), (0, 16), (0, 5), (0, 17), (0, 11), (0, 7), (0, 8), (0, 9), (0, 10), (0, 12), (0, 13), (0, 28), (0, 29), (0, 30), (0, 31), (1, 0), (1, 1), (1, 2), (1, 3), (1, 4), (1, 5)] (by rfl) (by decide +kernel)
set_option maxRecDepth 20000 in
theorem gX0_won_X0_wonRankedByZero : GoodIn wsX0_won (wsV RX0 68 RX0 yX0_wonRankedByZero wsX0_wonRankedByZero) := goodIn_app (goodIn_of _ (by decide +kernel)) ggX0_won_X0_wonRankedByZero
theorem dX0_won_0 : decode cX0_won 0 = .ok (.iload_n 1, 1) := by decide +kernel
theorem dX0_won_1 : decode cX0_won 1 = .ok (.tableswitch 62 0 2 #[27, 37, 56], 27) := by decide +kernel
theorem dX0_won_28 : decode cX0_won 28 = .ok (.aload_n 0, 1) := by decide +kernel
theorem dX0_won_29 : decode cX0_won 29 = .ok (.aload_n 0, 1) := by decide +kernel
theorem dX0_won_30 : decode cX0_won 30 = .ok (.getfield 22, 3) := by decide +kernel
theorem dX0_won_33 : decode cX0_won 33 = .ok (.iload_n 2, 1) := by decide +kernel
theorem dX0_won_34 : decode cX0_won 34 = .ok (.invokevirtual 59, 3) := by decide +kernel
theorem dX0_won_37 : decode cX0_won 37 = .ok (.ireturn, 1) := by decide +kernel
theorem dX0_won_38 : decode cX0_won 38 = .ok (.aload_n 0, 1) := by decide +kernel
theorem dX0_won_39 : decode cX0_won 39 = .ok (.invokevirtual 35, 3) := by decide +kernel
theorem dX0_won_42 : decode cX0_won 42 = .ok (.aload_n 0, 1) := by decide +kernel
theorem dX0_won_43 : decode cX0_won 43 = .ok (.aload_n 0, 1) := by decide +kernel
theorem dX0_won_44 : decode cX0_won 44 = .ok (.getfield 22, 3) := by decide +kernel
theorem dX0_won_47 : decode cX0_won 47 = .ok (.iconst 1, 1) := by decide +kernel
theorem dX0_won_48 : decode cX0_won 48 = .ok (.iload_n 2, 1) := by decide +kernel
theorem dX0_won_49 : decode cX0_won 49 = .ok (.isub, 1) := by decide +kernel
theorem dX0_won_50 : decode cX0_won 50 = .ok (.invokevirtual 59, 3) := by decide +kernel
theorem dX0_won_53 : decode cX0_won 53 = .ok (.iconst (-1), 1) := by decide +kernel
theorem dX0_won_54 : decode cX0_won 54 = .ok (.ixor, 1) := by decide +kernel
theorem dX0_won_55 : decode cX0_won 55 = .ok (.iand, 1) := by decide +kernel
theorem dX0_won_56 : decode cX0_won 56 = .ok (.ireturn, 1) := by decide +kernel
theorem dX0_won_57 : decode cX0_won 57 = .ok (.aload_n 0, 1) := by decide +kernel
theorem dX0_won_58 : decode cX0_won 58 = .ok (.iload_n 2, 1) := by decide +kernel
theorem dX0_won_59 : decode cX0_won 59 = .ok (.invokevirtual 65, 3) := by decide +kernel
theorem dX0_won_62 : decode cX0_won 62 = .ok (.ireturn, 1) := by decide +kernel
theorem dX0_won_63 : decode cX0_won 63 = .ok (.iload_n 2, 1) := by decide +kernel
theorem dX0_won_64 : decode cX0_won 64 = .ok (.ifCond .ne 10, 3) := by decide +kernel
theorem dX0_won_67 : decode cX0_won 67 = .ok (.aload_n 0, 1) := by decide +kernel
theorem dX0_won_68 : decode cX0_won 68 = .ok (.invokevirtual 68, 3) := by decide +kernel
theorem dX0_won_71 : decode cX0_won 71 = .ok (.goto 14, 3) := by decide +kernel
theorem dX0_won_74 : decode cX0_won 74 = .ok (.aload_n 0, 1) := by decide +kernel
theorem dX0_won_75 : decode cX0_won 75 = .ok (.invokevirtual 35, 3) := by decide +kernel
theorem dX0_won_78 : decode cX0_won 78 = .ok (.aload_n 0, 1) := by decide +kernel
theorem dX0_won_79 : decode cX0_won 79 = .ok (.invokevirtual 68, 3) := by decide +kernel
theorem dX0_won_82 : decode cX0_won 82 = .ok (.iconst (-1), 1) := by decide +kernel
theorem dX0_won_83 : decode cX0_won 83 = .ok (.ixor, 1) := by decide +kernel
theorem dX0_won_84 : decode cX0_won 84 = .ok (.iand, 1) := by decide +kernel
theorem dX0_won_85 : decode cX0_won 85 = .ok (.ireturn, 1) := by decide +kernel
set_option maxRecDepth 20000 in
theorem ggX0_pick_X0_won : GoodIn wsX0_pick wsX0_won := goodIn_rc _ [(0, 5), (0, 6), (0, 7), (0, 8), (0, 9), (0, 4), (0, 10), (0, 11), (0, 12), (0, 13), (0, 14), (0, 15), (0, 16), (0, 17), (0, 18), (0, 19), (0, 20), (0, 21), (0, 22), (0, 23), (0, 24), (0, 25), (0, 26), (0, 27), (0, 28), (0, 29), (0, 30), (0, 31), (1, 0), (1, 1), (1, 2), (1, 3), (1, 29), (1, 30), (1, 31), (2, 0), (2, 1), (2, 2)] (by rfl) (by decide +kernel)
set_option maxRecDepth 20000 in
theorem gX0_pick_X0_won : GoodIn wsX0_pick (wsV RX0 71 RX0 yX0_won wsX0_won) := goodIn_app (goodIn_of _ (by decide +kernel)) ggX0_pick_X0_won
set_option maxRecDepth 20000 in
theorem ggX0_pick_X0_pickWithin : GoodIn wsX0_pick wsX0_pickWithin := goodIn_rc _ [(1, 7), (0, 6), (1, 8), (1, 9), (1, 10), (0, 4), (1, 11), (0, 17), (0, 18), (0, 19), (0, 20), (0, 21), (0, 15), (1, 12), (1, 13), (1, 14), (1, 15), (1, 16), (1, 17), (1, 18), (0, 16), (1, 19), (1, 20), (1, 21), (1, 22), (1, 23), (1, 24), (1, 25), (1, 26), (1, 27), (1, 28), (0, 11), (0, 12), (0, 13), (0, 14), (1, 29), (1, 30), (1, 31), (2, 0), (2, 1), (2, 2)] (by rfl) (by decide +kernel)
set_option maxRecDepth 20000 in
theorem gX0_pick_X0_pickWithin : GoodIn wsX0_pick (wsV RX0 74 RX0 yX0_pickWithin wsX0_pickWithin) := goodIn_app (goodIn_of _ (by decide +kernel)) ggX0_pick_X0_pickWithin
theorem dX0_pick_0 : decode cX0_pick 0 = .ok (.aload_n 0, 1) := by decide +kernel
theorem dX0_pick_1 : decode cX0_pick 1 = .ok (.iload_n 1, 1) := by decide +kernel
theorem dX0_pick_2 : decode cX0_pick 2 = .ok (.iload_n 2, 1) := by decide +kernel
theorem dX0_pick_3 : decode cX0_pick 3 = .ok (.iload_n 3, 1) := by decide +kernel
theorem dX0_pick_4 : decode cX0_pick 4 = .ok (.aload_n 0, 1) := by decide +kernel
theorem dX0_pick_5 : decode cX0_pick 5 = .ok (.iload_n 1, 1) := by decide +kernel
theorem dX0_pick_6 : decode cX0_pick 6 = .ok (.iload_n 2, 1) := by decide +kernel
theorem dX0_pick_7 : decode cX0_pick 7 = .ok (.invokevirtual 71, 3) := by decide +kernel
theorem dX0_pick_10 : decode cX0_pick 10 = .ok (.invokevirtual 74, 3) := by decide +kernel
theorem dX0_pick_13 : decode cX0_pick 13 = .ok (.ireturn, 1) := by decide +kernel
set_option maxRecDepth 20000 in
theorem ggX0_pickWithin_X0_placesOf : GoodIn wsX0_pickWithin wsX0_placesOf := goodIn_rc _ [(0, 6), (0, 7), (0, 8), (0, 9), (0, 10), (0, 5), (0, 11), (0, 12), (1, 3), (1, 4), (1, 5), (1, 6), (1, 7), (1, 8)] (by rfl) (by decide +kernel)
set_option maxRecDepth 20000 in
theorem gX0_pickWithin_X0_placesOf : GoodIn wsX0_pickWithin (wsV RX0 78 RX0 yX0_placesOf wsX0_placesOf) := goodIn_app (goodIn_of _ (by decide +kernel)) ggX0_pickWithin_X0_placesOf
set_option maxRecDepth 20000 in
theorem ggX0_pickWithin_X1_has : GoodIn wsX0_pickWithin wsX1_has := goodIn_rc _ [(0, 15)] (by rfl) (by decide +kernel)
set_option maxRecDepth 20000 in
theorem gX0_pickWithin_X1_has_n39 : GoodIn wsX0_pickWithin (wsX1_has) := ggX0_pickWithin_X1_has
set_option maxRecDepth 20000 in
theorem ggX0_pickWithin_X0_waysFrom : GoodIn wsX0_pickWithin wsX0_waysFrom := goodIn_rc _ [(0, 19), (0, 20), (1, 3), (1, 4), (1, 5), (1, 6), (1, 7), (1, 8)] (by rfl) (by decide +kernel)
set_option maxRecDepth 20000 in
theorem gX0_pickWithin_X0_waysFrom : GoodIn wsX0_pickWithin (wsV RX0 31 RX0 yX0_waysFrom wsX0_waysFrom) := goodIn_app (goodIn_of _ (by decide +kernel)) ggX0_pickWithin_X0_waysFrom
set_option maxRecDepth 20000 in
theorem ggX0_pickWithin_X1_least : GoodIn wsX0_pickWithin wsX1_least := goodIn_rc _ [(0, 22), (0, 23), (0, 24), (0, 14), (0, 25), (0, 26), (0, 13), (0, 15)] (by rfl) (by decide +kernel)
set_option maxRecDepth 20000 in
theorem gX0_pickWithin_X1_least_n81 : GoodIn wsX0_pickWithin (wsX1_least) := ggX0_pickWithin_X1_least
set_option maxRecDepth 20000 in
theorem ggX0_pickWithin_X0_nearer : GoodIn wsX0_pickWithin wsX0_nearer := goodIn_rc _ [(0, 30), (0, 31), (1, 0), (1, 1), (0, 5), (1, 2), (0, 12), (0, 20), (0, 7), (0, 13), (0, 14), (0, 15), (1, 3), (1, 4), (1, 5), (1, 6), (1, 7), (1, 8)] (by rfl) (by decide +kernel)
set_option maxRecDepth 20000 in
theorem gX0_pickWithin_X0_nearer : GoodIn wsX0_pickWithin (wsV RX0 84 RX0 yX0_nearer wsX0_nearer) := goodIn_app (goodIn_of _ (by decide +kernel)) ggX0_pickWithin_X0_nearer
theorem dX0_pickWithin_0 : decode cX0_pickWithin 0 = .ok (.iload 4, 2) := by decide +kernel
theorem dX0_pickWithin_2 : decode cX0_pickWithin 2 = .ok (.aload_n 0, 1) := by decide +kernel
theorem dX0_pickWithin_3 : decode cX0_pickWithin 3 = .ok (.iload_n 2, 1) := by decide +kernel
theorem dX0_pickWithin_4 : decode cX0_pickWithin 4 = .ok (.invokevirtual 78, 3) := by decide +kernel
theorem dX0_pickWithin_7 : decode cX0_pickWithin 7 = .ok (.iand, 1) := by decide +kernel
theorem dX0_pickWithin_8 : decode cX0_pickWithin 8 = .ok (.iload_n 3, 1) := by decide +kernel
theorem dX0_pickWithin_9 : decode cX0_pickWithin 9 = .ok (.invokestatic 39, 3) := by decide +kernel
theorem dX0_pickWithin_12 : decode cX0_pickWithin 12 = .ok (.ifCond .ne 5, 3) := by decide +kernel
theorem dX0_pickWithin_15 : decode cX0_pickWithin 15 = .ok (.iconst (-1), 1) := by decide +kernel
theorem dX0_pickWithin_16 : decode cX0_pickWithin 16 = .ok (.ireturn, 1) := by decide +kernel
theorem dX0_pickWithin_17 : decode cX0_pickWithin 17 = .ok (.aload_n 0, 1) := by decide +kernel
theorem dX0_pickWithin_18 : decode cX0_pickWithin 18 = .ok (.iload_n 3, 1) := by decide +kernel
theorem dX0_pickWithin_19 : decode cX0_pickWithin 19 = .ok (.invokevirtual 31, 3) := by decide +kernel
theorem dX0_pickWithin_22 : decode cX0_pickWithin 22 = .ok (.istore 5, 2) := by decide +kernel
theorem dX0_pickWithin_24 : decode cX0_pickWithin 24 = .ok (.iload_n 1, 1) := by decide +kernel
theorem dX0_pickWithin_25 : decode cX0_pickWithin 25 = .ok (.iconst 1, 1) := by decide +kernel
theorem dX0_pickWithin_26 : decode cX0_pickWithin 26 = .ok (.if_icmp .eq 19, 3) := by decide +kernel
theorem dX0_pickWithin_29 : decode cX0_pickWithin 29 = .ok (.iload_n 1, 1) := by decide +kernel
theorem dX0_pickWithin_30 : decode cX0_pickWithin 30 = .ok (.iconst 2, 1) := by decide +kernel
theorem dX0_pickWithin_31 : decode cX0_pickWithin 31 = .ok (.if_icmp .ne 23, 3) := by decide +kernel
theorem dX0_pickWithin_34 : decode cX0_pickWithin 34 = .ok (.aload_n 0, 1) := by decide +kernel
theorem dX0_pickWithin_35 : decode cX0_pickWithin 35 = .ok (.getfield 22, 3) := by decide +kernel
theorem dX0_pickWithin_38 : decode cX0_pickWithin 38 = .ok (.iload_n 3, 1) := by decide +kernel
theorem dX0_pickWithin_39 : decode cX0_pickWithin 39 = .ok (.invokestatic 39, 3) := by decide +kernel
theorem dX0_pickWithin_42 : decode cX0_pickWithin 42 = .ok (.ifCond .eq 12, 3) := by decide +kernel
theorem dX0_pickWithin_45 : decode cX0_pickWithin 45 = .ok (.iload 5, 2) := by decide +kernel
theorem dX0_pickWithin_47 : decode cX0_pickWithin 47 = .ok (.iload 4, 2) := by decide +kernel
theorem dX0_pickWithin_49 : decode cX0_pickWithin 49 = .ok (.iand, 1) := by decide +kernel
theorem dX0_pickWithin_50 : decode cX0_pickWithin 50 = .ok (.invokestatic 81, 3) := by decide +kernel
theorem dX0_pickWithin_53 : decode cX0_pickWithin 53 = .ok (.ireturn, 1) := by decide +kernel
theorem dX0_pickWithin_54 : decode cX0_pickWithin 54 = .ok (.iload 5, 2) := by decide +kernel
theorem dX0_pickWithin_56 : decode cX0_pickWithin 56 = .ok (.aload_n 0, 1) := by decide +kernel
theorem dX0_pickWithin_57 : decode cX0_pickWithin 57 = .ok (.aload_n 0, 1) := by decide +kernel
theorem dX0_pickWithin_58 : decode cX0_pickWithin 58 = .ok (.getfield 22, 3) := by decide +kernel
theorem dX0_pickWithin_61 : decode cX0_pickWithin 61 = .ok (.iload 4, 2) := by decide +kernel
theorem dX0_pickWithin_63 : decode cX0_pickWithin 63 = .ok (.iand, 1) := by decide +kernel
theorem dX0_pickWithin_64 : decode cX0_pickWithin 64 = .ok (.iload_n 2, 1) := by decide +kernel
theorem dX0_pickWithin_65 : decode cX0_pickWithin 65 = .ok (.iload_n 3, 1) := by decide +kernel
theorem dX0_pickWithin_66 : decode cX0_pickWithin 66 = .ok (.invokevirtual 84, 3) := by decide +kernel
theorem dX0_pickWithin_69 : decode cX0_pickWithin 69 = .ok (.iand, 1) := by decide +kernel
theorem dX0_pickWithin_70 : decode cX0_pickWithin 70 = .ok (.invokestatic 81, 3) := by decide +kernel
theorem dX0_pickWithin_73 : decode cX0_pickWithin 73 = .ok (.ireturn, 1) := by decide +kernel
set_option maxRecDepth 20000 in
theorem ggX1_init_X0_init : GoodIn wsX1_init wsX0_init := goodIn_rc _ [(0, 11), (0, 12), (0, 2), (0, 3), (0, 13), (0, 14), (0, 15), (0, 16), (0, 17), (0, 18), (0, 19), (0, 20), (0, 21)] (by rfl) (by decide +kernel)
set_option maxRecDepth 20000 in
theorem gX1_init_X0_init : GoodIn wsX1_init (wsX0_init) := ggX1_init_X0_init
theorem dX1_init_0 : decode cX1_init 0 = .ok (.aload_n 0, 1) := by decide +kernel
theorem dX1_init_1 : decode cX1_init 1 = .ok (.invokespecial 1, 3) := by decide +kernel
theorem dX1_init_4 : decode cX1_init 4 = .ok (.aload_n 0, 1) := by decide +kernel
theorem dX1_init_5 : decode cX1_init 5 = .ok (.new 7, 3) := by decide +kernel
theorem dX1_init_8 : decode cX1_init 8 = .ok (.dup, 1) := by decide +kernel
theorem dX1_init_9 : decode cX1_init 9 = .ok (.invokespecial 9, 3) := by decide +kernel
theorem dX1_init_12 : decode cX1_init 12 = .ok (.putfield 10, 3) := by decide +kernel
theorem dX1_init_15 : decode cX1_init 15 = .ok (.aload_n 0, 1) := by decide +kernel
theorem dX1_init_16 : decode cX1_init 16 = .ok (.new 7, 3) := by decide +kernel
theorem dX1_init_19 : decode cX1_init 19 = .ok (.dup, 1) := by decide +kernel
theorem dX1_init_20 : decode cX1_init 20 = .ok (.invokespecial 9, 3) := by decide +kernel
theorem dX1_init_23 : decode cX1_init 23 = .ok (.putfield 16, 3) := by decide +kernel
theorem dX1_init_26 : decode cX1_init 26 = .ok (.return_, 1) := by decide +kernel
set_option maxRecDepth 20000 in
theorem ggX1_places_X1_checkBetween : GoodIn wsX1_places wsX1_checkBetween := goodIn_ca (goodIn_rc _ [(0, 8), (0, 9), (0, 10)] (by rfl) (by decide +kernel)) (goodIn_sub (fun _ h => List.mem_cons_of_mem _ (List.mem_append_right _ h)) (by decide +kernel))
set_option maxRecDepth 20000 in
theorem gX1_places_X1_checkBetween : GoodIn wsX1_places (va_wsS RX1 19 yX1_checkBetween wsX1_checkBetween) := goodIn_app (goodIn_of _ (by decide +kernel)) ggX1_places_X1_checkBetween
set_option maxRecDepth 20000 in
theorem ggX1_places_X0_clear : GoodIn wsX1_places wsX0_clear := goodIn_rc _ [(0, 15), (0, 16), (0, 17), (0, 18), (0, 19), (0, 20), (0, 21), (0, 29), (0, 30), (0, 31), (1, 0), (1, 1), (1, 2)] (by rfl) (by decide +kernel)
set_option maxRecDepth 20000 in
theorem gX1_places_X0_clear : GoodIn wsX1_places (wsV RX1 27 RX0 yX0_clear wsX0_clear) := goodIn_app (goodIn_of _ (by decide +kernel)) ggX1_places_X0_clear
theorem dX1_places_0 : decode cX1_places 0 = .ok (.iload_n 1, 1) := by decide +kernel
theorem dX1_places_1 : decode cX1_places 1 = .ok (.iconst 2, 1) := by decide +kernel
theorem dX1_places_2 : decode cX1_places 2 = .ok (.bipush 12, 2) := by decide +kernel
theorem dX1_places_4 : decode cX1_places 4 = .ok (.invokestatic 19, 3) := by decide +kernel
theorem dX1_places_7 : decode cX1_places 7 = .ok (.aload_n 0, 1) := by decide +kernel
theorem dX1_places_8 : decode cX1_places 8 = .ok (.getfield 10, 3) := by decide +kernel
theorem dX1_places_11 : decode cX1_places 11 = .ok (.getfield 23, 3) := by decide +kernel
theorem dX1_places_14 : decode cX1_places 14 = .ok (.istore_n 2, 1) := by decide +kernel
theorem dX1_places_15 : decode cX1_places 15 = .ok (.aload_n 0, 1) := by decide +kernel
theorem dX1_places_16 : decode cX1_places 16 = .ok (.getfield 10, 3) := by decide +kernel
theorem dX1_places_19 : decode cX1_places 19 = .ok (.iload_n 1, 1) := by decide +kernel
theorem dX1_places_20 : decode cX1_places 20 = .ok (.invokevirtual 27, 3) := by decide +kernel
theorem dX1_places_23 : decode cX1_places 23 = .ok (.aload_n 0, 1) := by decide +kernel
theorem dX1_places_24 : decode cX1_places 24 = .ok (.iconst 0, 1) := by decide +kernel
theorem dX1_places_25 : decode cX1_places 25 = .ok (.putfield 31, 3) := by decide +kernel
theorem dX1_places_28 : decode cX1_places 28 = .ok (.aload_n 0, 1) := by decide +kernel
theorem dX1_places_29 : decode cX1_places 29 = .ok (.iconst 0, 1) := by decide +kernel
theorem dX1_places_30 : decode cX1_places 30 = .ok (.putfield 34, 3) := by decide +kernel
theorem dX1_places_33 : decode cX1_places 33 = .ok (.aload_n 0, 1) := by decide +kernel
theorem dX1_places_34 : decode cX1_places 34 = .ok (.dup, 1) := by decide +kernel
theorem dX1_places_35 : decode cX1_places 35 = .ok (.getfield 37, 3) := by decide +kernel
theorem dX1_places_38 : decode cX1_places 38 = .ok (.iconst 1, 1) := by decide +kernel
theorem dX1_places_39 : decode cX1_places 39 = .ok (.iadd, 1) := by decide +kernel
theorem dX1_places_40 : decode cX1_places 40 = .ok (.putfield 37, 3) := by decide +kernel
theorem dX1_places_43 : decode cX1_places 43 = .ok (.iload_n 2, 1) := by decide +kernel
theorem dX1_places_44 : decode cX1_places 44 = .ok (.ireturn, 1) := by decide +kernel
set_option maxRecDepth 20000 in
theorem ggX1_give_X1_checkPlace : GoodIn wsX1_give wsX1_checkPlace := goodIn_ca (goodIn_rc _ [(0, 7), (0, 8), (0, 9), (0, 1), (0, 28), (0, 29), (0, 30), (0, 31), (1, 0), (1, 1), (1, 2), (1, 3), (1, 4), (1, 5), (1, 6), (1, 7), (1, 8)] (by rfl) (by decide +kernel)) (goodIn_sub (fun _ h => List.mem_cons_of_mem _ (List.mem_append_left _ (List.mem_append_right _ h))) (by decide +kernel))
set_option maxRecDepth 20000 in
theorem gX1_give_X1_checkPlace : GoodIn wsX1_give (wsV RX1 40 RX1 yX1_checkPlace wsX1_checkPlace) := goodIn_app (goodIn_of _ (by decide +kernel)) ggX1_give_X1_checkPlace
set_option maxRecDepth 20000 in
theorem ggX1_give_X1_checkSide : GoodIn wsX1_give wsX1_checkSide := goodIn_ca (goodIn_rc _ [(0, 12), (0, 13), (0, 14), (0, 6), (0, 15), (0, 16), (0, 17)] (by rfl) (by decide +kernel)) (goodIn_sub (fun _ h => List.mem_cons_of_mem _ (List.mem_append_right _ h)) (by decide +kernel))
set_option maxRecDepth 20000 in
theorem gX1_give_X1_checkSide : GoodIn wsX1_give (va_wsS RX1 43 yX1_checkSide wsX1_checkSide) := goodIn_app (goodIn_of _ (by decide +kernel)) ggX1_give_X1_checkSide
set_option maxRecDepth 20000 in
theorem ggX1_give_X0_sideOf : GoodIn wsX1_give wsX0_sideOf := goodIn_rc _ [(0, 22), (0, 23), (1, 3), (1, 4), (1, 5), (1, 6), (1, 7), (1, 8)] (by rfl) (by decide +kernel)
set_option maxRecDepth 20000 in
theorem gX1_give_X0_sideOf : GoodIn wsX1_give (wsV RX1 46 RX0 yX0_sideOf wsX0_sideOf) := goodIn_app (goodIn_of _ (by decide +kernel)) ggX1_give_X0_sideOf
set_option maxRecDepth 20000 in
theorem ggX1_give_X0_setSide : GoodIn wsX1_give wsX0_setSide := goodIn_rc _ [(0, 27), (0, 23), (1, 3), (1, 4), (1, 5), (1, 6), (1, 7), (1, 8)] (by rfl) (by decide +kernel)
set_option maxRecDepth 20000 in
theorem gX1_give_X0_setSide : GoodIn wsX1_give (wsV RX1 50 RX0 yX0_setSide wsX0_setSide) := goodIn_app (goodIn_of _ (by decide +kernel)) ggX1_give_X0_setSide
theorem dX1_give_0 : decode cX1_give 0 = .ok (.aload_n 0, 1) := by decide +kernel
theorem dX1_give_1 : decode cX1_give 1 = .ok (.iload_n 1, 1) := by decide +kernel
theorem dX1_give_2 : decode cX1_give 2 = .ok (.invokevirtual 40, 3) := by decide +kernel
theorem dX1_give_5 : decode cX1_give 5 = .ok (.iload_n 2, 1) := by decide +kernel
theorem dX1_give_6 : decode cX1_give 6 = .ok (.invokestatic 43, 3) := by decide +kernel
theorem dX1_give_9 : decode cX1_give 9 = .ok (.aload_n 0, 1) := by decide +kernel
theorem dX1_give_10 : decode cX1_give 10 = .ok (.getfield 10, 3) := by decide +kernel
theorem dX1_give_13 : decode cX1_give 13 = .ok (.iload_n 1, 1) := by decide +kernel
theorem dX1_give_14 : decode cX1_give 14 = .ok (.invokevirtual 46, 3) := by decide +kernel
theorem dX1_give_17 : decode cX1_give 17 = .ok (.istore_n 3, 1) := by decide +kernel
theorem dX1_give_18 : decode cX1_give 18 = .ok (.aload_n 0, 1) := by decide +kernel
theorem dX1_give_19 : decode cX1_give 19 = .ok (.getfield 10, 3) := by decide +kernel
theorem dX1_give_22 : decode cX1_give 22 = .ok (.iload_n 1, 1) := by decide +kernel
theorem dX1_give_23 : decode cX1_give 23 = .ok (.iload_n 2, 1) := by decide +kernel
theorem dX1_give_24 : decode cX1_give 24 = .ok (.invokevirtual 50, 3) := by decide +kernel
theorem dX1_give_27 : decode cX1_give 27 = .ok (.aload_n 0, 1) := by decide +kernel
theorem dX1_give_28 : decode cX1_give 28 = .ok (.dup, 1) := by decide +kernel
theorem dX1_give_29 : decode cX1_give 29 = .ok (.getfield 37, 3) := by decide +kernel
theorem dX1_give_32 : decode cX1_give 32 = .ok (.iconst 1, 1) := by decide +kernel
theorem dX1_give_33 : decode cX1_give 33 = .ok (.iadd, 1) := by decide +kernel
theorem dX1_give_34 : decode cX1_give 34 = .ok (.putfield 37, 3) := by decide +kernel
theorem dX1_give_37 : decode cX1_give 37 = .ok (.iload_n 3, 1) := by decide +kernel
theorem dX1_give_38 : decode cX1_give 38 = .ok (.ireturn, 1) := by decide +kernel
set_option maxRecDepth 20000 in
theorem ggX1_rank_X1_checkPlace : GoodIn wsX1_rank wsX1_checkPlace := goodIn_ca (goodIn_rc _ [(0, 7), (0, 8), (0, 9), (0, 1), (0, 28), (0, 29), (0, 30), (0, 31), (1, 0), (1, 1), (1, 2), (1, 3), (1, 4), (1, 5), (1, 6), (1, 7), (1, 8)] (by rfl) (by decide +kernel)) (goodIn_sub (fun _ h => List.mem_cons_of_mem _ (List.mem_append_left _ (List.mem_append_right _ h))) (by decide +kernel))
set_option maxRecDepth 20000 in
theorem gX1_rank_X1_checkPlace : GoodIn wsX1_rank (wsV RX1 40 RX1 yX1_checkPlace wsX1_checkPlace) := goodIn_app (goodIn_of _ (by decide +kernel)) ggX1_rank_X1_checkPlace
set_option maxRecDepth 20000 in
theorem ggX1_rank_X1_checkBetween : GoodIn wsX1_rank wsX1_checkBetween := goodIn_ca (goodIn_rc _ [(0, 12), (0, 13), (0, 14)] (by rfl) (by decide +kernel)) (goodIn_sub (fun _ h => List.mem_cons_of_mem _ (List.mem_append_right _ h)) (by decide +kernel))
set_option maxRecDepth 20000 in
theorem gX1_rank_X1_checkBetween : GoodIn wsX1_rank (va_wsS RX1 19 yX1_checkBetween wsX1_checkBetween) := goodIn_app (goodIn_of _ (by decide +kernel)) ggX1_rank_X1_checkBetween
set_option maxRecDepth 20000 in
theorem ggX1_rank_X0_rankOf : GoodIn wsX1_rank wsX0_rankOf := goodIn_rc _ [(0, 19), (0, 20), (0, 21), (0, 22), (0, 6), (0, 23), (1, 3), (1, 4), (1, 5), (1, 6), (1, 7), (1, 8)] (by rfl) (by decide +kernel)
set_option maxRecDepth 20000 in
theorem gX1_rank_X0_rankOf : GoodIn wsX1_rank (wsV RX1 54 RX0 yX0_rankOf wsX0_rankOf) := goodIn_app (goodIn_of _ (by decide +kernel)) ggX1_rank_X0_rankOf
set_option maxRecDepth 20000 in
theorem ggX1_rank_X0_setRank : GoodIn wsX1_rank wsX0_setRank := goodIn_rc _ [(0, 27), (0, 20), (0, 21), (1, 3), (1, 4), (1, 5), (1, 6), (1, 7), (1, 8)] (by rfl) (by decide +kernel)
set_option maxRecDepth 20000 in
theorem gX1_rank_X0_setRank : GoodIn wsX1_rank (wsV RX1 57 RX0 yX0_setRank wsX0_setRank) := goodIn_app (goodIn_of _ (by decide +kernel)) ggX1_rank_X0_setRank
theorem dX1_rank_0 : decode cX1_rank 0 = .ok (.aload_n 0, 1) := by decide +kernel
theorem dX1_rank_1 : decode cX1_rank 1 = .ok (.iload_n 1, 1) := by decide +kernel
theorem dX1_rank_2 : decode cX1_rank 2 = .ok (.invokevirtual 40, 3) := by decide +kernel
theorem dX1_rank_5 : decode cX1_rank 5 = .ok (.iload_n 2, 1) := by decide +kernel
theorem dX1_rank_6 : decode cX1_rank 6 = .ok (.iconst 0, 1) := by decide +kernel
theorem dX1_rank_7 : decode cX1_rank 7 = .ok (.iconst 2, 1) := by decide +kernel
theorem dX1_rank_8 : decode cX1_rank 8 = .ok (.invokestatic 19, 3) := by decide +kernel
theorem dX1_rank_11 : decode cX1_rank 11 = .ok (.aload_n 0, 1) := by decide +kernel
theorem dX1_rank_12 : decode cX1_rank 12 = .ok (.getfield 10, 3) := by decide +kernel
theorem dX1_rank_15 : decode cX1_rank 15 = .ok (.iload_n 1, 1) := by decide +kernel
theorem dX1_rank_16 : decode cX1_rank 16 = .ok (.invokevirtual 54, 3) := by decide +kernel
theorem dX1_rank_19 : decode cX1_rank 19 = .ok (.istore_n 3, 1) := by decide +kernel
theorem dX1_rank_20 : decode cX1_rank 20 = .ok (.aload_n 0, 1) := by decide +kernel
theorem dX1_rank_21 : decode cX1_rank 21 = .ok (.getfield 10, 3) := by decide +kernel
theorem dX1_rank_24 : decode cX1_rank 24 = .ok (.iload_n 1, 1) := by decide +kernel
theorem dX1_rank_25 : decode cX1_rank 25 = .ok (.iload_n 2, 1) := by decide +kernel
theorem dX1_rank_26 : decode cX1_rank 26 = .ok (.invokevirtual 57, 3) := by decide +kernel
theorem dX1_rank_29 : decode cX1_rank 29 = .ok (.aload_n 0, 1) := by decide +kernel
theorem dX1_rank_30 : decode cX1_rank 30 = .ok (.dup, 1) := by decide +kernel
theorem dX1_rank_31 : decode cX1_rank 31 = .ok (.getfield 37, 3) := by decide +kernel
theorem dX1_rank_34 : decode cX1_rank 34 = .ok (.iconst 1, 1) := by decide +kernel
theorem dX1_rank_35 : decode cX1_rank 35 = .ok (.iadd, 1) := by decide +kernel
theorem dX1_rank_36 : decode cX1_rank 36 = .ok (.putfield 37, 3) := by decide +kernel
theorem dX1_rank_39 : decode cX1_rank 39 = .ok (.iload_n 3, 1) := by decide +kernel
theorem dX1_rank_40 : decode cX1_rank 40 = .ok (.ireturn, 1) := by decide +kernel
set_option maxRecDepth 20000 in
theorem ggX1_goal_X1_checkSet : GoodIn wsX1_goal wsX1_checkSet := goodIn_ca (goodIn_rc _ [(0, 7), (0, 1), (0, 8), (0, 9), (0, 10), (0, 11), (0, 12), (0, 13), (0, 14), (0, 15), (0, 6), (0, 16), (0, 17), (0, 18), (0, 19), (0, 20), (0, 21), (0, 22), (0, 23), (0, 24), (0, 25), (0, 26), (0, 27), (0, 28), (0, 29), (0, 30), (0, 31)] (by rfl) (by decide +kernel)) (goodIn_sub (fun _ h => List.mem_cons_of_mem _ (List.mem_append_right _ h)) (by decide +kernel))
set_option maxRecDepth 20000 in
theorem gX1_goal_X1_checkSet : GoodIn wsX1_goal (wsV RX1 60 RX1 yX1_checkSet wsX1_checkSet) := goodIn_app (goodIn_of _ (by decide +kernel)) ggX1_goal_X1_checkSet
theorem dX1_goal_0 : decode cX1_goal 0 = .ok (.aload_n 0, 1) := by decide +kernel
theorem dX1_goal_1 : decode cX1_goal 1 = .ok (.iload_n 1, 1) := by decide +kernel
theorem dX1_goal_2 : decode cX1_goal 2 = .ok (.invokevirtual 60, 3) := by decide +kernel
theorem dX1_goal_5 : decode cX1_goal 5 = .ok (.aload_n 0, 1) := by decide +kernel
theorem dX1_goal_6 : decode cX1_goal 6 = .ok (.getfield 10, 3) := by decide +kernel
theorem dX1_goal_9 : decode cX1_goal 9 = .ok (.getfield 63, 3) := by decide +kernel
theorem dX1_goal_12 : decode cX1_goal 12 = .ok (.istore_n 2, 1) := by decide +kernel
theorem dX1_goal_13 : decode cX1_goal 13 = .ok (.aload_n 0, 1) := by decide +kernel
theorem dX1_goal_14 : decode cX1_goal 14 = .ok (.getfield 10, 3) := by decide +kernel
theorem dX1_goal_17 : decode cX1_goal 17 = .ok (.iload_n 1, 1) := by decide +kernel
theorem dX1_goal_18 : decode cX1_goal 18 = .ok (.putfield 63, 3) := by decide +kernel
theorem dX1_goal_21 : decode cX1_goal 21 = .ok (.aload_n 0, 1) := by decide +kernel
theorem dX1_goal_22 : decode cX1_goal 22 = .ok (.dup, 1) := by decide +kernel
theorem dX1_goal_23 : decode cX1_goal 23 = .ok (.getfield 37, 3) := by decide +kernel
theorem dX1_goal_26 : decode cX1_goal 26 = .ok (.iconst 1, 1) := by decide +kernel
theorem dX1_goal_27 : decode cX1_goal 27 = .ok (.iadd, 1) := by decide +kernel
theorem dX1_goal_28 : decode cX1_goal 28 = .ok (.putfield 37, 3) := by decide +kernel
theorem dX1_goal_31 : decode cX1_goal 31 = .ok (.iload_n 2, 1) := by decide +kernel
theorem dX1_goal_32 : decode cX1_goal 32 = .ok (.ireturn, 1) := by decide +kernel
set_option maxRecDepth 20000 in
theorem ggX1_way_X1_checkPlace : GoodIn wsX1_way wsX1_checkPlace := goodIn_ca (goodIn_rc _ [(0, 7), (0, 8), (0, 9), (0, 1), (1, 13), (1, 14), (1, 15), (1, 16), (1, 17), (1, 18), (1, 19), (1, 20), (1, 21), (1, 22), (1, 23), (1, 24), (1, 25)] (by rfl) (by decide +kernel)) (goodIn_sub (fun _ h => List.mem_cons_of_mem _ (List.mem_append_right _ h)) (by decide +kernel))
set_option maxRecDepth 20000 in
theorem gX1_way_X1_checkPlace : GoodIn wsX1_way (wsV RX1 40 RX1 yX1_checkPlace wsX1_checkPlace) := goodIn_app (goodIn_of _ (by decide +kernel)) ggX1_way_X1_checkPlace
set_option maxRecDepth 20000 in
theorem ggX1_way_X0_waysFrom : GoodIn wsX1_way wsX0_waysFrom := goodIn_rc _ [(0, 14), (0, 15), (1, 20), (1, 21), (1, 22), (1, 23), (1, 24), (1, 25)] (by rfl) (by decide +kernel)
set_option maxRecDepth 20000 in
theorem gX1_way_X0_waysFrom : GoodIn wsX1_way (wsV RX1 66 RX0 yX0_waysFrom wsX0_waysFrom) := goodIn_app (goodIn_of _ (by decide +kernel)) ggX1_way_X0_waysFrom
set_option maxRecDepth 20000 in
theorem ggX1_way_X1_has : GoodIn wsX1_way wsX1_has := goodIn_rc _ [(0, 18)] (by rfl) (by decide +kernel)
set_option maxRecDepth 20000 in
theorem gX1_way_X1_has : GoodIn wsX1_way (va_wsS RX1 69 yX1_has wsX1_has) := goodIn_app (goodIn_of _ (by decide +kernel)) ggX1_way_X1_has
set_option maxRecDepth 20000 in
theorem ggX1_way_X0_countWays : GoodIn wsX1_way wsX0_countWays := goodIn_rc _ [(0, 22), (0, 23), (0, 24), (0, 11), (0, 12), (0, 13), (0, 14), (0, 15), (0, 25), (0, 26), (0, 27), (0, 28), (0, 29), (0, 30), (0, 31), (1, 20), (1, 21), (1, 22), (1, 23), (1, 24), (1, 25)] (by rfl) (by decide +kernel)
set_option maxRecDepth 20000 in
theorem gX1_way_X0_countWays : GoodIn wsX1_way (wsV RX1 73 RX0 yX0_countWays wsX0_countWays) := goodIn_app (goodIn_of _ (by decide +kernel)) ggX1_way_X0_countWays
set_option maxRecDepth 20000 in
theorem ggX1_way_X1_refuse : GoodIn wsX1_way wsX1_refuse := goodIn_rc _ [(1, 3), (1, 4), (1, 13), (1, 14), (1, 15), (1, 16), (1, 17), (1, 18), (1, 19)] (by rfl) (by decide +kernel)
set_option maxRecDepth 20000 in
theorem gX1_way_X1_refuse : GoodIn wsX1_way (wsV RX1 77 RX1 yX1_refuse wsX1_refuse) := goodIn_app (goodIn_of _ (by decide +kernel)) ggX1_way_X1_refuse
set_option maxRecDepth 20000 in
theorem ggX1_way_X0_putWay : GoodIn wsX1_way wsX0_putWay := goodIn_rc _ [(1, 8), (0, 24), (0, 11), (0, 12), (0, 13), (0, 14), (0, 15), (1, 9), (1, 10), (1, 11), (1, 12), (1, 20), (1, 21), (1, 22), (1, 23), (1, 24), (1, 25)] (by rfl) (by decide +kernel)
set_option maxRecDepth 20000 in
theorem gX1_way_X0_putWay : GoodIn wsX1_way (wsV RX1 80 RX0 yX0_putWay wsX0_putWay) := goodIn_app (goodIn_of _ (by decide +kernel)) ggX1_way_X0_putWay
theorem dX1_way_0 : decode cX1_way 0 = .ok (.aload_n 0, 1) := by decide +kernel
theorem dX1_way_1 : decode cX1_way 1 = .ok (.iload_n 1, 1) := by decide +kernel
theorem dX1_way_2 : decode cX1_way 2 = .ok (.invokevirtual 40, 3) := by decide +kernel
theorem dX1_way_5 : decode cX1_way 5 = .ok (.aload_n 0, 1) := by decide +kernel
theorem dX1_way_6 : decode cX1_way 6 = .ok (.iload_n 2, 1) := by decide +kernel
theorem dX1_way_7 : decode cX1_way 7 = .ok (.invokevirtual 40, 3) := by decide +kernel
theorem dX1_way_10 : decode cX1_way 10 = .ok (.aload_n 0, 1) := by decide +kernel
theorem dX1_way_11 : decode cX1_way 11 = .ok (.getfield 10, 3) := by decide +kernel
theorem dX1_way_14 : decode cX1_way 14 = .ok (.iload_n 1, 1) := by decide +kernel
theorem dX1_way_15 : decode cX1_way 15 = .ok (.invokevirtual 66, 3) := by decide +kernel
theorem dX1_way_18 : decode cX1_way 18 = .ok (.iload_n 2, 1) := by decide +kernel
theorem dX1_way_19 : decode cX1_way 19 = .ok (.invokestatic 69, 3) := by decide +kernel
theorem dX1_way_22 : decode cX1_way 22 = .ok (.istore_n 3, 1) := by decide +kernel
theorem dX1_way_23 : decode cX1_way 23 = .ok (.iload_n 3, 1) := by decide +kernel
theorem dX1_way_24 : decode cX1_way 24 = .ok (.ifCond .ne 20, 3) := by decide +kernel
theorem dX1_way_27 : decode cX1_way 27 = .ok (.aload_n 0, 1) := by decide +kernel
theorem dX1_way_28 : decode cX1_way 28 = .ok (.getfield 10, 3) := by decide +kernel
theorem dX1_way_31 : decode cX1_way 31 = .ok (.invokevirtual 73, 3) := by decide +kernel
theorem dX1_way_34 : decode cX1_way 34 = .ok (.bipush 30, 2) := by decide +kernel
theorem dX1_way_36 : decode cX1_way 36 = .ok (.if_icmp .lt 8, 3) := by decide +kernel
theorem dX1_way_39 : decode cX1_way 39 = .ok (.aload_n 0, 1) := by decide +kernel
theorem dX1_way_40 : decode cX1_way 40 = .ok (.invokevirtual 77, 3) := by decide +kernel
theorem dX1_way_43 : decode cX1_way 43 = .ok (.ireturn, 1) := by decide +kernel
theorem dX1_way_44 : decode cX1_way 44 = .ok (.aload_n 0, 1) := by decide +kernel
theorem dX1_way_45 : decode cX1_way 45 = .ok (.getfield 10, 3) := by decide +kernel
theorem dX1_way_48 : decode cX1_way 48 = .ok (.iload_n 1, 1) := by decide +kernel
theorem dX1_way_49 : decode cX1_way 49 = .ok (.iload_n 2, 1) := by decide +kernel
theorem dX1_way_50 : decode cX1_way 50 = .ok (.invokevirtual 80, 3) := by decide +kernel
theorem dX1_way_53 : decode cX1_way 53 = .ok (.aload_n 0, 1) := by decide +kernel
theorem dX1_way_54 : decode cX1_way 54 = .ok (.dup, 1) := by decide +kernel
theorem dX1_way_55 : decode cX1_way 55 = .ok (.getfield 37, 3) := by decide +kernel
theorem dX1_way_58 : decode cX1_way 58 = .ok (.iconst 1, 1) := by decide +kernel
theorem dX1_way_59 : decode cX1_way 59 = .ok (.iadd, 1) := by decide +kernel
theorem dX1_way_60 : decode cX1_way 60 = .ok (.putfield 37, 3) := by decide +kernel
theorem dX1_way_63 : decode cX1_way 63 = .ok (.iload_n 3, 1) := by decide +kernel
theorem dX1_way_64 : decode cX1_way 64 = .ok (.ifCond .eq 7, 3) := by decide +kernel
theorem dX1_way_67 : decode cX1_way 67 = .ok (.iconst 0, 1) := by decide +kernel
theorem dX1_way_68 : decode cX1_way 68 = .ok (.goto 4, 3) := by decide +kernel
theorem dX1_way_71 : decode cX1_way 71 = .ok (.iconst 1, 1) := by decide +kernel
theorem dX1_way_72 : decode cX1_way 72 = .ok (.ireturn, 1) := by decide +kernel
set_option maxRecDepth 20000 in
theorem ggX1_lose_X1_checkPlace : GoodIn wsX1_lose wsX1_checkPlace := goodIn_ca (goodIn_rc _ [(0, 7), (0, 8), (0, 9), (0, 1), (0, 28), (0, 29), (0, 30), (0, 31), (1, 0), (1, 1), (1, 2), (1, 3), (1, 4), (1, 5), (1, 6), (1, 7), (1, 8)] (by rfl) (by decide +kernel)) (goodIn_sub (fun _ h => List.mem_cons_of_mem _ (List.mem_append_right _ h)) (by decide +kernel))
set_option maxRecDepth 20000 in
theorem gX1_lose_X1_checkPlace : GoodIn wsX1_lose (wsV RX1 40 RX1 yX1_checkPlace wsX1_checkPlace) := goodIn_app (goodIn_of _ (by decide +kernel)) ggX1_lose_X1_checkPlace
set_option maxRecDepth 20000 in
theorem ggX1_lose_X0_waysFrom : GoodIn wsX1_lose wsX0_waysFrom := goodIn_rc _ [(0, 14), (0, 15), (1, 3), (1, 4), (1, 5), (1, 6), (1, 7), (1, 8)] (by rfl) (by decide +kernel)
set_option maxRecDepth 20000 in
theorem gX1_lose_X0_waysFrom : GoodIn wsX1_lose (wsV RX1 66 RX0 yX0_waysFrom wsX0_waysFrom) := goodIn_app (goodIn_of _ (by decide +kernel)) ggX1_lose_X0_waysFrom
set_option maxRecDepth 20000 in
theorem ggX1_lose_X1_has : GoodIn wsX1_lose wsX1_has := goodIn_rc _ [(0, 18)] (by rfl) (by decide +kernel)
set_option maxRecDepth 20000 in
theorem gX1_lose_X1_has : GoodIn wsX1_lose (va_wsS RX1 69 yX1_has wsX1_has) := goodIn_app (goodIn_of _ (by decide +kernel)) ggX1_lose_X1_has
set_option maxRecDepth 20000 in
theorem ggX1_lose_X0_takeWay : GoodIn wsX1_lose wsX0_takeWay := goodIn_rc _ [(0, 22), (0, 23), (0, 11), (0, 12), (0, 13), (0, 14), (0, 15), (0, 24), (0, 25), (0, 26), (0, 27), (1, 3), (1, 4), (1, 5), (1, 6), (1, 7), (1, 8)] (by rfl) (by decide +kernel)
set_option maxRecDepth 20000 in
theorem gX1_lose_X0_takeWay : GoodIn wsX1_lose (wsV RX1 83 RX0 yX0_takeWay wsX0_takeWay) := goodIn_app (goodIn_of _ (by decide +kernel)) ggX1_lose_X0_takeWay
theorem dX1_lose_0 : decode cX1_lose 0 = .ok (.aload_n 0, 1) := by decide +kernel
theorem dX1_lose_1 : decode cX1_lose 1 = .ok (.iload_n 1, 1) := by decide +kernel
theorem dX1_lose_2 : decode cX1_lose 2 = .ok (.invokevirtual 40, 3) := by decide +kernel
theorem dX1_lose_5 : decode cX1_lose 5 = .ok (.aload_n 0, 1) := by decide +kernel
theorem dX1_lose_6 : decode cX1_lose 6 = .ok (.iload_n 2, 1) := by decide +kernel
theorem dX1_lose_7 : decode cX1_lose 7 = .ok (.invokevirtual 40, 3) := by decide +kernel
theorem dX1_lose_10 : decode cX1_lose 10 = .ok (.aload_n 0, 1) := by decide +kernel
theorem dX1_lose_11 : decode cX1_lose 11 = .ok (.getfield 10, 3) := by decide +kernel
theorem dX1_lose_14 : decode cX1_lose 14 = .ok (.iload_n 1, 1) := by decide +kernel
theorem dX1_lose_15 : decode cX1_lose 15 = .ok (.invokevirtual 66, 3) := by decide +kernel
theorem dX1_lose_18 : decode cX1_lose 18 = .ok (.iload_n 2, 1) := by decide +kernel
theorem dX1_lose_19 : decode cX1_lose 19 = .ok (.invokestatic 69, 3) := by decide +kernel
theorem dX1_lose_22 : decode cX1_lose 22 = .ok (.istore_n 3, 1) := by decide +kernel
theorem dX1_lose_23 : decode cX1_lose 23 = .ok (.aload_n 0, 1) := by decide +kernel
theorem dX1_lose_24 : decode cX1_lose 24 = .ok (.getfield 10, 3) := by decide +kernel
theorem dX1_lose_27 : decode cX1_lose 27 = .ok (.iload_n 1, 1) := by decide +kernel
theorem dX1_lose_28 : decode cX1_lose 28 = .ok (.iload_n 2, 1) := by decide +kernel
theorem dX1_lose_29 : decode cX1_lose 29 = .ok (.invokevirtual 83, 3) := by decide +kernel
theorem dX1_lose_32 : decode cX1_lose 32 = .ok (.aload_n 0, 1) := by decide +kernel
theorem dX1_lose_33 : decode cX1_lose 33 = .ok (.dup, 1) := by decide +kernel
theorem dX1_lose_34 : decode cX1_lose 34 = .ok (.getfield 37, 3) := by decide +kernel
theorem dX1_lose_37 : decode cX1_lose 37 = .ok (.iconst 1, 1) := by decide +kernel
theorem dX1_lose_38 : decode cX1_lose 38 = .ok (.iadd, 1) := by decide +kernel
theorem dX1_lose_39 : decode cX1_lose 39 = .ok (.putfield 37, 3) := by decide +kernel
theorem dX1_lose_42 : decode cX1_lose 42 = .ok (.iload_n 3, 1) := by decide +kernel
theorem dX1_lose_43 : decode cX1_lose 43 = .ok (.ifCond .eq 7, 3) := by decide +kernel
theorem dX1_lose_46 : decode cX1_lose 46 = .ok (.iconst 1, 1) := by decide +kernel
theorem dX1_lose_47 : decode cX1_lose 47 = .ok (.goto 4, 3) := by decide +kernel
theorem dX1_lose_50 : decode cX1_lose 50 = .ok (.iconst 0, 1) := by decide +kernel
theorem dX1_lose_51 : decode cX1_lose 51 = .ok (.ireturn, 1) := by decide +kernel
set_option maxRecDepth 20000 in
theorem ggX1_circle_X1_checkBetween : GoodIn wsX1_circle wsX1_checkBetween := goodIn_ca (goodIn_rc _ [(0, 7), (0, 8), (0, 9)] (by rfl) (by decide +kernel)) (goodIn_sub (fun _ h => List.mem_cons_of_mem _ (List.mem_append_right _ h)) (by decide +kernel))
set_option maxRecDepth 20000 in
theorem gX1_circle_X1_checkBetween : GoodIn wsX1_circle (va_wsS RX1 19 yX1_checkBetween wsX1_checkBetween) := goodIn_app (goodIn_of _ (by decide +kernel)) ggX1_circle_X1_checkBetween
set_option maxRecDepth 20000 in
theorem ggX1_circle_X0_countWays : GoodIn wsX1_circle wsX0_countWays := goodIn_rc _ [(0, 14), (0, 15), (0, 16), (0, 17), (0, 18), (0, 13), (0, 19), (0, 20), (0, 21), (0, 22), (0, 23), (0, 24), (0, 25), (0, 26), (0, 27), (1, 28), (1, 29), (1, 30), (1, 31), (2, 0), (2, 1)] (by rfl) (by decide +kernel)
set_option maxRecDepth 20000 in
theorem gX1_circle_X0_countWays : GoodIn wsX1_circle (wsV RX1 73 RX0 yX0_countWays wsX0_countWays) := goodIn_app (goodIn_of _ (by decide +kernel)) ggX1_circle_X0_countWays
set_option maxRecDepth 20000 in
theorem ggX1_circle_X0_copyFrom : GoodIn wsX1_circle wsX0_copyFrom := goodIn_rc _ [(0, 31), (0, 15), (1, 0), (1, 1), (1, 2), (1, 3), (0, 20), (0, 16), (0, 17), (0, 18), (0, 13), (0, 19), (1, 28), (1, 29), (1, 30), (1, 31), (2, 0), (2, 1)] (by rfl) (by decide +kernel)
set_option maxRecDepth 20000 in
theorem gX1_circle_X0_copyFrom : GoodIn wsX1_circle (wsV RX1 86 RX0 yX0_copyFrom wsX0_copyFrom) := goodIn_app (goodIn_of _ (by decide +kernel)) ggX1_circle_X0_copyFrom
set_option maxRecDepth 20000 in
theorem ggX1_circle_X0_wrapped : GoodIn wsX1_circle wsX0_wrapped := goodIn_rc _ [(1, 7), (0, 15), (1, 28), (1, 29), (1, 30), (1, 31), (2, 0), (2, 1)] (by rfl) (by decide +kernel)
set_option maxRecDepth 20000 in
theorem gX1_circle_X0_wrapped : GoodIn wsX1_circle (wsV RX1 90 RX0 yX0_wrapped wsX0_wrapped) := goodIn_app (goodIn_of _ (by decide +kernel)) ggX1_circle_X0_wrapped
set_option maxRecDepth 20000 in
theorem ggX1_circle_X0_putWay : GoodIn wsX1_circle wsX0_putWay := goodIn_rc _ [(1, 11), (0, 16), (0, 17), (0, 18), (0, 13), (0, 19), (0, 20), (1, 12), (1, 13), (1, 14), (1, 15), (1, 28), (1, 29), (1, 30), (1, 31), (2, 0), (2, 1)] (by rfl) (by decide +kernel)
set_option maxRecDepth 20000 in
theorem gX1_circle_X0_putWay : GoodIn wsX1_circle (wsV RX1 80 RX0 yX0_putWay wsX0_putWay) := goodIn_app (goodIn_of _ (by decide +kernel)) ggX1_circle_X0_putWay
set_option maxRecDepth 20000 in
theorem ggX1_circle_X1_refuse : GoodIn wsX1_circle wsX1_refuse := goodIn_rc _ [(1, 19), (1, 20), (1, 21), (1, 22), (1, 23), (1, 24), (1, 25), (1, 26), (1, 27)] (by rfl) (by decide +kernel)
set_option maxRecDepth 20000 in
theorem gX1_circle_X1_refuse : GoodIn wsX1_circle (wsV RX1 77 RX1 yX1_refuse wsX1_refuse) := goodIn_app (goodIn_of _ (by decide +kernel)) ggX1_circle_X1_refuse
theorem dX1_circle_0 : decode cX1_circle 0 = .ok (.iload_n 1, 1) := by decide +kernel
theorem dX1_circle_1 : decode cX1_circle 1 = .ok (.iconst 0, 1) := by decide +kernel
theorem dX1_circle_2 : decode cX1_circle 2 = .ok (.bipush 11, 2) := by decide +kernel
theorem dX1_circle_4 : decode cX1_circle 4 = .ok (.invokestatic 19, 3) := by decide +kernel
theorem dX1_circle_7 : decode cX1_circle 7 = .ok (.aload_n 0, 1) := by decide +kernel
theorem dX1_circle_8 : decode cX1_circle 8 = .ok (.getfield 10, 3) := by decide +kernel
theorem dX1_circle_11 : decode cX1_circle 11 = .ok (.invokevirtual 73, 3) := by decide +kernel
theorem dX1_circle_14 : decode cX1_circle 14 = .ok (.istore_n 2, 1) := by decide +kernel
theorem dX1_circle_15 : decode cX1_circle 15 = .ok (.aload_n 0, 1) := by decide +kernel
theorem dX1_circle_16 : decode cX1_circle 16 = .ok (.getfield 16, 3) := by decide +kernel
theorem dX1_circle_19 : decode cX1_circle 19 = .ok (.aload_n 0, 1) := by decide +kernel
theorem dX1_circle_20 : decode cX1_circle 20 = .ok (.getfield 10, 3) := by decide +kernel
theorem dX1_circle_23 : decode cX1_circle 23 = .ok (.invokevirtual 86, 3) := by decide +kernel
theorem dX1_circle_26 : decode cX1_circle 26 = .ok (.iconst 0, 1) := by decide +kernel
theorem dX1_circle_27 : decode cX1_circle 27 = .ok (.istore_n 3, 1) := by decide +kernel
theorem dX1_circle_28 : decode cX1_circle 28 = .ok (.iload_n 3, 1) := by decide +kernel
theorem dX1_circle_29 : decode cX1_circle 29 = .ok (.aload_n 0, 1) := by decide +kernel
theorem dX1_circle_30 : decode cX1_circle 30 = .ok (.getfield 16, 3) := by decide +kernel
theorem dX1_circle_33 : decode cX1_circle 33 = .ok (.getfield 23, 3) := by decide +kernel
theorem dX1_circle_36 : decode cX1_circle 36 = .ok (.if_icmp .ge 27, 3) := by decide +kernel
theorem dX1_circle_39 : decode cX1_circle 39 = .ok (.aload_n 0, 1) := by decide +kernel
theorem dX1_circle_40 : decode cX1_circle 40 = .ok (.getfield 16, 3) := by decide +kernel
theorem dX1_circle_43 : decode cX1_circle 43 = .ok (.iload_n 3, 1) := by decide +kernel
theorem dX1_circle_44 : decode cX1_circle 44 = .ok (.aload_n 0, 1) := by decide +kernel
theorem dX1_circle_45 : decode cX1_circle 45 = .ok (.getfield 16, 3) := by decide +kernel
theorem dX1_circle_48 : decode cX1_circle 48 = .ok (.iload_n 3, 1) := by decide +kernel
theorem dX1_circle_49 : decode cX1_circle 49 = .ok (.iload_n 1, 1) := by decide +kernel
theorem dX1_circle_50 : decode cX1_circle 50 = .ok (.iadd, 1) := by decide +kernel
theorem dX1_circle_51 : decode cX1_circle 51 = .ok (.invokevirtual 90, 3) := by decide +kernel
theorem dX1_circle_54 : decode cX1_circle 54 = .ok (.invokevirtual 80, 3) := by decide +kernel
theorem dX1_circle_57 : decode cX1_circle 57 = .ok (.iinc 3 1, 3) := by decide +kernel
theorem dX1_circle_60 : decode cX1_circle 60 = .ok (.goto (-32), 3) := by decide +kernel
theorem dX1_circle_63 : decode cX1_circle 63 = .ok (.aload_n 0, 1) := by decide +kernel
theorem dX1_circle_64 : decode cX1_circle 64 = .ok (.getfield 16, 3) := by decide +kernel
theorem dX1_circle_67 : decode cX1_circle 67 = .ok (.invokevirtual 73, 3) := by decide +kernel
theorem dX1_circle_70 : decode cX1_circle 70 = .ok (.istore_n 3, 1) := by decide +kernel
theorem dX1_circle_71 : decode cX1_circle 71 = .ok (.iload_n 3, 1) := by decide +kernel
theorem dX1_circle_72 : decode cX1_circle 72 = .ok (.bipush 30, 2) := by decide +kernel
theorem dX1_circle_74 : decode cX1_circle 74 = .ok (.if_icmp .le 8, 3) := by decide +kernel
theorem dX1_circle_77 : decode cX1_circle 77 = .ok (.aload_n 0, 1) := by decide +kernel
theorem dX1_circle_78 : decode cX1_circle 78 = .ok (.invokevirtual 77, 3) := by decide +kernel
theorem dX1_circle_81 : decode cX1_circle 81 = .ok (.ireturn, 1) := by decide +kernel
theorem dX1_circle_82 : decode cX1_circle 82 = .ok (.aload_n 0, 1) := by decide +kernel
theorem dX1_circle_83 : decode cX1_circle 83 = .ok (.getfield 10, 3) := by decide +kernel
theorem dX1_circle_86 : decode cX1_circle 86 = .ok (.aload_n 0, 1) := by decide +kernel
theorem dX1_circle_87 : decode cX1_circle 87 = .ok (.getfield 16, 3) := by decide +kernel
theorem dX1_circle_90 : decode cX1_circle 90 = .ok (.invokevirtual 86, 3) := by decide +kernel
theorem dX1_circle_93 : decode cX1_circle 93 = .ok (.aload_n 0, 1) := by decide +kernel
theorem dX1_circle_94 : decode cX1_circle 94 = .ok (.dup, 1) := by decide +kernel
theorem dX1_circle_95 : decode cX1_circle 95 = .ok (.getfield 37, 3) := by decide +kernel
theorem dX1_circle_98 : decode cX1_circle 98 = .ok (.iconst 1, 1) := by decide +kernel
theorem dX1_circle_99 : decode cX1_circle 99 = .ok (.iadd, 1) := by decide +kernel
theorem dX1_circle_100 : decode cX1_circle 100 = .ok (.putfield 37, 3) := by decide +kernel
theorem dX1_circle_103 : decode cX1_circle 103 = .ok (.iload_n 3, 1) := by decide +kernel
theorem dX1_circle_104 : decode cX1_circle 104 = .ok (.iload_n 2, 1) := by decide +kernel
theorem dX1_circle_105 : decode cX1_circle 105 = .ok (.isub, 1) := by decide +kernel
theorem dX1_circle_106 : decode cX1_circle 106 = .ok (.ireturn, 1) := by decide +kernel
set_option maxRecDepth 20000 in
theorem ggX1_strew_X1_checkBetween : GoodIn wsX1_strew wsX1_checkBetween := goodIn_ca (goodIn_rc _ [(0, 6), (0, 7), (0, 8)] (by rfl) (by decide +kernel)) (goodIn_sub (fun _ h => List.mem_cons_of_mem _ (List.mem_append_right _ h)) (by decide +kernel))
set_option maxRecDepth 20000 in
theorem gX1_strew_X1_checkBetween : GoodIn wsX1_strew (va_wsS RX1 19 yX1_checkBetween wsX1_checkBetween) := goodIn_app (goodIn_of _ (by decide +kernel)) ggX1_strew_X1_checkBetween
set_option maxRecDepth 20000 in
theorem ggX1_strew_X0_clear : GoodIn wsX1_strew wsX0_clear := goodIn_rc _ [(0, 13), (0, 14), (0, 15), (0, 16), (0, 17), (0, 18), (0, 19), (1, 30), (1, 31), (2, 0), (2, 1), (2, 2), (2, 3)] (by rfl) (by decide +kernel)
set_option maxRecDepth 20000 in
theorem gX1_strew_X0_clear : GoodIn wsX1_strew (wsV RX1 27 RX0 yX0_clear wsX0_clear) := goodIn_app (goodIn_of _ (by decide +kernel)) ggX1_strew_X0_clear
set_option maxRecDepth 20000 in
theorem ggX1_strew_X0_setSide : GoodIn wsX1_strew wsX0_setSide := goodIn_rc _ [(0, 23), (0, 15), (1, 30), (1, 31), (2, 0), (2, 1), (2, 2), (2, 3)] (by rfl) (by decide +kernel)
set_option maxRecDepth 20000 in
theorem gX1_strew_X0_setSide : GoodIn wsX1_strew (wsV RX1 50 RX0 yX0_setSide wsX0_setSide) := goodIn_app (goodIn_of _ (by decide +kernel)) ggX1_strew_X0_setSide
set_option maxRecDepth 20000 in
theorem ggX1_strew_X0_setRank : GoodIn wsX1_strew wsX0_setRank := goodIn_rc _ [(0, 27), (0, 17), (0, 18), (1, 30), (1, 31), (2, 0), (2, 1), (2, 2), (2, 3)] (by rfl) (by decide +kernel)
set_option maxRecDepth 20000 in
theorem gX1_strew_X0_setRank : GoodIn wsX1_strew (wsV RX1 57 RX0 yX0_setRank wsX0_setRank) := goodIn_app (goodIn_of _ (by decide +kernel)) ggX1_strew_X0_setRank
set_option maxRecDepth 20000 in
theorem ggX1_strew_X0_wrapped : GoodIn wsX1_strew wsX0_wrapped := goodIn_rc _ [(0, 31), (0, 14), (1, 30), (1, 31), (2, 0), (2, 1), (2, 2), (2, 3)] (by rfl) (by decide +kernel)
set_option maxRecDepth 20000 in
theorem gX1_strew_X0_wrapped : GoodIn wsX1_strew (wsV RX1 90 RX0 yX0_wrapped wsX0_wrapped) := goodIn_app (goodIn_of _ (by decide +kernel)) ggX1_strew_X0_wrapped
set_option maxRecDepth 20000 in
theorem ggX1_strew_X0_putWay : GoodIn wsX1_strew wsX0_putWay := goodIn_rc _ [(1, 3), (1, 4), (1, 5), (1, 6), (0, 12), (1, 7), (0, 19), (1, 8), (1, 9), (1, 10), (1, 11), (1, 30), (1, 31), (2, 0), (2, 1), (2, 2), (2, 3)] (by rfl) (by decide +kernel)
set_option maxRecDepth 20000 in
theorem gX1_strew_X0_putWay : GoodIn wsX1_strew (wsV RX1 80 RX0 yX0_putWay wsX0_putWay) := goodIn_app (goodIn_of _ (by decide +kernel)) ggX1_strew_X0_putWay
set_option maxRecDepth 20000 in
theorem ggX1_strew_X0_countWays : GoodIn wsX1_strew wsX0_countWays := goodIn_rc _ [(1, 15), (0, 14), (1, 4), (1, 5), (1, 6), (0, 12), (1, 7), (0, 19), (1, 16), (1, 17), (1, 18), (1, 19), (1, 20), (1, 21), (1, 22), (1, 30), (1, 31), (2, 0), (2, 1), (2, 2), (2, 3)] (by rfl) (by decide +kernel)
set_option maxRecDepth 20000 in
theorem gX1_strew_X0_countWays : GoodIn wsX1_strew (wsV RX1 73 RX0 yX0_countWays wsX0_countWays) := goodIn_app (goodIn_of _ (by decide +kernel)) ggX1_strew_X0_countWays
theorem dX1_strew_0 : decode cX1_strew 0 = .ok (.iload_n 1, 1) := by decide +kernel
theorem dX1_strew_1 : decode cX1_strew 1 = .ok (.iconst 0, 1) := by decide +kernel
theorem dX1_strew_2 : decode cX1_strew 2 = .ok (.sipush 9999, 3) := by decide +kernel
theorem dX1_strew_5 : decode cX1_strew 5 = .ok (.invokestatic 19, 3) := by decide +kernel
theorem dX1_strew_8 : decode cX1_strew 8 = .ok (.aload_n 0, 1) := by decide +kernel
theorem dX1_strew_9 : decode cX1_strew 9 = .ok (.getfield 10, 3) := by decide +kernel
theorem dX1_strew_12 : decode cX1_strew 12 = .ok (.aload_n 0, 1) := by decide +kernel
theorem dX1_strew_13 : decode cX1_strew 13 = .ok (.getfield 10, 3) := by decide +kernel
theorem dX1_strew_16 : decode cX1_strew 16 = .ok (.getfield 23, 3) := by decide +kernel
theorem dX1_strew_19 : decode cX1_strew 19 = .ok (.invokevirtual 27, 3) := by decide +kernel
theorem dX1_strew_22 : decode cX1_strew 22 = .ok (.iconst 0, 1) := by decide +kernel
theorem dX1_strew_23 : decode cX1_strew 23 = .ok (.istore_n 2, 1) := by decide +kernel
theorem dX1_strew_24 : decode cX1_strew 24 = .ok (.iload_n 2, 1) := by decide +kernel
theorem dX1_strew_25 : decode cX1_strew 25 = .ok (.aload_n 0, 1) := by decide +kernel
theorem dX1_strew_26 : decode cX1_strew 26 = .ok (.getfield 10, 3) := by decide +kernel
theorem dX1_strew_29 : decode cX1_strew 29 = .ok (.getfield 23, 3) := by decide +kernel
theorem dX1_strew_32 : decode cX1_strew 32 = .ok (.if_icmp .ge 99, 3) := by decide +kernel
theorem dX1_strew_35 : decode cX1_strew 35 = .ok (.iload_n 1, 1) := by decide +kernel
theorem dX1_strew_36 : decode cX1_strew 36 = .ok (.bipush 7, 2) := by decide +kernel
theorem dX1_strew_38 : decode cX1_strew 38 = .ok (.iload_n 2, 1) := by decide +kernel
theorem dX1_strew_39 : decode cX1_strew 39 = .ok (.imul, 1) := by decide +kernel
theorem dX1_strew_40 : decode cX1_strew 40 = .ok (.iadd, 1) := by decide +kernel
theorem dX1_strew_41 : decode cX1_strew 41 = .ok (.iload_n 2, 1) := by decide +kernel
theorem dX1_strew_42 : decode cX1_strew 42 = .ok (.iload_n 2, 1) := by decide +kernel
theorem dX1_strew_43 : decode cX1_strew 43 = .ok (.imul, 1) := by decide +kernel
theorem dX1_strew_44 : decode cX1_strew 44 = .ok (.iadd, 1) := by decide +kernel
theorem dX1_strew_45 : decode cX1_strew 45 = .ok (.istore_n 3, 1) := by decide +kernel
theorem dX1_strew_46 : decode cX1_strew 46 = .ok (.aload_n 0, 1) := by decide +kernel
theorem dX1_strew_47 : decode cX1_strew 47 = .ok (.getfield 10, 3) := by decide +kernel
theorem dX1_strew_50 : decode cX1_strew 50 = .ok (.iload_n 2, 1) := by decide +kernel
theorem dX1_strew_51 : decode cX1_strew 51 = .ok (.iload_n 3, 1) := by decide +kernel
theorem dX1_strew_52 : decode cX1_strew 52 = .ok (.iconst 2, 1) := by decide +kernel
theorem dX1_strew_53 : decode cX1_strew 53 = .ok (.irem, 1) := by decide +kernel
theorem dX1_strew_54 : decode cX1_strew 54 = .ok (.invokevirtual 50, 3) := by decide +kernel
theorem dX1_strew_57 : decode cX1_strew 57 = .ok (.aload_n 0, 1) := by decide +kernel
theorem dX1_strew_58 : decode cX1_strew 58 = .ok (.getfield 10, 3) := by decide +kernel
theorem dX1_strew_61 : decode cX1_strew 61 = .ok (.iload_n 2, 1) := by decide +kernel
theorem dX1_strew_62 : decode cX1_strew 62 = .ok (.iload_n 3, 1) := by decide +kernel
theorem dX1_strew_63 : decode cX1_strew 63 = .ok (.iconst 3, 1) := by decide +kernel
theorem dX1_strew_64 : decode cX1_strew 64 = .ok (.irem, 1) := by decide +kernel
theorem dX1_strew_65 : decode cX1_strew 65 = .ok (.invokevirtual 57, 3) := by decide +kernel
theorem dX1_strew_68 : decode cX1_strew 68 = .ok (.iload_n 3, 1) := by decide +kernel
theorem dX1_strew_69 : decode cX1_strew 69 = .ok (.iconst 5, 1) := by decide +kernel
theorem dX1_strew_70 : decode cX1_strew 70 = .ok (.irem, 1) := by decide +kernel
theorem dX1_strew_71 : decode cX1_strew 71 = .ok (.ifCond .ne 18, 3) := by decide +kernel
theorem dX1_strew_74 : decode cX1_strew 74 = .ok (.aload_n 0, 1) := by decide +kernel
theorem dX1_strew_75 : decode cX1_strew 75 = .ok (.getfield 10, 3) := by decide +kernel
theorem dX1_strew_78 : decode cX1_strew 78 = .ok (.dup, 1) := by decide +kernel
theorem dX1_strew_79 : decode cX1_strew 79 = .ok (.getfield 63, 3) := by decide +kernel
theorem dX1_strew_82 : decode cX1_strew 82 = .ok (.iconst 1, 1) := by decide +kernel
theorem dX1_strew_83 : decode cX1_strew 83 = .ok (.iload_n 2, 1) := by decide +kernel
theorem dX1_strew_84 : decode cX1_strew 84 = .ok (.ishl, 1) := by decide +kernel
theorem dX1_strew_85 : decode cX1_strew 85 = .ok (.ior, 1) := by decide +kernel
theorem dX1_strew_86 : decode cX1_strew 86 = .ok (.putfield 63, 3) := by decide +kernel
theorem dX1_strew_89 : decode cX1_strew 89 = .ok (.aload_n 0, 1) := by decide +kernel
theorem dX1_strew_90 : decode cX1_strew 90 = .ok (.getfield 10, 3) := by decide +kernel
theorem dX1_strew_93 : decode cX1_strew 93 = .ok (.iload_n 2, 1) := by decide +kernel
theorem dX1_strew_94 : decode cX1_strew 94 = .ok (.aload_n 0, 1) := by decide +kernel
theorem dX1_strew_95 : decode cX1_strew 95 = .ok (.getfield 10, 3) := by decide +kernel
theorem dX1_strew_98 : decode cX1_strew 98 = .ok (.iload_n 3, 1) := by decide +kernel
theorem dX1_strew_99 : decode cX1_strew 99 = .ok (.invokevirtual 90, 3) := by decide +kernel
theorem dX1_strew_102 : decode cX1_strew 102 = .ok (.invokevirtual 80, 3) := by decide +kernel
theorem dX1_strew_105 : decode cX1_strew 105 = .ok (.aload_n 0, 1) := by decide +kernel
theorem dX1_strew_106 : decode cX1_strew 106 = .ok (.getfield 10, 3) := by decide +kernel
theorem dX1_strew_109 : decode cX1_strew 109 = .ok (.iload_n 2, 1) := by decide +kernel
theorem dX1_strew_110 : decode cX1_strew 110 = .ok (.aload_n 0, 1) := by decide +kernel
theorem dX1_strew_111 : decode cX1_strew 111 = .ok (.getfield 10, 3) := by decide +kernel
theorem dX1_strew_114 : decode cX1_strew 114 = .ok (.iconst 3, 1) := by decide +kernel
theorem dX1_strew_115 : decode cX1_strew 115 = .ok (.iload_n 3, 1) := by decide +kernel
theorem dX1_strew_116 : decode cX1_strew 116 = .ok (.imul, 1) := by decide +kernel
theorem dX1_strew_117 : decode cX1_strew 117 = .ok (.iload_n 2, 1) := by decide +kernel
theorem dX1_strew_118 : decode cX1_strew 118 = .ok (.iadd, 1) := by decide +kernel
theorem dX1_strew_119 : decode cX1_strew 119 = .ok (.invokevirtual 90, 3) := by decide +kernel
theorem dX1_strew_122 : decode cX1_strew 122 = .ok (.invokevirtual 80, 3) := by decide +kernel
theorem dX1_strew_125 : decode cX1_strew 125 = .ok (.iinc 2 1, 3) := by decide +kernel
theorem dX1_strew_128 : decode cX1_strew 128 = .ok (.goto (-104), 3) := by decide +kernel
theorem dX1_strew_131 : decode cX1_strew 131 = .ok (.aload_n 0, 1) := by decide +kernel
theorem dX1_strew_132 : decode cX1_strew 132 = .ok (.dup, 1) := by decide +kernel
theorem dX1_strew_133 : decode cX1_strew 133 = .ok (.getfield 37, 3) := by decide +kernel
theorem dX1_strew_136 : decode cX1_strew 136 = .ok (.iconst 1, 1) := by decide +kernel
theorem dX1_strew_137 : decode cX1_strew 137 = .ok (.iadd, 1) := by decide +kernel
theorem dX1_strew_138 : decode cX1_strew 138 = .ok (.putfield 37, 3) := by decide +kernel
theorem dX1_strew_141 : decode cX1_strew 141 = .ok (.aload_n 0, 1) := by decide +kernel
theorem dX1_strew_142 : decode cX1_strew 142 = .ok (.getfield 10, 3) := by decide +kernel
theorem dX1_strew_145 : decode cX1_strew 145 = .ok (.invokevirtual 73, 3) := by decide +kernel
theorem dX1_strew_148 : decode cX1_strew 148 = .ok (.ireturn, 1) := by decide +kernel
set_option maxRecDepth 20000 in
theorem ggX1_change_X0_all : GoodIn wsX1_change wsX0_all := goodIn_rc _ [(0, 7), (0, 8), (0, 29), (0, 30), (0, 31), (1, 0), (1, 1), (1, 2)] (by rfl) (by decide +kernel)
set_option maxRecDepth 20000 in
theorem gX1_change_X0_all : GoodIn wsX1_change (wsV RX1 93 RX0 yX0_all wsX0_all) := goodIn_app (goodIn_of _ (by decide +kernel)) ggX1_change_X0_all
set_option maxRecDepth 20000 in
theorem ggX1_change_X0_placesOf : GoodIn wsX1_change wsX0_placesOf := goodIn_rc _ [(0, 12), (0, 13), (0, 14), (0, 4), (0, 5), (0, 6), (0, 7), (0, 8), (0, 29), (0, 30), (0, 31), (1, 0), (1, 1), (1, 2)] (by rfl) (by decide +kernel)
set_option maxRecDepth 20000 in
theorem gX1_change_X0_placesOf : GoodIn wsX1_change (wsV RX1 99 RX0 yX0_placesOf wsX0_placesOf) := goodIn_app (goodIn_of _ (by decide +kernel)) ggX1_change_X0_placesOf
set_option maxRecDepth 20000 in
theorem ggX1_change_J6_bitCount_0f7a4 : GoodIn wsX1_change wsJ6_bitCount_0f7a4 := goodIn_rc _ [(0, 18), (0, 19), (0, 20), (0, 21)] (by rfl) (by decide +kernel)
set_option maxRecDepth 20000 in
theorem gX1_change_J6_bitCount_0f7a4 : GoodIn wsX1_change (va_wsS RX1 102 yJ6_bitCount_0f7a4 wsJ6_bitCount_0f7a4) := goodIn_app (goodIn_of _ (by decide +kernel)) ggX1_change_J6_bitCount_0f7a4
theorem dX1_change_0 : decode cX1_change 0 = .ok (.aload_n 0, 1) := by decide +kernel
theorem dX1_change_1 : decode cX1_change 1 = .ok (.getfield 10, 3) := by decide +kernel
theorem dX1_change_4 : decode cX1_change 4 = .ok (.aload_n 0, 1) := by decide +kernel
theorem dX1_change_5 : decode cX1_change 5 = .ok (.getfield 10, 3) := by decide +kernel
theorem dX1_change_8 : decode cX1_change 8 = .ok (.invokevirtual 93, 3) := by decide +kernel
theorem dX1_change_11 : decode cX1_change 11 = .ok (.aload_n 0, 1) := by decide +kernel
theorem dX1_change_12 : decode cX1_change 12 = .ok (.getfield 10, 3) := by decide +kernel
theorem dX1_change_15 : decode cX1_change 15 = .ok (.getfield 96, 3) := by decide +kernel
theorem dX1_change_18 : decode cX1_change 18 = .ok (.iconst (-1), 1) := by decide +kernel
theorem dX1_change_19 : decode cX1_change 19 = .ok (.ixor, 1) := by decide +kernel
theorem dX1_change_20 : decode cX1_change 20 = .ok (.iand, 1) := by decide +kernel
theorem dX1_change_21 : decode cX1_change 21 = .ok (.putfield 96, 3) := by decide +kernel
theorem dX1_change_24 : decode cX1_change 24 = .ok (.aload_n 0, 1) := by decide +kernel
theorem dX1_change_25 : decode cX1_change 25 = .ok (.dup, 1) := by decide +kernel
theorem dX1_change_26 : decode cX1_change 26 = .ok (.getfield 37, 3) := by decide +kernel
theorem dX1_change_29 : decode cX1_change 29 = .ok (.iconst 1, 1) := by decide +kernel
theorem dX1_change_30 : decode cX1_change 30 = .ok (.iadd, 1) := by decide +kernel
theorem dX1_change_31 : decode cX1_change 31 = .ok (.putfield 37, 3) := by decide +kernel
theorem dX1_change_34 : decode cX1_change 34 = .ok (.aload_n 0, 1) := by decide +kernel
theorem dX1_change_35 : decode cX1_change 35 = .ok (.getfield 10, 3) := by decide +kernel
theorem dX1_change_38 : decode cX1_change 38 = .ok (.iconst 0, 1) := by decide +kernel
theorem dX1_change_39 : decode cX1_change 39 = .ok (.invokevirtual 99, 3) := by decide +kernel
theorem dX1_change_42 : decode cX1_change 42 = .ok (.invokestatic 102, 3) := by decide +kernel
theorem dX1_change_45 : decode cX1_change 45 = .ok (.ireturn, 1) := by decide +kernel
set_option maxRecDepth 20000 in
theorem ggX1_stand_X1_checkPlace : GoodIn wsX1_stand wsX1_checkPlace := goodIn_ca (goodIn_rc _ [(0, 8), (0, 9), (0, 10), (0, 11), (0, 12), (0, 13), (0, 14), (0, 15), (0, 16), (0, 17), (0, 18), (0, 19), (0, 20), (0, 21), (0, 22), (0, 23), (0, 24)] (by rfl) (by decide +kernel)) (goodIn_sub (fun _ h => List.mem_cons_of_mem _ (List.mem_append_right _ h)) (by decide +kernel))
set_option maxRecDepth 20000 in
theorem gX1_stand_X1_checkPlace : GoodIn wsX1_stand (wsV RX1 40 RX1 yX1_checkPlace wsX1_checkPlace) := goodIn_app (goodIn_of _ (by decide +kernel)) ggX1_stand_X1_checkPlace
theorem dX1_stand_0 : decode cX1_stand 0 = .ok (.aload_n 0, 1) := by decide +kernel
theorem dX1_stand_1 : decode cX1_stand 1 = .ok (.iload_n 1, 1) := by decide +kernel
theorem dX1_stand_2 : decode cX1_stand 2 = .ok (.invokevirtual 40, 3) := by decide +kernel
theorem dX1_stand_5 : decode cX1_stand 5 = .ok (.aload_n 0, 1) := by decide +kernel
theorem dX1_stand_6 : decode cX1_stand 6 = .ok (.getfield 31, 3) := by decide +kernel
theorem dX1_stand_9 : decode cX1_stand 9 = .ok (.istore_n 2, 1) := by decide +kernel
theorem dX1_stand_10 : decode cX1_stand 10 = .ok (.aload_n 0, 1) := by decide +kernel
theorem dX1_stand_11 : decode cX1_stand 11 = .ok (.iload_n 1, 1) := by decide +kernel
theorem dX1_stand_12 : decode cX1_stand 12 = .ok (.putfield 31, 3) := by decide +kernel
theorem dX1_stand_15 : decode cX1_stand 15 = .ok (.aload_n 0, 1) := by decide +kernel
theorem dX1_stand_16 : decode cX1_stand 16 = .ok (.iconst 0, 1) := by decide +kernel
theorem dX1_stand_17 : decode cX1_stand 17 = .ok (.putfield 34, 3) := by decide +kernel
theorem dX1_stand_20 : decode cX1_stand 20 = .ok (.aload_n 0, 1) := by decide +kernel
theorem dX1_stand_21 : decode cX1_stand 21 = .ok (.dup, 1) := by decide +kernel
theorem dX1_stand_22 : decode cX1_stand 22 = .ok (.getfield 37, 3) := by decide +kernel
theorem dX1_stand_25 : decode cX1_stand 25 = .ok (.iconst 1, 1) := by decide +kernel
theorem dX1_stand_26 : decode cX1_stand 26 = .ok (.iadd, 1) := by decide +kernel
theorem dX1_stand_27 : decode cX1_stand 27 = .ok (.putfield 37, 3) := by decide +kernel
theorem dX1_stand_30 : decode cX1_stand 30 = .ok (.iload_n 2, 1) := by decide +kernel
theorem dX1_stand_31 : decode cX1_stand 31 = .ok (.ireturn, 1) := by decide +kernel
set_option maxRecDepth 20000 in
theorem ggX1_go_X1_checkPlace : GoodIn wsX1_go wsX1_checkPlace := goodIn_ca (goodIn_rc _ [(0, 8), (0, 9), (0, 10), (0, 1), (0, 30), (0, 31), (1, 0), (1, 1), (1, 2), (1, 3), (1, 4), (1, 5), (1, 6), (1, 7), (1, 8), (1, 9), (1, 10)] (by rfl) (by decide +kernel)) (goodIn_sub (fun _ h => List.mem_cons_of_mem _ (List.mem_append_right _ h)) (by decide +kernel))
set_option maxRecDepth 20000 in
theorem gX1_go_X1_checkPlace : GoodIn wsX1_go (wsV RX1 40 RX1 yX1_checkPlace wsX1_checkPlace) := goodIn_app (goodIn_of _ (by decide +kernel)) ggX1_go_X1_checkPlace
set_option maxRecDepth 20000 in
theorem ggX1_go_X0_waysFrom : GoodIn wsX1_go wsX0_waysFrom := goodIn_rc _ [(0, 15), (0, 16), (1, 5), (1, 6), (1, 7), (1, 8), (1, 9), (1, 10)] (by rfl) (by decide +kernel)
set_option maxRecDepth 20000 in
theorem gX1_go_X0_waysFrom : GoodIn wsX1_go (wsV RX1 66 RX0 yX0_waysFrom wsX0_waysFrom) := goodIn_app (goodIn_of _ (by decide +kernel)) ggX1_go_X0_waysFrom
set_option maxRecDepth 20000 in
theorem ggX1_go_X1_has : GoodIn wsX1_go wsX1_has := goodIn_rc _ [(0, 19)] (by rfl) (by decide +kernel)
set_option maxRecDepth 20000 in
theorem gX1_go_X1_has : GoodIn wsX1_go (va_wsS RX1 69 yX1_has wsX1_has) := goodIn_app (goodIn_of _ (by decide +kernel)) ggX1_go_X1_has
set_option maxRecDepth 20000 in
theorem ggX1_go_X1_refuse : GoodIn wsX1_go wsX1_refuse := goodIn_rc _ [(0, 23), (0, 24), (0, 30), (0, 31), (1, 0), (1, 1), (1, 2), (1, 3), (1, 4)] (by rfl) (by decide +kernel)
set_option maxRecDepth 20000 in
theorem gX1_go_X1_refuse : GoodIn wsX1_go (wsV RX1 77 RX1 yX1_refuse wsX1_refuse) := goodIn_app (goodIn_of _ (by decide +kernel)) ggX1_go_X1_refuse
set_option maxRecDepth 20000 in
theorem ggX1_go_X1_moveStone : GoodIn wsX1_go wsX1_moveStone := goodIn_rc _ [(0, 28), (0, 2), (0, 3), (0, 29), (0, 30), (0, 31), (1, 0), (1, 1), (1, 2), (1, 3), (1, 4)] (by rfl) (by decide +kernel)
set_option maxRecDepth 20000 in
theorem gX1_go_X1_moveStone : GoodIn wsX1_go (wsV RX1 107 RX1 yX1_moveStone wsX1_moveStone) := goodIn_app (goodIn_of _ (by decide +kernel)) ggX1_go_X1_moveStone
theorem dX1_go_0 : decode cX1_go 0 = .ok (.aload_n 0, 1) := by decide +kernel
theorem dX1_go_1 : decode cX1_go 1 = .ok (.iload_n 1, 1) := by decide +kernel
theorem dX1_go_2 : decode cX1_go 2 = .ok (.invokevirtual 40, 3) := by decide +kernel
theorem dX1_go_5 : decode cX1_go 5 = .ok (.aload_n 0, 1) := by decide +kernel
theorem dX1_go_6 : decode cX1_go 6 = .ok (.getfield 10, 3) := by decide +kernel
theorem dX1_go_9 : decode cX1_go 9 = .ok (.aload_n 0, 1) := by decide +kernel
theorem dX1_go_10 : decode cX1_go 10 = .ok (.getfield 31, 3) := by decide +kernel
theorem dX1_go_13 : decode cX1_go 13 = .ok (.invokevirtual 66, 3) := by decide +kernel
theorem dX1_go_16 : decode cX1_go 16 = .ok (.iload_n 1, 1) := by decide +kernel
theorem dX1_go_17 : decode cX1_go 17 = .ok (.invokestatic 69, 3) := by decide +kernel
theorem dX1_go_20 : decode cX1_go 20 = .ok (.ifCond .ne 8, 3) := by decide +kernel
theorem dX1_go_23 : decode cX1_go 23 = .ok (.aload_n 0, 1) := by decide +kernel
theorem dX1_go_24 : decode cX1_go 24 = .ok (.invokevirtual 77, 3) := by decide +kernel
theorem dX1_go_27 : decode cX1_go 27 = .ok (.ireturn, 1) := by decide +kernel
theorem dX1_go_28 : decode cX1_go 28 = .ok (.aload_n 0, 1) := by decide +kernel
theorem dX1_go_29 : decode cX1_go 29 = .ok (.iload_n 1, 1) := by decide +kernel
theorem dX1_go_30 : decode cX1_go 30 = .ok (.invokevirtual 107, 3) := by decide +kernel
theorem dX1_go_33 : decode cX1_go 33 = .ok (.aload_n 0, 1) := by decide +kernel
theorem dX1_go_34 : decode cX1_go 34 = .ok (.getfield 34, 3) := by decide +kernel
theorem dX1_go_37 : decode cX1_go 37 = .ok (.ireturn, 1) := by decide +kernel
set_option maxRecDepth 20000 in
theorem ggX1_follow_X1_checkBetween : GoodIn wsX1_follow wsX1_checkBetween := goodIn_ca (goodIn_rc _ [(0, 6), (0, 7), (0, 8)] (by rfl) (by decide +kernel)) (goodIn_sub (fun _ h => List.mem_cons_of_mem _ (List.mem_append_right _ h)) (by decide +kernel))
set_option maxRecDepth 20000 in
theorem gX1_follow_X1_checkBetween : GoodIn wsX1_follow (va_wsS RX1 19 yX1_checkBetween wsX1_checkBetween) := goodIn_app (goodIn_of _ (by decide +kernel)) ggX1_follow_X1_checkBetween
set_option maxRecDepth 20000 in
theorem ggX1_follow_X0_sideOf : GoodIn wsX1_follow wsX0_sideOf := goodIn_rc _ [(0, 13), (0, 14), (2, 30), (2, 31), (3, 0), (3, 1), (3, 2), (3, 3)] (by rfl) (by decide +kernel)
set_option maxRecDepth 20000 in
theorem gX1_follow_X0_sideOf : GoodIn wsX1_follow (wsV RX1 46 RX0 yX0_sideOf wsX0_sideOf) := goodIn_app (goodIn_of _ (by decide +kernel)) ggX1_follow_X0_sideOf
set_option maxRecDepth 20000 in
theorem ggX1_follow_X0_pick : GoodIn wsX1_follow wsX0_pick := goodIn_rc _ [(0, 18), (0, 19), (0, 20), (0, 21), (0, 12), (0, 22), (0, 23), (0, 24), (0, 25), (0, 26), (0, 27), (0, 28), (0, 29), (0, 30), (0, 31), (1, 0), (1, 1), (0, 14), (1, 2), (1, 3), (1, 4), (1, 5), (1, 6), (1, 7), (1, 8), (1, 9), (1, 10), (1, 11), (1, 12), (1, 13), (1, 14), (1, 15), (1, 16), (1, 17), (1, 18), (1, 19), (1, 20), (1, 21), (1, 22), (1, 23), (1, 24), (1, 25), (1, 26), (1, 27), (1, 28), (0, 5), (1, 29), (1, 30), (1, 31), (2, 0), (2, 1), (2, 2), (2, 3), (2, 4), (2, 5), (2, 6), (2, 7), (2, 8), (2, 9), (2, 10), (2, 11), (2, 30), (2, 31), (3, 0), (3, 1), (3, 2), (3, 3)] (by rfl) (by decide +kernel)
set_option maxRecDepth 20000 in
theorem gX1_follow_X0_pick : GoodIn wsX1_follow (wsV RX1 110 RX0 yX0_pick wsX0_pick) := goodIn_app (goodIn_of _ (by decide +kernel)) ggX1_follow_X0_pick
set_option maxRecDepth 20000 in
theorem ggX1_follow_X1_refuse : GoodIn wsX1_follow wsX1_refuse := goodIn_rc _ [(2, 15), (2, 16), (2, 23), (2, 24), (2, 25), (2, 26), (2, 27), (2, 28), (2, 29)] (by rfl) (by decide +kernel)
set_option maxRecDepth 20000 in
theorem gX1_follow_X1_refuse : GoodIn wsX1_follow (wsV RX1 77 RX1 yX1_refuse wsX1_refuse) := goodIn_app (goodIn_of _ (by decide +kernel)) ggX1_follow_X1_refuse
set_option maxRecDepth 20000 in
theorem ggX1_follow_X1_moveStone : GoodIn wsX1_follow wsX1_moveStone := goodIn_rc _ [(2, 20), (0, 2), (2, 21), (2, 22), (2, 23), (2, 24), (2, 25), (2, 26), (2, 27), (2, 28), (2, 29)] (by rfl) (by decide +kernel)
set_option maxRecDepth 20000 in
theorem gX1_follow_X1_moveStone : GoodIn wsX1_follow (wsV RX1 107 RX1 yX1_moveStone wsX1_moveStone) := goodIn_app (goodIn_of _ (by decide +kernel)) ggX1_follow_X1_moveStone
theorem dX1_follow_0 : decode cX1_follow 0 = .ok (.iload_n 1, 1) := by decide +kernel
theorem dX1_follow_1 : decode cX1_follow 1 = .ok (.iconst 0, 1) := by decide +kernel
theorem dX1_follow_2 : decode cX1_follow 2 = .ok (.iconst 2, 1) := by decide +kernel
theorem dX1_follow_3 : decode cX1_follow 3 = .ok (.invokestatic 19, 3) := by decide +kernel
theorem dX1_follow_6 : decode cX1_follow 6 = .ok (.aload_n 0, 1) := by decide +kernel
theorem dX1_follow_7 : decode cX1_follow 7 = .ok (.getfield 10, 3) := by decide +kernel
theorem dX1_follow_10 : decode cX1_follow 10 = .ok (.iload_n 1, 1) := by decide +kernel
theorem dX1_follow_11 : decode cX1_follow 11 = .ok (.aload_n 0, 1) := by decide +kernel
theorem dX1_follow_12 : decode cX1_follow 12 = .ok (.getfield 10, 3) := by decide +kernel
theorem dX1_follow_15 : decode cX1_follow 15 = .ok (.aload_n 0, 1) := by decide +kernel
theorem dX1_follow_16 : decode cX1_follow 16 = .ok (.getfield 31, 3) := by decide +kernel
theorem dX1_follow_19 : decode cX1_follow 19 = .ok (.invokevirtual 46, 3) := by decide +kernel
theorem dX1_follow_22 : decode cX1_follow 22 = .ok (.aload_n 0, 1) := by decide +kernel
theorem dX1_follow_23 : decode cX1_follow 23 = .ok (.getfield 31, 3) := by decide +kernel
theorem dX1_follow_26 : decode cX1_follow 26 = .ok (.invokevirtual 110, 3) := by decide +kernel
theorem dX1_follow_29 : decode cX1_follow 29 = .ok (.istore_n 2, 1) := by decide +kernel
theorem dX1_follow_30 : decode cX1_follow 30 = .ok (.iload_n 2, 1) := by decide +kernel
theorem dX1_follow_31 : decode cX1_follow 31 = .ok (.iconst (-1), 1) := by decide +kernel
theorem dX1_follow_32 : decode cX1_follow 32 = .ok (.if_icmp .ne 8, 3) := by decide +kernel
theorem dX1_follow_35 : decode cX1_follow 35 = .ok (.aload_n 0, 1) := by decide +kernel
theorem dX1_follow_36 : decode cX1_follow 36 = .ok (.invokevirtual 77, 3) := by decide +kernel
theorem dX1_follow_39 : decode cX1_follow 39 = .ok (.ireturn, 1) := by decide +kernel
theorem dX1_follow_40 : decode cX1_follow 40 = .ok (.aload_n 0, 1) := by decide +kernel
theorem dX1_follow_41 : decode cX1_follow 41 = .ok (.iload_n 2, 1) := by decide +kernel
theorem dX1_follow_42 : decode cX1_follow 42 = .ok (.invokevirtual 107, 3) := by decide +kernel
theorem dX1_follow_45 : decode cX1_follow 45 = .ok (.aload_n 0, 1) := by decide +kernel
theorem dX1_follow_46 : decode cX1_follow 46 = .ok (.getfield 31, 3) := by decide +kernel
theorem dX1_follow_49 : decode cX1_follow 49 = .ok (.ireturn, 1) := by decide +kernel
set_option maxRecDepth 20000 in
theorem ggX1_told_X1_checkBetween : GoodIn wsX1_told wsX1_checkBetween := goodIn_ca (goodIn_rc _ [(0, 7), (0, 8), (0, 9)] (by rfl) (by decide +kernel)) (goodIn_sub (fun _ h => List.mem_cons_of_mem _ (List.mem_append_right _ h)) (by decide +kernel))
set_option maxRecDepth 20000 in
theorem gX1_told_X1_checkBetween : GoodIn wsX1_told (va_wsS RX1 19 yX1_checkBetween wsX1_checkBetween) := goodIn_app (goodIn_of _ (by decide +kernel)) ggX1_told_X1_checkBetween
set_option maxRecDepth 20000 in
theorem ggX1_told_X0_countWays : GoodIn wsX1_told wsX0_countWays := goodIn_rc _ [(0, 14), (0, 15), (0, 16), (0, 17), (0, 18), (0, 13), (0, 19), (0, 20), (0, 21), (0, 22), (0, 23), (0, 24), (0, 25), (0, 26), (0, 27), (1, 16), (1, 17), (1, 18), (1, 19), (1, 20), (1, 21)] (by rfl) (by decide +kernel)
set_option maxRecDepth 20000 in
theorem gX1_told_X0_countWays : GoodIn wsX1_told (wsV RX1 73 RX0 yX0_countWays wsX0_countWays) := goodIn_app (goodIn_of _ (by decide +kernel)) ggX1_told_X0_countWays
set_option maxRecDepth 20000 in
theorem ggX1_told_X0_placesOf : GoodIn wsX1_told wsX0_placesOf := goodIn_rc _ [(0, 31), (1, 0), (1, 1), (1, 2), (1, 3), (0, 13), (1, 4), (0, 15), (1, 16), (1, 17), (1, 18), (1, 19), (1, 20), (1, 21)] (by rfl) (by decide +kernel)
set_option maxRecDepth 20000 in
theorem gX1_told_X0_placesOf : GoodIn wsX1_told (wsV RX1 99 RX0 yX0_placesOf wsX0_placesOf) := goodIn_app (goodIn_of _ (by decide +kernel)) ggX1_told_X0_placesOf
set_option maxRecDepth 20000 in
theorem ggX1_told_X0_countWithoutWays : GoodIn wsX1_told wsX0_countWithoutWays := goodIn_rc _ [(1, 8), (0, 15), (0, 16), (0, 17), (0, 18), (0, 13), (0, 19), (0, 20), (1, 16), (1, 17), (1, 18), (1, 19), (1, 20), (1, 21)] (by rfl) (by decide +kernel)
set_option maxRecDepth 20000 in
theorem gX1_told_X0_countWithoutWays : GoodIn wsX1_told (wsV RX1 114 RX0 yX0_countWithoutWays wsX0_countWithoutWays) := goodIn_app (goodIn_of _ (by decide +kernel)) ggX1_told_X0_countWithoutWays
theorem dX1_told_0 : decode cX1_told 0 = .ok (.iload_n 1, 1) := by decide +kernel
theorem dX1_told_1 : decode cX1_told 1 = .ok (.iconst 0, 1) := by decide +kernel
theorem dX1_told_2 : decode cX1_told 2 = .ok (.bipush 6, 2) := by decide +kernel
theorem dX1_told_4 : decode cX1_told 4 = .ok (.invokestatic 19, 3) := by decide +kernel
theorem dX1_told_7 : decode cX1_told 7 = .ok (.iload_n 1, 1) := by decide +kernel
theorem dX1_told_8 : decode cX1_told 8 = .ok (.tableswitch 83 0 5 #[40, 48, 56, 64, 73, 78], 40) := by decide +kernel
theorem dX1_told_48 : decode cX1_told 48 = .ok (.aload_n 0, 1) := by decide +kernel
theorem dX1_told_49 : decode cX1_told 49 = .ok (.getfield 10, 3) := by decide +kernel
theorem dX1_told_52 : decode cX1_told 52 = .ok (.getfield 23, 3) := by decide +kernel
theorem dX1_told_55 : decode cX1_told 55 = .ok (.ireturn, 1) := by decide +kernel
theorem dX1_told_56 : decode cX1_told 56 = .ok (.aload_n 0, 1) := by decide +kernel
theorem dX1_told_57 : decode cX1_told 57 = .ok (.getfield 10, 3) := by decide +kernel
theorem dX1_told_60 : decode cX1_told 60 = .ok (.invokevirtual 73, 3) := by decide +kernel
theorem dX1_told_63 : decode cX1_told 63 = .ok (.ireturn, 1) := by decide +kernel
theorem dX1_told_64 : decode cX1_told 64 = .ok (.aload_n 0, 1) := by decide +kernel
theorem dX1_told_65 : decode cX1_told 65 = .ok (.getfield 10, 3) := by decide +kernel
theorem dX1_told_68 : decode cX1_told 68 = .ok (.getfield 63, 3) := by decide +kernel
theorem dX1_told_71 : decode cX1_told 71 = .ok (.ireturn, 1) := by decide +kernel
theorem dX1_told_72 : decode cX1_told 72 = .ok (.aload_n 0, 1) := by decide +kernel
theorem dX1_told_73 : decode cX1_told 73 = .ok (.getfield 10, 3) := by decide +kernel
theorem dX1_told_76 : decode cX1_told 76 = .ok (.iconst 1, 1) := by decide +kernel
theorem dX1_told_77 : decode cX1_told 77 = .ok (.invokevirtual 99, 3) := by decide +kernel
theorem dX1_told_80 : decode cX1_told 80 = .ok (.ireturn, 1) := by decide +kernel
theorem dX1_told_81 : decode cX1_told 81 = .ok (.aload_n 0, 1) := by decide +kernel
theorem dX1_told_82 : decode cX1_told 82 = .ok (.getfield 31, 3) := by decide +kernel
theorem dX1_told_85 : decode cX1_told 85 = .ok (.ireturn, 1) := by decide +kernel
theorem dX1_told_86 : decode cX1_told 86 = .ok (.aload_n 0, 1) := by decide +kernel
theorem dX1_told_87 : decode cX1_told 87 = .ok (.getfield 34, 3) := by decide +kernel
theorem dX1_told_90 : decode cX1_told 90 = .ok (.ireturn, 1) := by decide +kernel
