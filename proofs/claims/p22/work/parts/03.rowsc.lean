theorem dX5_init_13 : decode cX5_init 13 = .ok (.sipush 600, 3) := by decide +kernel
theorem dX5_init_16 : decode cX5_init 16 = .ok (.newarray .int, 2) := by decide +kernel
theorem dX5_init_18 : decode cX5_init 18 = .ok (.putfield 15, 3) := by decide +kernel
theorem dX5_init_21 : decode cX5_init 21 = .ok (.aload_n 0, 1) := by decide +kernel
theorem dX5_init_22 : decode cX5_init 22 = .ok (.sipush 600, 3) := by decide +kernel
theorem dX5_init_25 : decode cX5_init 25 = .ok (.newarray .int, 2) := by decide +kernel
theorem dX5_init_27 : decode cX5_init 27 = .ok (.putfield 18, 3) := by decide +kernel
theorem dX5_init_30 : decode cX5_init 30 = .ok (.return_, 1) := by decide +kernel
theorem dX5_isTold_0 : decode cX5_isTold 0 = .ok (.iload_n 1, 1) := by decide +kernel
theorem dX5_isTold_1 : decode cX5_isTold 1 = .ok (.ifCond .lt 22, 3) := by decide +kernel
theorem dX5_isTold_4 : decode cX5_isTold 4 = .ok (.iload_n 1, 1) := by decide +kernel
theorem dX5_isTold_5 : decode cX5_isTold 5 = .ok (.bipush 60, 2) := by decide +kernel
theorem dX5_isTold_7 : decode cX5_isTold 7 = .ok (.if_icmp .ge 16, 3) := by decide +kernel
theorem dX5_isTold_10 : decode cX5_isTold 10 = .ok (.aload_n 0, 1) := by decide +kernel
theorem dX5_isTold_11 : decode cX5_isTold 11 = .ok (.getfield 9, 3) := by decide +kernel
theorem dX5_isTold_14 : decode cX5_isTold 14 = .ok (.iload_n 1, 1) := by decide +kernel
theorem dX5_isTold_15 : decode cX5_isTold 15 = .ok (.iaload, 1) := by decide +kernel
theorem dX5_isTold_16 : decode cX5_isTold 16 = .ok (.ifCond .le 7, 3) := by decide +kernel
theorem dX5_isTold_19 : decode cX5_isTold 19 = .ok (.iconst 1, 1) := by decide +kernel
theorem dX5_isTold_20 : decode cX5_isTold 20 = .ok (.goto 4, 3) := by decide +kernel
theorem dX5_isTold_23 : decode cX5_isTold 23 = .ok (.iconst 0, 1) := by decide +kernel
theorem dX5_isTold_24 : decode cX5_isTold 24 = .ok (.ireturn, 1) := by decide +kernel
set_option maxRecDepth 20000 in
theorem ggX5_hasBerth_X5_isTold : GoodIn wsX5_hasBerth wsX5_isTold := goodIn_sub (gw_c (gw_t (gw_l (gw_g 5 rfl))) (gw_a (gw_c (gw_t (gw_l (gw_g 0 rfl))) gw_n) gw_X5_hasBerth_X50)) (by decide +kernel)
set_option maxRecDepth 20000 in
theorem gX5_hasBerth_X5_isTold : GoodIn wsX5_hasBerth (wsV RX5 21 RX5 yX5_isTold wsX5_isTold) := goodIn_app (goodIn_sub (gw_c (gw_t (gw_l (gw_g 1 rfl))) (gw_c (gw_t (gw_l (gw_g 2 rfl))) (gw_c (gw_t (gw_l (gw_g 3 rfl))) (gw_c (gw_t (gw_l (gw_g 4 rfl))) gw_n)))) (by decide +kernel)) ggX5_hasBerth_X5_isTold
theorem dX5_hasBerth_0 : decode cX5_hasBerth 0 = .ok (.aload_n 0, 1) := by decide +kernel
theorem dX5_hasBerth_1 : decode cX5_hasBerth 1 = .ok (.iload_n 1, 1) := by decide +kernel
theorem dX5_hasBerth_2 : decode cX5_hasBerth 2 = .ok (.invokevirtual 21, 3) := by decide +kernel
theorem dX5_hasBerth_5 : decode cX5_hasBerth 5 = .ok (.ifCond .eq 21, 3) := by decide +kernel
theorem dX5_hasBerth_8 : decode cX5_hasBerth 8 = .ok (.iload_n 2, 1) := by decide +kernel
theorem dX5_hasBerth_9 : decode cX5_hasBerth 9 = .ok (.ifCond .lt 17, 3) := by decide +kernel
theorem dX5_hasBerth_12 : decode cX5_hasBerth 12 = .ok (.iload_n 2, 1) := by decide +kernel
theorem dX5_hasBerth_13 : decode cX5_hasBerth 13 = .ok (.aload_n 0, 1) := by decide +kernel
theorem dX5_hasBerth_14 : decode cX5_hasBerth 14 = .ok (.getfield 9, 3) := by decide +kernel
theorem dX5_hasBerth_17 : decode cX5_hasBerth 17 = .ok (.iload_n 1, 1) := by decide +kernel
theorem dX5_hasBerth_18 : decode cX5_hasBerth 18 = .ok (.iaload, 1) := by decide +kernel
theorem dX5_hasBerth_19 : decode cX5_hasBerth 19 = .ok (.if_icmp .ge 7, 3) := by decide +kernel
theorem dX5_hasBerth_22 : decode cX5_hasBerth 22 = .ok (.iconst 1, 1) := by decide +kernel
theorem dX5_hasBerth_23 : decode cX5_hasBerth 23 = .ok (.goto 4, 3) := by decide +kernel
theorem dX5_hasBerth_26 : decode cX5_hasBerth 26 = .ok (.iconst 0, 1) := by decide +kernel
theorem dX5_hasBerth_27 : decode cX5_hasBerth 27 = .ok (.ireturn, 1) := by decide +kernel
theorem dX5_add_0 : decode cX5_add 0 = .ok (.aload_n 0, 1) := by decide +kernel
theorem dX5_add_1 : decode cX5_add 1 = .ok (.dup, 1) := by decide +kernel
theorem dX5_add_2 : decode cX5_add 2 = .ok (.getfield 25, 3) := by decide +kernel
theorem dX5_add_5 : decode cX5_add 5 = .ok (.iconst 1, 1) := by decide +kernel
theorem dX5_add_6 : decode cX5_add 6 = .ok (.iadd, 1) := by decide +kernel
theorem dX5_add_7 : decode cX5_add 7 = .ok (.putfield 25, 3) := by decide +kernel
theorem dX5_add_10 : decode cX5_add 10 = .ok (.aload_n 0, 1) := by decide +kernel
theorem dX5_add_11 : decode cX5_add 11 = .ok (.getfield 9, 3) := by decide +kernel
theorem dX5_add_14 : decode cX5_add 14 = .ok (.iload_n 1, 1) := by decide +kernel
theorem dX5_add_15 : decode cX5_add 15 = .ok (.iload_n 2, 1) := by decide +kernel
theorem dX5_add_16 : decode cX5_add 16 = .ok (.iastore, 1) := by decide +kernel
theorem dX5_add_17 : decode cX5_add 17 = .ok (.aload_n 3, 1) := by decide +kernel
theorem dX5_add_18 : decode cX5_add 18 = .ok (.iconst 0, 1) := by decide +kernel
theorem dX5_add_19 : decode cX5_add 19 = .ok (.aload_n 0, 1) := by decide +kernel
theorem dX5_add_20 : decode cX5_add 20 = .ok (.getfield 15, 3) := by decide +kernel
theorem dX5_add_23 : decode cX5_add 23 = .ok (.iload_n 1, 1) := by decide +kernel
theorem dX5_add_24 : decode cX5_add 24 = .ok (.bipush 10, 2) := by decide +kernel
theorem dX5_add_26 : decode cX5_add 26 = .ok (.imul, 1) := by decide +kernel
theorem dX5_add_27 : decode cX5_add 27 = .ok (.bipush 10, 2) := by decide +kernel
theorem dX5_add_29 : decode cX5_add 29 = .ok (.invokestatic 29, 3) := by decide +kernel
theorem dX5_add_32 : decode cX5_add 32 = .ok (.return_, 1) := by decide +kernel
theorem dX5_owner_0 : decode cX5_owner 0 = .ok (.aload_n 0, 1) := by decide +kernel
theorem dX5_owner_1 : decode cX5_owner 1 = .ok (.getfield 15, 3) := by decide +kernel
theorem dX5_owner_4 : decode cX5_owner 4 = .ok (.iload_n 1, 1) := by decide +kernel
theorem dX5_owner_5 : decode cX5_owner 5 = .ok (.bipush 10, 2) := by decide +kernel
theorem dX5_owner_7 : decode cX5_owner 7 = .ok (.imul, 1) := by decide +kernel
theorem dX5_owner_8 : decode cX5_owner 8 = .ok (.iload_n 2, 1) := by decide +kernel
theorem dX5_owner_9 : decode cX5_owner 9 = .ok (.iadd, 1) := by decide +kernel
theorem dX5_owner_10 : decode cX5_owner 10 = .ok (.iaload, 1) := by decide +kernel
theorem dX5_owner_11 : decode cX5_owner 11 = .ok (.ireturn, 1) := by decide +kernel
theorem dX5_legsOf_0 : decode cX5_legsOf 0 = .ok (.aload_n 0, 1) := by decide +kernel
theorem dX5_legsOf_1 : decode cX5_legsOf 1 = .ok (.getfield 18, 3) := by decide +kernel
theorem dX5_legsOf_4 : decode cX5_legsOf 4 = .ok (.iload_n 1, 1) := by decide +kernel
theorem dX5_legsOf_5 : decode cX5_legsOf 5 = .ok (.bipush 10, 2) := by decide +kernel
theorem dX5_legsOf_7 : decode cX5_legsOf 7 = .ok (.imul, 1) := by decide +kernel
theorem dX5_legsOf_8 : decode cX5_legsOf 8 = .ok (.iload_n 2, 1) := by decide +kernel
theorem dX5_legsOf_9 : decode cX5_legsOf 9 = .ok (.iadd, 1) := by decide +kernel
theorem dX5_legsOf_10 : decode cX5_legsOf 10 = .ok (.iaload, 1) := by decide +kernel
theorem dX5_legsOf_11 : decode cX5_legsOf 11 = .ok (.ireturn, 1) := by decide +kernel
theorem dX5_setLegs_0 : decode cX5_setLegs 0 = .ok (.aload_n 0, 1) := by decide +kernel
theorem dX5_setLegs_1 : decode cX5_setLegs 1 = .ok (.getfield 18, 3) := by decide +kernel
theorem dX5_setLegs_4 : decode cX5_setLegs 4 = .ok (.iload_n 1, 1) := by decide +kernel
theorem dX5_setLegs_5 : decode cX5_setLegs 5 = .ok (.bipush 10, 2) := by decide +kernel
theorem dX5_setLegs_7 : decode cX5_setLegs 7 = .ok (.imul, 1) := by decide +kernel
theorem dX5_setLegs_8 : decode cX5_setLegs 8 = .ok (.iload_n 2, 1) := by decide +kernel
theorem dX5_setLegs_9 : decode cX5_setLegs 9 = .ok (.iadd, 1) := by decide +kernel
theorem dX5_setLegs_10 : decode cX5_setLegs 10 = .ok (.iload_n 3, 1) := by decide +kernel
theorem dX5_setLegs_11 : decode cX5_setLegs 11 = .ok (.iastore, 1) := by decide +kernel
theorem dX5_setLegs_12 : decode cX5_setLegs 12 = .ok (.return_, 1) := by decide +kernel
set_option maxRecDepth 20000 in
theorem ggX5_isSold_X5_legsOf : GoodIn wsX5_isSold wsX5_legsOf := goodIn_sub (gw_c (gw_t (gw_l (gw_g 4 rfl))) (gw_a (gw_c (gw_t (gw_l (gw_g 5 rfl))) gw_n) gw_X5_isSold_X50)) (by decide +kernel)
set_option maxRecDepth 20000 in
theorem gX5_isSold_X5_legsOf : GoodIn wsX5_isSold (wsV RX5 35 RX5 yX5_legsOf wsX5_legsOf) := goodIn_app (goodIn_sub (gw_c (gw_t (gw_l (gw_g 0 rfl))) (gw_c (gw_t (gw_l (gw_g 1 rfl))) (gw_c (gw_t (gw_l (gw_g 2 rfl))) (gw_c (gw_t (gw_l (gw_g 3 rfl))) gw_n)))) (by decide +kernel)) ggX5_isSold_X5_legsOf
theorem dX5_isSold_0 : decode cX5_isSold 0 = .ok (.aload_n 0, 1) := by decide +kernel
theorem dX5_isSold_1 : decode cX5_isSold 1 = .ok (.iload_n 1, 1) := by decide +kernel
theorem dX5_isSold_2 : decode cX5_isSold 2 = .ok (.iload_n 2, 1) := by decide +kernel
theorem dX5_isSold_3 : decode cX5_isSold 3 = .ok (.invokevirtual 35, 3) := by decide +kernel
theorem dX5_isSold_6 : decode cX5_isSold 6 = .ok (.iload_n 3, 1) := by decide +kernel
theorem dX5_isSold_7 : decode cX5_isSold 7 = .ok (.ishr, 1) := by decide +kernel
theorem dX5_isSold_8 : decode cX5_isSold 8 = .ok (.iconst 1, 1) := by decide +kernel
theorem dX5_isSold_9 : decode cX5_isSold 9 = .ok (.iand, 1) := by decide +kernel
theorem dX5_isSold_10 : decode cX5_isSold 10 = .ok (.iconst 1, 1) := by decide +kernel
theorem dX5_isSold_11 : decode cX5_isSold 11 = .ok (.if_icmp .ne 7, 3) := by decide +kernel
theorem dX5_isSold_14 : decode cX5_isSold 14 = .ok (.iconst 1, 1) := by decide +kernel
theorem dX5_isSold_15 : decode cX5_isSold 15 = .ok (.goto 4, 3) := by decide +kernel
theorem dX5_isSold_18 : decode cX5_isSold 18 = .ok (.iconst 0, 1) := by decide +kernel
theorem dX5_isSold_19 : decode cX5_isSold 19 = .ok (.ireturn, 1) := by decide +kernel
set_option maxRecDepth 20000 in
theorem ggX5_soldOn_X5_isSold : GoodIn wsX5_soldOn wsX5_isSold := goodIn_sub (gw_c (gw_t (gw_l (gw_g 5 rfl))) (gw_a (gw_c (gw_t (gw_l (gw_g 6 rfl))) (gw_c (gw_t (gw_l (gw_g 7 rfl))) (gw_c (gw_t (gw_l (gw_g 8 rfl))) (gw_c (gw_t (gw_l (gw_g 4 rfl))) (gw_c (gw_t (gw_l (gw_g 9 rfl))) (gw_c (gw_t (gw_l (gw_g 10 rfl))) gw_n)))))) gw_X5_soldOn_X50)) (by decide +kernel)
set_option maxRecDepth 20000 in
theorem gX5_soldOn_X5_isSold : GoodIn wsX5_soldOn (wsV RX5 39 RX5 yX5_isSold wsX5_isSold) := goodIn_app (goodIn_sub (gw_c (gw_t (gw_l (gw_g 1 rfl))) (gw_c (gw_t (gw_l (gw_g 2 rfl))) (gw_c (gw_t (gw_l (gw_g 3 rfl))) (gw_c (gw_t (gw_l (gw_g 4 rfl))) gw_n)))) (by decide +kernel)) ggX5_soldOn_X5_isSold
theorem dX5_soldOn_0 : decode cX5_soldOn 0 = .ok (.iconst 0, 1) := by decide +kernel
theorem dX5_soldOn_1 : decode cX5_soldOn 1 = .ok (.istore_n 3, 1) := by decide +kernel
theorem dX5_soldOn_2 : decode cX5_soldOn 2 = .ok (.iconst 0, 1) := by decide +kernel
theorem dX5_soldOn_3 : decode cX5_soldOn 3 = .ok (.istore 4, 2) := by decide +kernel
theorem dX5_soldOn_5 : decode cX5_soldOn 5 = .ok (.iload 4, 2) := by decide +kernel
theorem dX5_soldOn_7 : decode cX5_soldOn 7 = .ok (.aload_n 0, 1) := by decide +kernel
theorem dX5_soldOn_8 : decode cX5_soldOn 8 = .ok (.getfield 9, 3) := by decide +kernel
theorem dX5_soldOn_11 : decode cX5_soldOn 11 = .ok (.iload_n 1, 1) := by decide +kernel
theorem dX5_soldOn_12 : decode cX5_soldOn 12 = .ok (.iaload, 1) := by decide +kernel
theorem dX5_soldOn_13 : decode cX5_soldOn 13 = .ok (.if_icmp .ge 23, 3) := by decide +kernel
theorem dX5_soldOn_16 : decode cX5_soldOn 16 = .ok (.aload_n 0, 1) := by decide +kernel
theorem dX5_soldOn_17 : decode cX5_soldOn 17 = .ok (.iload_n 1, 1) := by decide +kernel
theorem dX5_soldOn_18 : decode cX5_soldOn 18 = .ok (.iload 4, 2) := by decide +kernel
theorem dX5_soldOn_20 : decode cX5_soldOn 20 = .ok (.iload_n 2, 1) := by decide +kernel
theorem dX5_soldOn_21 : decode cX5_soldOn 21 = .ok (.invokevirtual 39, 3) := by decide +kernel
theorem dX5_soldOn_24 : decode cX5_soldOn 24 = .ok (.ifCond .eq 6, 3) := by decide +kernel
theorem dX5_soldOn_27 : decode cX5_soldOn 27 = .ok (.iinc 3 1, 3) := by decide +kernel
theorem dX5_soldOn_30 : decode cX5_soldOn 30 = .ok (.iinc 4 1, 3) := by decide +kernel
theorem dX5_soldOn_33 : decode cX5_soldOn 33 = .ok (.goto (-28), 3) := by decide +kernel
theorem dX5_soldOn_36 : decode cX5_soldOn 36 = .ok (.iload_n 3, 1) := by decide +kernel
theorem dX5_soldOn_37 : decode cX5_soldOn 37 = .ok (.ireturn, 1) := by decide +kernel
set_option maxRecDepth 20000 in
theorem ggX5_gap_X5_isSold : GoodIn wsX5_gap wsX5_isSold := goodIn_sub (gw_c (gw_t (gw_l (gw_g 4 rfl))) (gw_a (gw_c (gw_t (gw_l (gw_g 5 rfl))) (gw_c (gw_t (gw_l (gw_g 6 rfl))) (gw_c (gw_t (gw_l (gw_g 7 rfl))) (gw_c (gw_t (gw_l (gw_g 3 rfl))) (gw_c (gw_t (gw_l (gw_g 8 rfl))) (gw_c (gw_t (gw_l (gw_g 9 rfl))) gw_n)))))) gw_X5_gap_X50)) (by decide +kernel)
set_option maxRecDepth 20000 in
theorem gX5_gap_X5_isSold : GoodIn wsX5_gap (wsV RX5 39 RX5 yX5_isSold wsX5_isSold) := goodIn_app (goodIn_sub (gw_c (gw_t (gw_l (gw_g 0 rfl))) (gw_c (gw_t (gw_l (gw_g 1 rfl))) (gw_c (gw_t (gw_l (gw_g 2 rfl))) (gw_c (gw_t (gw_l (gw_g 3 rfl))) gw_n)))) (by decide +kernel)) ggX5_gap_X5_isSold
theorem dX5_gap_0 : decode cX5_gap 0 = .ok (.iload_n 3, 1) := by decide +kernel
theorem dX5_gap_1 : decode cX5_gap 1 = .ok (.istore 6, 2) := by decide +kernel
theorem dX5_gap_3 : decode cX5_gap 3 = .ok (.iload 6, 2) := by decide +kernel
theorem dX5_gap_5 : decode cX5_gap 5 = .ok (.ifCond .le 22, 3) := by decide +kernel
theorem dX5_gap_8 : decode cX5_gap 8 = .ok (.aload_n 0, 1) := by decide +kernel
theorem dX5_gap_9 : decode cX5_gap 9 = .ok (.iload_n 1, 1) := by decide +kernel
theorem dX5_gap_10 : decode cX5_gap 10 = .ok (.iload_n 2, 1) := by decide +kernel
theorem dX5_gap_11 : decode cX5_gap 11 = .ok (.iload 6, 2) := by decide +kernel
theorem dX5_gap_13 : decode cX5_gap 13 = .ok (.iconst 1, 1) := by decide +kernel
theorem dX5_gap_14 : decode cX5_gap 14 = .ok (.isub, 1) := by decide +kernel
theorem dX5_gap_15 : decode cX5_gap 15 = .ok (.invokevirtual 39, 3) := by decide +kernel
theorem dX5_gap_18 : decode cX5_gap 18 = .ok (.ifCond .ne 9, 3) := by decide +kernel
theorem dX5_gap_21 : decode cX5_gap 21 = .ok (.iinc 6 (-1), 3) := by decide +kernel
theorem dX5_gap_24 : decode cX5_gap 24 = .ok (.goto (-21), 3) := by decide +kernel
theorem dX5_gap_27 : decode cX5_gap 27 = .ok (.iload 4, 2) := by decide +kernel
theorem dX5_gap_29 : decode cX5_gap 29 = .ok (.istore 7, 2) := by decide +kernel
theorem dX5_gap_31 : decode cX5_gap 31 = .ok (.iload 7, 2) := by decide +kernel
theorem dX5_gap_33 : decode cX5_gap 33 = .ok (.iload 5, 2) := by decide +kernel
theorem dX5_gap_35 : decode cX5_gap 35 = .ok (.if_icmp .ge 20, 3) := by decide +kernel
theorem dX5_gap_38 : decode cX5_gap 38 = .ok (.aload_n 0, 1) := by decide +kernel
theorem dX5_gap_39 : decode cX5_gap 39 = .ok (.iload_n 1, 1) := by decide +kernel
theorem dX5_gap_40 : decode cX5_gap 40 = .ok (.iload_n 2, 1) := by decide +kernel
theorem dX5_gap_41 : decode cX5_gap 41 = .ok (.iload 7, 2) := by decide +kernel
theorem dX5_gap_43 : decode cX5_gap 43 = .ok (.invokevirtual 39, 3) := by decide +kernel
theorem dX5_gap_46 : decode cX5_gap 46 = .ok (.ifCond .ne 9, 3) := by decide +kernel
theorem dX5_gap_49 : decode cX5_gap 49 = .ok (.iinc 7 1, 3) := by decide +kernel
theorem dX5_gap_52 : decode cX5_gap 52 = .ok (.goto (-21), 3) := by decide +kernel
theorem dX5_gap_55 : decode cX5_gap 55 = .ok (.iload 7, 2) := by decide +kernel
theorem dX5_gap_57 : decode cX5_gap 57 = .ok (.iload 6, 2) := by decide +kernel
theorem dX5_gap_59 : decode cX5_gap 59 = .ok (.isub, 1) := by decide +kernel
theorem dX5_gap_60 : decode cX5_gap 60 = .ok (.ireturn, 1) := by decide +kernel
theorem dX5_copyFrom_0 : decode cX5_copyFrom 0 = .ok (.aload_n 0, 1) := by decide +kernel
theorem dX5_copyFrom_1 : decode cX5_copyFrom 1 = .ok (.aload_n 1, 1) := by decide +kernel
theorem dX5_copyFrom_2 : decode cX5_copyFrom 2 = .ok (.getfield 25, 3) := by decide +kernel
theorem dX5_copyFrom_5 : decode cX5_copyFrom 5 = .ok (.putfield 25, 3) := by decide +kernel
theorem dX5_copyFrom_8 : decode cX5_copyFrom 8 = .ok (.aload_n 1, 1) := by decide +kernel
theorem dX5_copyFrom_9 : decode cX5_copyFrom 9 = .ok (.getfield 9, 3) := by decide +kernel
theorem dX5_copyFrom_12 : decode cX5_copyFrom 12 = .ok (.iconst 0, 1) := by decide +kernel
theorem dX5_copyFrom_13 : decode cX5_copyFrom 13 = .ok (.aload_n 0, 1) := by decide +kernel
theorem dX5_copyFrom_14 : decode cX5_copyFrom 14 = .ok (.getfield 9, 3) := by decide +kernel
theorem dX5_copyFrom_17 : decode cX5_copyFrom 17 = .ok (.iconst 0, 1) := by decide +kernel
theorem dX5_copyFrom_18 : decode cX5_copyFrom 18 = .ok (.aload_n 0, 1) := by decide +kernel
theorem dX5_copyFrom_19 : decode cX5_copyFrom 19 = .ok (.getfield 9, 3) := by decide +kernel
theorem dX5_copyFrom_22 : decode cX5_copyFrom 22 = .ok (.arraylength, 1) := by decide +kernel
theorem dX5_copyFrom_23 : decode cX5_copyFrom 23 = .ok (.invokestatic 29, 3) := by decide +kernel
theorem dX5_copyFrom_26 : decode cX5_copyFrom 26 = .ok (.aload_n 1, 1) := by decide +kernel
theorem dX5_copyFrom_27 : decode cX5_copyFrom 27 = .ok (.getfield 15, 3) := by decide +kernel
theorem dX5_copyFrom_30 : decode cX5_copyFrom 30 = .ok (.iconst 0, 1) := by decide +kernel
theorem dX5_copyFrom_31 : decode cX5_copyFrom 31 = .ok (.aload_n 0, 1) := by decide +kernel
theorem dX5_copyFrom_32 : decode cX5_copyFrom 32 = .ok (.getfield 15, 3) := by decide +kernel
theorem dX5_copyFrom_35 : decode cX5_copyFrom 35 = .ok (.iconst 0, 1) := by decide +kernel
theorem dX5_copyFrom_36 : decode cX5_copyFrom 36 = .ok (.aload_n 0, 1) := by decide +kernel
theorem dX5_copyFrom_37 : decode cX5_copyFrom 37 = .ok (.getfield 15, 3) := by decide +kernel
theorem dX5_copyFrom_40 : decode cX5_copyFrom 40 = .ok (.arraylength, 1) := by decide +kernel
theorem dX5_copyFrom_41 : decode cX5_copyFrom 41 = .ok (.invokestatic 29, 3) := by decide +kernel
theorem dX5_copyFrom_44 : decode cX5_copyFrom 44 = .ok (.aload_n 1, 1) := by decide +kernel
theorem dX5_copyFrom_45 : decode cX5_copyFrom 45 = .ok (.getfield 18, 3) := by decide +kernel
theorem dX5_copyFrom_48 : decode cX5_copyFrom 48 = .ok (.iconst 0, 1) := by decide +kernel
theorem dX5_copyFrom_49 : decode cX5_copyFrom 49 = .ok (.aload_n 0, 1) := by decide +kernel
theorem dX5_copyFrom_50 : decode cX5_copyFrom 50 = .ok (.getfield 18, 3) := by decide +kernel
theorem dX5_copyFrom_53 : decode cX5_copyFrom 53 = .ok (.iconst 0, 1) := by decide +kernel
theorem dX5_copyFrom_54 : decode cX5_copyFrom 54 = .ok (.aload_n 0, 1) := by decide +kernel
theorem dX5_copyFrom_55 : decode cX5_copyFrom 55 = .ok (.getfield 18, 3) := by decide +kernel
theorem dX5_copyFrom_58 : decode cX5_copyFrom 58 = .ok (.arraylength, 1) := by decide +kernel
theorem dX5_copyFrom_59 : decode cX5_copyFrom 59 = .ok (.invokestatic 29, 3) := by decide +kernel
theorem dX5_copyFrom_62 : decode cX5_copyFrom 62 = .ok (.return_, 1) := by decide +kernel
theorem dX6_init_0 : decode cX6_init 0 = .ok (.aload_n 0, 1) := by decide +kernel
theorem dX6_init_1 : decode cX6_init 1 = .ok (.invokespecial 3, 3) := by decide +kernel
theorem dX6_init_4 : decode cX6_init 4 = .ok (.aload_n 0, 1) := by decide +kernel
theorem dX6_init_5 : decode cX6_init 5 = .ok (.sipush 400, 3) := by decide +kernel
theorem dX6_init_8 : decode cX6_init 8 = .ok (.newarray .int, 2) := by decide +kernel
theorem dX6_init_10 : decode cX6_init 10 = .ok (.putfield 9, 3) := by decide +kernel
theorem dX6_init_13 : decode cX6_init 13 = .ok (.return_, 1) := by decide +kernel
theorem dX6_append_0 : decode cX6_append 0 = .ok (.bipush 24, 2) := by decide +kernel
theorem dX6_append_2 : decode cX6_append 2 = .ok (.istore_n 2, 1) := by decide +kernel
theorem dX6_append_3 : decode cX6_append 3 = .ok (.iload_n 2, 1) := by decide +kernel
theorem dX6_append_4 : decode cX6_append 4 = .ok (.ifCond .lt 45, 3) := by decide +kernel
theorem dX6_append_7 : decode cX6_append 7 = .ok (.aload_n 0, 1) := by decide +kernel
theorem dX6_append_8 : decode cX6_append 8 = .ok (.getfield 15, 3) := by decide +kernel
theorem dX6_append_11 : decode cX6_append 11 = .ok (.sipush 400, 3) := by decide +kernel
theorem dX6_append_14 : decode cX6_append 14 = .ok (.if_icmp .ge 35, 3) := by decide +kernel
theorem dX6_append_17 : decode cX6_append 17 = .ok (.aload_n 0, 1) := by decide +kernel
theorem dX6_append_18 : decode cX6_append 18 = .ok (.getfield 9, 3) := by decide +kernel
theorem dX6_append_21 : decode cX6_append 21 = .ok (.aload_n 0, 1) := by decide +kernel
theorem dX6_append_22 : decode cX6_append 22 = .ok (.getfield 15, 3) := by decide +kernel
theorem dX6_append_25 : decode cX6_append 25 = .ok (.iload_n 1, 1) := by decide +kernel
theorem dX6_append_26 : decode cX6_append 26 = .ok (.iload_n 2, 1) := by decide +kernel
theorem dX6_append_27 : decode cX6_append 27 = .ok (.ishr, 1) := by decide +kernel
theorem dX6_append_28 : decode cX6_append 28 = .ok (.sipush 255, 3) := by decide +kernel
theorem dX6_append_31 : decode cX6_append 31 = .ok (.iand, 1) := by decide +kernel
theorem dX6_append_32 : decode cX6_append 32 = .ok (.iastore, 1) := by decide +kernel
theorem dX6_append_33 : decode cX6_append 33 = .ok (.aload_n 0, 1) := by decide +kernel
theorem dX6_append_34 : decode cX6_append 34 = .ok (.dup, 1) := by decide +kernel
theorem dX6_append_35 : decode cX6_append 35 = .ok (.getfield 15, 3) := by decide +kernel
theorem dX6_append_38 : decode cX6_append 38 = .ok (.iconst 1, 1) := by decide +kernel
theorem dX6_append_39 : decode cX6_append 39 = .ok (.iadd, 1) := by decide +kernel
theorem dX6_append_40 : decode cX6_append 40 = .ok (.putfield 15, 3) := by decide +kernel
theorem dX6_append_43 : decode cX6_append 43 = .ok (.iinc 2 (-8), 3) := by decide +kernel
theorem dX6_append_46 : decode cX6_append 46 = .ok (.goto (-43), 3) := by decide +kernel
theorem dX6_append_49 : decode cX6_append 49 = .ok (.return_, 1) := by decide +kernel
theorem dX7_init_0 : decode cX7_init 0 = .ok (.aload_n 0, 1) := by decide +kernel
theorem dX7_init_1 : decode cX7_init 1 = .ok (.invokespecial 3, 3) := by decide +kernel
theorem dX7_init_4 : decode cX7_init 4 = .ok (.aload_n 0, 1) := by decide +kernel
theorem dX7_init_5 : decode cX7_init 5 = .ok (.sipush 300, 3) := by decide +kernel
theorem dX7_init_8 : decode cX7_init 8 = .ok (.newarray .int, 2) := by decide +kernel
theorem dX7_init_10 : decode cX7_init 10 = .ok (.putfield 9, 3) := by decide +kernel
theorem dX7_init_13 : decode cX7_init 13 = .ok (.aload_n 0, 1) := by decide +kernel
theorem dX7_init_14 : decode cX7_init 14 = .ok (.sipush 300, 3) := by decide +kernel
theorem dX7_init_17 : decode cX7_init 17 = .ok (.newarray .int, 2) := by decide +kernel
theorem dX7_init_19 : decode cX7_init 19 = .ok (.putfield 15, 3) := by decide +kernel
theorem dX7_init_22 : decode cX7_init 22 = .ok (.aload_n 0, 1) := by decide +kernel
theorem dX7_init_23 : decode cX7_init 23 = .ok (.sipush 300, 3) := by decide +kernel
theorem dX7_init_26 : decode cX7_init 26 = .ok (.newarray .int, 2) := by decide +kernel
theorem dX7_init_28 : decode cX7_init 28 = .ok (.putfield 18, 3) := by decide +kernel
theorem dX7_init_31 : decode cX7_init 31 = .ok (.aload_n 0, 1) := by decide +kernel
theorem dX7_init_32 : decode cX7_init 32 = .ok (.sipush 300, 3) := by decide +kernel
theorem dX7_init_35 : decode cX7_init 35 = .ok (.newarray .int, 2) := by decide +kernel
theorem dX7_init_37 : decode cX7_init 37 = .ok (.putfield 21, 3) := by decide +kernel
theorem dX7_init_40 : decode cX7_init 40 = .ok (.aload_n 0, 1) := by decide +kernel
theorem dX7_init_41 : decode cX7_init 41 = .ok (.sipush 300, 3) := by decide +kernel
theorem dX7_init_44 : decode cX7_init 44 = .ok (.newarray .int, 2) := by decide +kernel
theorem dX7_init_46 : decode cX7_init 46 = .ok (.putfield 24, 3) := by decide +kernel
theorem dX7_init_49 : decode cX7_init 49 = .ok (.aload_n 0, 1) := by decide +kernel
theorem dX7_init_50 : decode cX7_init 50 = .ok (.sipush 300, 3) := by decide +kernel
theorem dX7_init_53 : decode cX7_init 53 = .ok (.newarray .int, 2) := by decide +kernel
theorem dX7_init_55 : decode cX7_init 55 = .ok (.putfield 27, 3) := by decide +kernel
theorem dX7_init_58 : decode cX7_init 58 = .ok (.return_, 1) := by decide +kernel
theorem dX7_has_0 : decode cX7_has 0 = .ok (.iload_n 1, 1) := by decide +kernel
theorem dX7_has_1 : decode cX7_has 1 = .ok (.ifCond .lt 15, 3) := by decide +kernel
theorem dX7_has_4 : decode cX7_has 4 = .ok (.iload_n 1, 1) := by decide +kernel
theorem dX7_has_5 : decode cX7_has 5 = .ok (.aload_n 0, 1) := by decide +kernel
theorem dX7_has_6 : decode cX7_has 6 = .ok (.getfield 30, 3) := by decide +kernel
theorem dX7_has_9 : decode cX7_has 9 = .ok (.if_icmp .ge 7, 3) := by decide +kernel
theorem dX7_has_12 : decode cX7_has 12 = .ok (.iconst 1, 1) := by decide +kernel
theorem dX7_has_13 : decode cX7_has 13 = .ok (.goto 4, 3) := by decide +kernel
theorem dX7_has_16 : decode cX7_has 16 = .ok (.iconst 0, 1) := by decide +kernel
theorem dX7_has_17 : decode cX7_has 17 = .ok (.ireturn, 1) := by decide +kernel
theorem dX7_isFull_0 : decode cX7_isFull 0 = .ok (.aload_n 0, 1) := by decide +kernel
theorem dX7_isFull_1 : decode cX7_isFull 1 = .ok (.getfield 30, 3) := by decide +kernel
theorem dX7_isFull_4 : decode cX7_isFull 4 = .ok (.sipush 300, 3) := by decide +kernel
theorem dX7_isFull_7 : decode cX7_isFull 7 = .ok (.if_icmp .lt 7, 3) := by decide +kernel
theorem dX7_isFull_10 : decode cX7_isFull 10 = .ok (.iconst 1, 1) := by decide +kernel
theorem dX7_isFull_11 : decode cX7_isFull 11 = .ok (.goto 4, 3) := by decide +kernel
theorem dX7_isFull_14 : decode cX7_isFull 14 = .ok (.iconst 0, 1) := by decide +kernel
theorem dX7_isFull_15 : decode cX7_isFull 15 = .ok (.ireturn, 1) := by decide +kernel
set_option maxRecDepth 20000 in
theorem ggX7_add_X7_isFull : GoodIn wsX7_add wsX7_isFull := goodIn_sub (gw_c (gw_t (gw_l (gw_g 11 rfl))) (gw_a (gw_c (gw_t (gw_l (gw_g 1 rfl))) gw_n) gw_X7_add_X70)) (by decide +kernel)
set_option maxRecDepth 20000 in
theorem gX7_add_X7_isFull : GoodIn wsX7_add (wsV RX7 34 RX7 yX7_isFull wsX7_isFull) := goodIn_app (goodIn_sub (gw_c (gw_t (gw_l (gw_g 7 rfl))) (gw_c (gw_t (gw_l (gw_g 8 rfl))) (gw_c (gw_t (gw_l (gw_g 9 rfl))) (gw_c (gw_t (gw_l (gw_g 10 rfl))) gw_n)))) (by decide +kernel)) ggX7_add_X7_isFull
theorem dX7_add_0 : decode cX7_add 0 = .ok (.aload_n 0, 1) := by decide +kernel
theorem dX7_add_1 : decode cX7_add 1 = .ok (.invokevirtual 34, 3) := by decide +kernel
theorem dX7_add_4 : decode cX7_add 4 = .ok (.ifCond .eq 5, 3) := by decide +kernel
theorem dX7_add_7 : decode cX7_add 7 = .ok (.iconst (-1), 1) := by decide +kernel
theorem dX7_add_8 : decode cX7_add 8 = .ok (.ireturn, 1) := by decide +kernel
theorem dX7_add_9 : decode cX7_add 9 = .ok (.aload_n 0, 1) := by decide +kernel
theorem dX7_add_10 : decode cX7_add 10 = .ok (.getfield 9, 3) := by decide +kernel
theorem dX7_add_13 : decode cX7_add 13 = .ok (.aload_n 0, 1) := by decide +kernel
theorem dX7_add_14 : decode cX7_add 14 = .ok (.getfield 30, 3) := by decide +kernel
theorem dX7_add_17 : decode cX7_add 17 = .ok (.iload_n 2, 1) := by decide +kernel
theorem dX7_add_18 : decode cX7_add 18 = .ok (.iastore, 1) := by decide +kernel
theorem dX7_add_19 : decode cX7_add 19 = .ok (.aload_n 0, 1) := by decide +kernel
theorem dX7_add_20 : decode cX7_add 20 = .ok (.getfield 15, 3) := by decide +kernel
theorem dX7_add_23 : decode cX7_add 23 = .ok (.aload_n 0, 1) := by decide +kernel
theorem dX7_add_24 : decode cX7_add 24 = .ok (.getfield 30, 3) := by decide +kernel
theorem dX7_add_27 : decode cX7_add 27 = .ok (.iload_n 3, 1) := by decide +kernel
theorem dX7_add_28 : decode cX7_add 28 = .ok (.iastore, 1) := by decide +kernel
theorem dX7_add_29 : decode cX7_add 29 = .ok (.aload_n 0, 1) := by decide +kernel
theorem dX7_add_30 : decode cX7_add 30 = .ok (.getfield 18, 3) := by decide +kernel
theorem dX7_add_33 : decode cX7_add 33 = .ok (.aload_n 0, 1) := by decide +kernel
theorem dX7_add_34 : decode cX7_add 34 = .ok (.getfield 30, 3) := by decide +kernel
theorem dX7_add_37 : decode cX7_add 37 = .ok (.iload 4, 2) := by decide +kernel
theorem dX7_add_39 : decode cX7_add 39 = .ok (.iastore, 1) := by decide +kernel
theorem dX7_add_40 : decode cX7_add 40 = .ok (.aload_n 0, 1) := by decide +kernel
theorem dX7_add_41 : decode cX7_add 41 = .ok (.getfield 21, 3) := by decide +kernel
theorem dX7_add_44 : decode cX7_add 44 = .ok (.aload_n 0, 1) := by decide +kernel
theorem dX7_add_45 : decode cX7_add 45 = .ok (.getfield 30, 3) := by decide +kernel
theorem dX7_add_48 : decode cX7_add 48 = .ok (.iload 5, 2) := by decide +kernel
theorem dX7_add_50 : decode cX7_add 50 = .ok (.iastore, 1) := by decide +kernel
theorem dX7_add_51 : decode cX7_add 51 = .ok (.aload_n 0, 1) := by decide +kernel
theorem dX7_add_52 : decode cX7_add 52 = .ok (.getfield 24, 3) := by decide +kernel
theorem dX7_add_55 : decode cX7_add 55 = .ok (.aload_n 0, 1) := by decide +kernel
theorem dX7_add_56 : decode cX7_add 56 = .ok (.getfield 30, 3) := by decide +kernel
theorem dX7_add_59 : decode cX7_add 59 = .ok (.iload_n 1, 1) := by decide +kernel
theorem dX7_add_60 : decode cX7_add 60 = .ok (.iastore, 1) := by decide +kernel
theorem dX7_add_61 : decode cX7_add 61 = .ok (.aload_n 0, 1) := by decide +kernel
theorem dX7_add_62 : decode cX7_add 62 = .ok (.getfield 27, 3) := by decide +kernel
theorem dX7_add_65 : decode cX7_add 65 = .ok (.aload_n 0, 1) := by decide +kernel
theorem dX7_add_66 : decode cX7_add 66 = .ok (.getfield 30, 3) := by decide +kernel
theorem dX7_add_69 : decode cX7_add 69 = .ok (.iconst 0, 1) := by decide +kernel
theorem dX7_add_70 : decode cX7_add 70 = .ok (.iastore, 1) := by decide +kernel
theorem dX7_add_71 : decode cX7_add 71 = .ok (.aload_n 0, 1) := by decide +kernel
theorem dX7_add_72 : decode cX7_add 72 = .ok (.dup, 1) := by decide +kernel
theorem dX7_add_73 : decode cX7_add 73 = .ok (.getfield 30, 3) := by decide +kernel
theorem dX7_add_76 : decode cX7_add 76 = .ok (.iconst 1, 1) := by decide +kernel
theorem dX7_add_77 : decode cX7_add 77 = .ok (.iadd, 1) := by decide +kernel
theorem dX7_add_78 : decode cX7_add 78 = .ok (.putfield 30, 3) := by decide +kernel
theorem dX7_add_81 : decode cX7_add 81 = .ok (.aload_n 0, 1) := by decide +kernel
theorem dX7_add_82 : decode cX7_add 82 = .ok (.getfield 30, 3) := by decide +kernel
theorem dX7_add_85 : decode cX7_add 85 = .ok (.iconst 1, 1) := by decide +kernel
theorem dX7_add_86 : decode cX7_add 86 = .ok (.isub, 1) := by decide +kernel
theorem dX7_add_87 : decode cX7_add 87 = .ok (.ireturn, 1) := by decide +kernel
theorem dX7_isLive_0 : decode cX7_isLive 0 = .ok (.aload_n 0, 1) := by decide +kernel
theorem dX7_isLive_1 : decode cX7_isLive 1 = .ok (.getfield 27, 3) := by decide +kernel
theorem dX7_isLive_4 : decode cX7_isLive 4 = .ok (.iload_n 1, 1) := by decide +kernel
theorem dX7_isLive_5 : decode cX7_isLive 5 = .ok (.iaload, 1) := by decide +kernel
theorem dX7_isLive_6 : decode cX7_isLive 6 = .ok (.ifCond .ne 17, 3) := by decide +kernel
theorem dX7_isLive_9 : decode cX7_isLive 9 = .ok (.aload_n 0, 1) := by decide +kernel
theorem dX7_isLive_10 : decode cX7_isLive 10 = .ok (.getfield 9, 3) := by decide +kernel
theorem dX7_isLive_13 : decode cX7_isLive 13 = .ok (.iload_n 1, 1) := by decide +kernel
theorem dX7_isLive_14 : decode cX7_isLive 14 = .ok (.iaload, 1) := by decide +kernel
theorem dX7_isLive_15 : decode cX7_isLive 15 = .ok (.iload_n 2, 1) := by decide +kernel
theorem dX7_isLive_16 : decode cX7_isLive 16 = .ok (.if_icmp .ne 7, 3) := by decide +kernel
theorem dX7_isLive_19 : decode cX7_isLive 19 = .ok (.iconst 1, 1) := by decide +kernel
theorem dX7_isLive_20 : decode cX7_isLive 20 = .ok (.goto 4, 3) := by decide +kernel
theorem dX7_isLive_23 : decode cX7_isLive 23 = .ok (.iconst 0, 1) := by decide +kernel
theorem dX7_isLive_24 : decode cX7_isLive 24 = .ok (.ireturn, 1) := by decide +kernel
set_option maxRecDepth 20000 in
theorem ggX7_legsOf_X9_legsBetween : GoodIn wsX7_legsOf wsX9_legsBetween := goodIn_sub (gw_c (gw_t (gw_l (gw_g 4 rfl))) gw_n) (by decide +kernel)
set_option maxRecDepth 20000 in
theorem gX7_legsOf_X9_legsBetween_n38 : GoodIn wsX7_legsOf (wsX9_legsBetween) := ggX7_legsOf_X9_legsBetween
theorem dX7_legsOf_0 : decode cX7_legsOf 0 = .ok (.aload_n 0, 1) := by decide +kernel
theorem dX7_legsOf_1 : decode cX7_legsOf 1 = .ok (.getfield 18, 3) := by decide +kernel
theorem dX7_legsOf_4 : decode cX7_legsOf 4 = .ok (.iload_n 1, 1) := by decide +kernel
theorem dX7_legsOf_5 : decode cX7_legsOf 5 = .ok (.iaload, 1) := by decide +kernel
theorem dX7_legsOf_6 : decode cX7_legsOf 6 = .ok (.aload_n 0, 1) := by decide +kernel
theorem dX7_legsOf_7 : decode cX7_legsOf 7 = .ok (.getfield 21, 3) := by decide +kernel
theorem dX7_legsOf_10 : decode cX7_legsOf 10 = .ok (.iload_n 1, 1) := by decide +kernel
theorem dX7_legsOf_11 : decode cX7_legsOf 11 = .ok (.iaload, 1) := by decide +kernel
theorem dX7_legsOf_12 : decode cX7_legsOf 12 = .ok (.invokestatic 38, 3) := by decide +kernel
theorem dX7_legsOf_15 : decode cX7_legsOf 15 = .ok (.ireturn, 1) := by decide +kernel
set_option maxRecDepth 20000 in
theorem ggX7_liveOf_X7_isLive : GoodIn wsX7_liveOf wsX7_isLive := goodIn_sub (gw_c (gw_t (gw_l (gw_g 5 rfl))) (gw_a (gw_c (gw_t (gw_l (gw_g 6 rfl))) (gw_c (gw_t (gw_l (gw_g 7 rfl))) gw_n)) gw_X7_liveOf_X70)) (by decide +kernel)
set_option maxRecDepth 20000 in
theorem gX7_liveOf_X7_isLive : GoodIn wsX7_liveOf (wsV RX7 42 RX7 yX7_isLive wsX7_isLive) := goodIn_app (goodIn_sub (gw_c (gw_t (gw_l (gw_g 1 rfl))) (gw_c (gw_t (gw_l (gw_g 2 rfl))) (gw_c (gw_t (gw_l (gw_g 3 rfl))) (gw_c (gw_t (gw_l (gw_g 4 rfl))) gw_n)))) (by decide +kernel)) ggX7_liveOf_X7_isLive
theorem dX7_liveOf_0 : decode cX7_liveOf 0 = .ok (.iconst 0, 1) := by decide +kernel
theorem dX7_liveOf_1 : decode cX7_liveOf 1 = .ok (.istore_n 2, 1) := by decide +kernel
theorem dX7_liveOf_2 : decode cX7_liveOf 2 = .ok (.iconst 0, 1) := by decide +kernel
theorem dX7_liveOf_3 : decode cX7_liveOf 3 = .ok (.istore_n 3, 1) := by decide +kernel
theorem dX7_liveOf_4 : decode cX7_liveOf 4 = .ok (.iload_n 3, 1) := by decide +kernel
theorem dX7_liveOf_5 : decode cX7_liveOf 5 = .ok (.aload_n 0, 1) := by decide +kernel
theorem dX7_liveOf_6 : decode cX7_liveOf 6 = .ok (.getfield 30, 3) := by decide +kernel
theorem dX7_liveOf_9 : decode cX7_liveOf 9 = .ok (.if_icmp .ge 21, 3) := by decide +kernel
theorem dX7_liveOf_12 : decode cX7_liveOf 12 = .ok (.aload_n 0, 1) := by decide +kernel
theorem dX7_liveOf_13 : decode cX7_liveOf 13 = .ok (.iload_n 3, 1) := by decide +kernel
theorem dX7_liveOf_14 : decode cX7_liveOf 14 = .ok (.iload_n 1, 1) := by decide +kernel
theorem dX7_liveOf_15 : decode cX7_liveOf 15 = .ok (.invokevirtual 42, 3) := by decide +kernel
theorem dX7_liveOf_18 : decode cX7_liveOf 18 = .ok (.ifCond .eq 6, 3) := by decide +kernel
theorem dX7_liveOf_21 : decode cX7_liveOf 21 = .ok (.iinc 2 1, 3) := by decide +kernel
theorem dX7_liveOf_24 : decode cX7_liveOf 24 = .ok (.iinc 3 1, 3) := by decide +kernel
theorem dX7_liveOf_27 : decode cX7_liveOf 27 = .ok (.goto (-23), 3) := by decide +kernel
theorem dX7_liveOf_30 : decode cX7_liveOf 30 = .ok (.iload_n 2, 1) := by decide +kernel
theorem dX7_liveOf_31 : decode cX7_liveOf 31 = .ok (.ireturn, 1) := by decide +kernel
set_option maxRecDepth 20000 in
theorem ggX7_find_X7_isLive : GoodIn wsX7_find wsX7_isLive := goodIn_sub (gw_c (gw_t (gw_l (gw_g 8 rfl))) (gw_a (gw_c (gw_t (gw_l (gw_g 9 rfl))) (gw_c (gw_t (gw_l (gw_g 10 rfl))) gw_n)) gw_X7_find_X70)) (by decide +kernel)
set_option maxRecDepth 20000 in
theorem gX7_find_X7_isLive : GoodIn wsX7_find (wsV RX7 42 RX7 yX7_isLive wsX7_isLive) := goodIn_app (goodIn_sub (gw_c (gw_t (gw_l (gw_g 4 rfl))) (gw_c (gw_t (gw_l (gw_g 5 rfl))) (gw_c (gw_t (gw_l (gw_g 6 rfl))) (gw_c (gw_t (gw_l (gw_g 7 rfl))) gw_n)))) (by decide +kernel)) ggX7_find_X7_isLive
theorem dX7_find_0 : decode cX7_find 0 = .ok (.iconst 0, 1) := by decide +kernel
theorem dX7_find_1 : decode cX7_find 1 = .ok (.istore 4, 2) := by decide +kernel
theorem dX7_find_3 : decode cX7_find 3 = .ok (.iload 4, 2) := by decide +kernel
theorem dX7_find_5 : decode cX7_find 5 = .ok (.aload_n 0, 1) := by decide +kernel
theorem dX7_find_6 : decode cX7_find 6 = .ok (.getfield 30, 3) := by decide +kernel
theorem dX7_find_9 : decode cX7_find 9 = .ok (.if_icmp .ge 55, 3) := by decide +kernel
theorem dX7_find_12 : decode cX7_find 12 = .ok (.aload_n 0, 1) := by decide +kernel
theorem dX7_find_13 : decode cX7_find 13 = .ok (.iload 4, 2) := by decide +kernel
theorem dX7_find_15 : decode cX7_find 15 = .ok (.iload_n 1, 1) := by decide +kernel
theorem dX7_find_16 : decode cX7_find 16 = .ok (.invokevirtual 42, 3) := by decide +kernel
theorem dX7_find_19 : decode cX7_find 19 = .ok (.ifCond .eq 39, 3) := by decide +kernel
theorem dX7_find_22 : decode cX7_find 22 = .ok (.aload_n 0, 1) := by decide +kernel
theorem dX7_find_23 : decode cX7_find 23 = .ok (.getfield 15, 3) := by decide +kernel
theorem dX7_find_26 : decode cX7_find 26 = .ok (.iload 4, 2) := by decide +kernel
theorem dX7_find_28 : decode cX7_find 28 = .ok (.iaload, 1) := by decide +kernel
theorem dX7_find_29 : decode cX7_find 29 = .ok (.iload_n 2, 1) := by decide +kernel
theorem dX7_find_30 : decode cX7_find 30 = .ok (.if_icmp .ne 28, 3) := by decide +kernel
theorem dX7_find_33 : decode cX7_find 33 = .ok (.aload_n 0, 1) := by decide +kernel
theorem dX7_find_34 : decode cX7_find 34 = .ok (.getfield 18, 3) := by decide +kernel
theorem dX7_find_37 : decode cX7_find 37 = .ok (.iload 4, 2) := by decide +kernel
theorem dX7_find_39 : decode cX7_find 39 = .ok (.iaload, 1) := by decide +kernel
theorem dX7_find_40 : decode cX7_find 40 = .ok (.iload_n 3, 1) := by decide +kernel
theorem dX7_find_41 : decode cX7_find 41 = .ok (.if_icmp .gt 17, 3) := by decide +kernel
theorem dX7_find_44 : decode cX7_find 44 = .ok (.iload_n 3, 1) := by decide +kernel
theorem dX7_find_45 : decode cX7_find 45 = .ok (.aload_n 0, 1) := by decide +kernel
theorem dX7_find_46 : decode cX7_find 46 = .ok (.getfield 21, 3) := by decide +kernel
theorem dX7_find_49 : decode cX7_find 49 = .ok (.iload 4, 2) := by decide +kernel
theorem dX7_find_51 : decode cX7_find 51 = .ok (.iaload, 1) := by decide +kernel
theorem dX7_find_52 : decode cX7_find 52 = .ok (.if_icmp .ge 6, 3) := by decide +kernel
theorem dX7_find_55 : decode cX7_find 55 = .ok (.iload 4, 2) := by decide +kernel
theorem dX7_find_57 : decode cX7_find 57 = .ok (.ireturn, 1) := by decide +kernel
theorem dX7_find_58 : decode cX7_find 58 = .ok (.iinc 4 1, 3) := by decide +kernel
theorem dX7_find_61 : decode cX7_find 61 = .ok (.goto (-58), 3) := by decide +kernel
theorem dX7_find_64 : decode cX7_find 64 = .ok (.iconst (-1), 1) := by decide +kernel
theorem dX7_find_65 : decode cX7_find 65 = .ok (.ireturn, 1) := by decide +kernel
theorem dX7_copyFrom_0 : decode cX7_copyFrom 0 = .ok (.aload_n 0, 1) := by decide +kernel
theorem dX7_copyFrom_1 : decode cX7_copyFrom 1 = .ok (.aload_n 1, 1) := by decide +kernel
theorem dX7_copyFrom_2 : decode cX7_copyFrom 2 = .ok (.getfield 30, 3) := by decide +kernel
theorem dX7_copyFrom_5 : decode cX7_copyFrom 5 = .ok (.putfield 30, 3) := by decide +kernel
theorem dX7_copyFrom_8 : decode cX7_copyFrom 8 = .ok (.aload_n 1, 1) := by decide +kernel
theorem dX7_copyFrom_9 : decode cX7_copyFrom 9 = .ok (.getfield 9, 3) := by decide +kernel
theorem dX7_copyFrom_12 : decode cX7_copyFrom 12 = .ok (.iconst 0, 1) := by decide +kernel
theorem dX7_copyFrom_13 : decode cX7_copyFrom 13 = .ok (.aload_n 0, 1) := by decide +kernel
theorem dX7_copyFrom_14 : decode cX7_copyFrom 14 = .ok (.getfield 9, 3) := by decide +kernel
theorem dX7_copyFrom_17 : decode cX7_copyFrom 17 = .ok (.iconst 0, 1) := by decide +kernel
theorem dX7_copyFrom_18 : decode cX7_copyFrom 18 = .ok (.aload_n 0, 1) := by decide +kernel
theorem dX7_copyFrom_19 : decode cX7_copyFrom 19 = .ok (.getfield 30, 3) := by decide +kernel
theorem dX7_copyFrom_22 : decode cX7_copyFrom 22 = .ok (.invokestatic 46, 3) := by decide +kernel
theorem dX7_copyFrom_25 : decode cX7_copyFrom 25 = .ok (.aload_n 1, 1) := by decide +kernel
theorem dX7_copyFrom_26 : decode cX7_copyFrom 26 = .ok (.getfield 15, 3) := by decide +kernel
theorem dX7_copyFrom_29 : decode cX7_copyFrom 29 = .ok (.iconst 0, 1) := by decide +kernel
theorem dX7_copyFrom_30 : decode cX7_copyFrom 30 = .ok (.aload_n 0, 1) := by decide +kernel
theorem dX7_copyFrom_31 : decode cX7_copyFrom 31 = .ok (.getfield 15, 3) := by decide +kernel
theorem dX7_copyFrom_34 : decode cX7_copyFrom 34 = .ok (.iconst 0, 1) := by decide +kernel
theorem dX7_copyFrom_35 : decode cX7_copyFrom 35 = .ok (.aload_n 0, 1) := by decide +kernel
theorem dX7_copyFrom_36 : decode cX7_copyFrom 36 = .ok (.getfield 30, 3) := by decide +kernel
theorem dX7_copyFrom_39 : decode cX7_copyFrom 39 = .ok (.invokestatic 46, 3) := by decide +kernel
theorem dX7_copyFrom_42 : decode cX7_copyFrom 42 = .ok (.aload_n 1, 1) := by decide +kernel
theorem dX7_copyFrom_43 : decode cX7_copyFrom 43 = .ok (.getfield 18, 3) := by decide +kernel
theorem dX7_copyFrom_46 : decode cX7_copyFrom 46 = .ok (.iconst 0, 1) := by decide +kernel
theorem dX7_copyFrom_47 : decode cX7_copyFrom 47 = .ok (.aload_n 0, 1) := by decide +kernel
theorem dX7_copyFrom_48 : decode cX7_copyFrom 48 = .ok (.getfield 18, 3) := by decide +kernel
theorem dX7_copyFrom_51 : decode cX7_copyFrom 51 = .ok (.iconst 0, 1) := by decide +kernel
theorem dX7_copyFrom_52 : decode cX7_copyFrom 52 = .ok (.aload_n 0, 1) := by decide +kernel
theorem dX7_copyFrom_53 : decode cX7_copyFrom 53 = .ok (.getfield 30, 3) := by decide +kernel
theorem dX7_copyFrom_56 : decode cX7_copyFrom 56 = .ok (.invokestatic 46, 3) := by decide +kernel
theorem dX7_copyFrom_59 : decode cX7_copyFrom 59 = .ok (.aload_n 1, 1) := by decide +kernel
theorem dX7_copyFrom_60 : decode cX7_copyFrom 60 = .ok (.getfield 21, 3) := by decide +kernel
theorem dX7_copyFrom_63 : decode cX7_copyFrom 63 = .ok (.iconst 0, 1) := by decide +kernel
theorem dX7_copyFrom_64 : decode cX7_copyFrom 64 = .ok (.aload_n 0, 1) := by decide +kernel
theorem dX7_copyFrom_65 : decode cX7_copyFrom 65 = .ok (.getfield 21, 3) := by decide +kernel
theorem dX7_copyFrom_68 : decode cX7_copyFrom 68 = .ok (.iconst 0, 1) := by decide +kernel
theorem dX7_copyFrom_69 : decode cX7_copyFrom 69 = .ok (.aload_n 0, 1) := by decide +kernel
theorem dX7_copyFrom_70 : decode cX7_copyFrom 70 = .ok (.getfield 30, 3) := by decide +kernel
theorem dX7_copyFrom_73 : decode cX7_copyFrom 73 = .ok (.invokestatic 46, 3) := by decide +kernel
theorem dX7_copyFrom_76 : decode cX7_copyFrom 76 = .ok (.aload_n 1, 1) := by decide +kernel
theorem dX7_copyFrom_77 : decode cX7_copyFrom 77 = .ok (.getfield 24, 3) := by decide +kernel
theorem dX7_copyFrom_80 : decode cX7_copyFrom 80 = .ok (.iconst 0, 1) := by decide +kernel
theorem dX7_copyFrom_81 : decode cX7_copyFrom 81 = .ok (.aload_n 0, 1) := by decide +kernel
theorem dX7_copyFrom_82 : decode cX7_copyFrom 82 = .ok (.getfield 24, 3) := by decide +kernel
theorem dX7_copyFrom_85 : decode cX7_copyFrom 85 = .ok (.iconst 0, 1) := by decide +kernel
theorem dX7_copyFrom_86 : decode cX7_copyFrom 86 = .ok (.aload_n 0, 1) := by decide +kernel
theorem dX7_copyFrom_87 : decode cX7_copyFrom 87 = .ok (.getfield 30, 3) := by decide +kernel
theorem dX7_copyFrom_90 : decode cX7_copyFrom 90 = .ok (.invokestatic 46, 3) := by decide +kernel
theorem dX7_copyFrom_93 : decode cX7_copyFrom 93 = .ok (.aload_n 1, 1) := by decide +kernel
theorem dX7_copyFrom_94 : decode cX7_copyFrom 94 = .ok (.getfield 27, 3) := by decide +kernel
theorem dX7_copyFrom_97 : decode cX7_copyFrom 97 = .ok (.iconst 0, 1) := by decide +kernel
theorem dX7_copyFrom_98 : decode cX7_copyFrom 98 = .ok (.aload_n 0, 1) := by decide +kernel
theorem dX7_copyFrom_99 : decode cX7_copyFrom 99 = .ok (.getfield 27, 3) := by decide +kernel
theorem dX7_copyFrom_102 : decode cX7_copyFrom 102 = .ok (.iconst 0, 1) := by decide +kernel
theorem dX7_copyFrom_103 : decode cX7_copyFrom 103 = .ok (.aload_n 0, 1) := by decide +kernel
theorem dX7_copyFrom_104 : decode cX7_copyFrom 104 = .ok (.getfield 30, 3) := by decide +kernel
theorem dX7_copyFrom_107 : decode cX7_copyFrom 107 = .ok (.invokestatic 46, 3) := by decide +kernel
theorem dX7_copyFrom_110 : decode cX7_copyFrom 110 = .ok (.return_, 1) := by decide +kernel
theorem dX8_init_0 : decode cX8_init 0 = .ok (.aload_n 0, 1) := by decide +kernel
theorem dX8_init_1 : decode cX8_init 1 = .ok (.invokespecial 3, 3) := by decide +kernel
theorem dX8_init_4 : decode cX8_init 4 = .ok (.aload_n 0, 1) := by decide +kernel
theorem dX8_init_5 : decode cX8_init 5 = .ok (.sipush 401, 3) := by decide +kernel
theorem dX8_init_8 : decode cX8_init 8 = .ok (.newarray .int, 2) := by decide +kernel
theorem dX8_init_10 : decode cX8_init 10 = .ok (.putfield 9, 3) := by decide +kernel
theorem dX8_init_13 : decode cX8_init 13 = .ok (.aload_n 0, 1) := by decide +kernel
theorem dX8_init_14 : decode cX8_init 14 = .ok (.sipush 401, 3) := by decide +kernel
theorem dX8_init_17 : decode cX8_init 17 = .ok (.newarray .int, 2) := by decide +kernel
theorem dX8_init_19 : decode cX8_init 19 = .ok (.putfield 15, 3) := by decide +kernel
theorem dX8_init_22 : decode cX8_init 22 = .ok (.aload_n 0, 1) := by decide +kernel
theorem dX8_init_23 : decode cX8_init 23 = .ok (.sipush 401, 3) := by decide +kernel
theorem dX8_init_26 : decode cX8_init 26 = .ok (.newarray .int, 2) := by decide +kernel
theorem dX8_init_28 : decode cX8_init 28 = .ok (.putfield 18, 3) := by decide +kernel
theorem dX8_init_31 : decode cX8_init 31 = .ok (.return_, 1) := by decide +kernel
set_option maxRecDepth 20000 in
theorem ggX8_split_X8_takeAt : GoodIn wsX8_split wsX8_takeAt := goodIn_sub (gw_c (gw_X8_split_X8_split_r1 _ (gw_g 10 rfl)) (gw_a (gw_a (gw_a (gw_c (gw_X8_split_X8_split_r1 _ (gw_g 11 rfl)) (gw_c (gw_X8_split_X8_split_r1 _ (gw_g 12 rfl)) (gw_c (gw_X8_split_X8_split_r1 _ (gw_g 13 rfl)) (gw_c (gw_X8_split_X8_split_r1 _ (gw_g 9 rfl)) (gw_c (gw_X8_split_X8_split_r1 _ (gw_g 14 rfl)) (gw_c (gw_X8_split_X8_split_r1 _ (gw_g 15 rfl)) (gw_c (gw_X8_split_X8_split_r1 _ (gw_g 16 rfl)) (gw_c (gw_X8_split_X8_split_r1 _ (gw_g 17 rfl)) (gw_c (gw_X8_split_X8_split_r1 _ (gw_g 1 rfl)) (gw_c (gw_X8_split_X8_split_r1 _ (gw_g 18 rfl)) (gw_c (gw_X8_split_X8_split_r1 _ (gw_g 19 rfl)) (gw_c (gw_X8_split_X8_split_r1 _ (gw_g 20 rfl)) (gw_c (gw_X8_split_X8_split_r1 _ (gw_g 21 rfl)) (gw_c (gw_X8_split_X8_split_r1 _ (gw_g 22 rfl)) (gw_c (gw_X8_split_X8_split_r1 _ (gw_g 23 rfl)) (gw_c (gw_X8_split_X8_split_r2 _ (gw_g 0 rfl)) (gw_c (gw_X8_split_X8_split_r2 _ (gw_g 1 rfl)) (gw_c (gw_X8_split_X8_split_r2 _ (gw_g 2 rfl)) (gw_c (gw_X8_split_X8_split_r2 _ (gw_g 3 rfl)) (gw_c (gw_X8_split_X8_split_r2 _ (gw_g 4 rfl)) (gw_c (gw_X8_split_X8_split_r2 _ (gw_g 5 rfl)) (gw_c (gw_X8_split_X8_split_r2 _ (gw_g 6 rfl)) (gw_c (gw_X8_split_X8_split_r2 _ (gw_g 7 rfl)) (gw_c (gw_X8_split_X8_split_r2 _ (gw_g 8 rfl)) gw_n)))))))))))))))))))))))) (gw_a (gw_c (gw_X8_split_X8_split_r2 _ (gw_g 9 rfl)) (gw_c (gw_X8_split_X8_split_r2 _ (gw_g 10 rfl)) (gw_c (gw_X8_split_X8_split_r2 _ (gw_g 11 rfl)) (gw_c (gw_X8_split_X8_split_r2 _ (gw_g 12 rfl)) (gw_c (gw_X8_split_X8_split_r2 _ (gw_g 13 rfl)) (gw_c (gw_X8_split_X8_split_r2 _ (gw_g 14 rfl)) (gw_c (gw_X8_split_X8_split_r2 _ (gw_g 15 rfl)) (gw_c (gw_X8_split_X8_split_r2 _ (gw_g 16 rfl)) (gw_c (gw_X8_split_X8_split_r2 _ (gw_g 17 rfl)) (gw_c (gw_X8_split_X8_split_r2 _ (gw_g 18 rfl)) (gw_c (gw_X8_split_X8_split_r2 _ (gw_g 19 rfl)) (gw_c (gw_X8_split_X8_split_r2 _ (gw_g 20 rfl)) (gw_c (gw_X8_split_X8_split_r2 _ (gw_g 21 rfl)) (gw_c (gw_X8_split_X8_split_r2 _ (gw_g 22 rfl)) (gw_c (gw_X8_split_X8_split_r2 _ (gw_g 23 rfl)) (gw_c (gw_X8_split_X8_split_r3 _ (gw_g 0 rfl)) (gw_c (gw_X8_split_X8_split_r3 _ (gw_g 1 rfl)) (gw_c (gw_X8_split_X8_split_r3 _ (gw_g 2 rfl)) (gw_c (gw_X8_split_X8_split_r3 _ (gw_g 3 rfl)) (gw_c (gw_X8_split_X8_split_r3 _ (gw_g 4 rfl)) (gw_c (gw_X8_split_X8_split_r3 _ (gw_g 5 rfl)) (gw_c (gw_X8_split_X8_split_r3 _ (gw_g 6 rfl)) (gw_c (gw_X8_split_X8_split_r3 _ (gw_g 7 rfl)) (gw_c (gw_X8_split_X8_split_r3 _ (gw_g 8 rfl)) gw_n)))))))))))))))))))))))) (gw_a (gw_c (gw_X8_split_X8_split_r3 _ (gw_g 9 rfl)) (gw_c (gw_X8_split_X8_split_r3 _ (gw_g 10 rfl)) (gw_c (gw_X8_split_X8_split_r3 _ (gw_g 11 rfl)) (gw_c (gw_X8_split_X8_split_r3 _ (gw_g 12 rfl)) (gw_c (gw_X8_split_X8_split_r3 _ (gw_g 13 rfl)) (gw_c (gw_X8_split_X8_split_r3 _ (gw_g 14 rfl)) (gw_c (gw_X8_split_X8_split_r3 _ (gw_g 15 rfl)) (gw_c (gw_X8_split_X8_split_r3 _ (gw_g 16 rfl)) (gw_c (gw_X8_split_X8_split_r3 _ (gw_g 17 rfl)) (gw_c (gw_X8_split_X8_split_r3 _ (gw_g 18 rfl)) (gw_c (gw_X8_split_X8_split_r3 _ (gw_g 19 rfl)) (gw_c (gw_X8_split_X8_split_r3 _ (gw_g 20 rfl)) (gw_c (gw_X8_split_X8_split_r3 _ (gw_g 21 rfl)) (gw_c (gw_X8_split_X8_split_r3 _ (gw_g 22 rfl)) (gw_c (gw_X8_split_X8_split_r3 _ (gw_g 23 rfl)) (gw_c (gw_X8_split_X8_split_r4 _ (gw_g 0 rfl)) (gw_c (gw_X8_split_X8_split_r4 _ (gw_g 1 rfl)) (gw_c (gw_X8_split_X8_split_r4 _ (gw_g 2 rfl)) (gw_c (gw_X8_split_X8_split_r4 _ (gw_g 3 rfl)) (gw_c (gw_X8_split_X8_split_r4 _ (gw_g 4 rfl)) (gw_c (gw_X8_split_X8_split_r4 _ (gw_g 5 rfl)) (gw_c (gw_X8_split_X8_split_r4 _ (gw_g 6 rfl)) (gw_c (gw_X8_split_X8_split_r4 _ (gw_g 7 rfl)) (gw_c (gw_X8_split_X8_split_r1 _ (gw_g 0 rfl)) gw_n)))))))))))))))))))))))) (gw_c (gw_X8_split_X8_split_r4 _ (gw_g 8 rfl)) (gw_c (gw_X8_split_X8_split_r4 _ (gw_g 9 rfl)) (gw_c (gw_X8_split_X8_split_r4 _ (gw_g 10 rfl)) (gw_c (gw_X8_split_X8_split_r4 _ (gw_g 11 rfl)) (gw_c (gw_X8_split_X8_split_r4 _ (gw_g 12 rfl)) (gw_c (gw_X8_split_X8_split_r4 _ (gw_g 13 rfl)) (gw_c (gw_X8_split_X8_split_r4 _ (gw_g 14 rfl)) (gw_c (gw_X8_split_X8_split_r4 _ (gw_g 15 rfl)) (gw_c (gw_X8_split_X8_split_r4 _ (gw_g 16 rfl)) gw_n)))))))))))) gw_X8_split_X60) gw_X8_split_X80)) (by decide +kernel)
set_option maxRecDepth 20000 in
theorem gX8_split_X8_takeAt : GoodIn wsX8_split (wsV RX8 28 RX8 yX8_takeAt wsX8_takeAt) := goodIn_app (goodIn_sub (gw_c (gw_X8_split_X8_split_r1 _ (gw_g 6 rfl)) (gw_c (gw_X8_split_X8_split_r1 _ (gw_g 7 rfl)) (gw_c (gw_X8_split_X8_split_r1 _ (gw_g 8 rfl)) (gw_c (gw_X8_split_X8_split_r1 _ (gw_g 9 rfl)) gw_n)))) (by decide +kernel)) ggX8_split_X8_takeAt
set_option maxRecDepth 20000 in
theorem ggX8_split_X8_add : GoodIn wsX8_split wsX8_add := goodIn_sub (gw_c (gw_X8_split_X8_split_r4 _ (gw_g 7 rfl)) (gw_a (gw_c (gw_X8_split_X8_split_r1 _ (gw_g 0 rfl)) (gw_c (gw_X8_split_X8_split_r4 _ (gw_g 8 rfl)) (gw_c (gw_X8_split_X8_split_r4 _ (gw_g 9 rfl)) (gw_c (gw_X8_split_X8_split_r4 _ (gw_g 10 rfl)) gw_n)))) gw_X8_split_X80)) (by decide +kernel)
set_option maxRecDepth 20000 in
theorem gX8_split_X8_add : GoodIn wsX8_split (wsV RX8 38 RX8 yX8_add wsX8_add) := goodIn_app (goodIn_sub (gw_c (gw_X8_split_X8_split_r4 _ (gw_g 4 rfl)) (gw_c (gw_X8_split_X8_split_r4 _ (gw_g 5 rfl)) (gw_c (gw_X8_split_X8_split_r4 _ (gw_g 6 rfl)) (gw_c (gw_X8_split_X8_split_r1 _ (gw_g 9 rfl)) gw_n)))) (by decide +kernel)) ggX8_split_X8_add
theorem dX8_split_0 : decode cX8_split 0 = .ok (.aload_n 0, 1) := by decide +kernel
theorem dX8_split_1 : decode cX8_split 1 = .ok (.iconst 0, 1) := by decide +kernel
theorem dX8_split_2 : decode cX8_split 2 = .ok (.putfield 21, 3) := by decide +kernel
theorem dX8_split_5 : decode cX8_split 5 = .ok (.iconst 0, 1) := by decide +kernel
theorem dX8_split_6 : decode cX8_split 6 = .ok (.istore_n 2, 1) := by decide +kernel
theorem dX8_split_7 : decode cX8_split 7 = .ok (.iload_n 2, 1) := by decide +kernel
theorem dX8_split_8 : decode cX8_split 8 = .ok (.aload_n 1, 1) := by decide +kernel
theorem dX8_split_9 : decode cX8_split 9 = .ok (.getfield 25, 3) := by decide +kernel
theorem dX8_split_12 : decode cX8_split 12 = .ok (.if_icmp .ge 19, 3) := by decide +kernel
theorem dX8_split_15 : decode cX8_split 15 = .ok (.iload_n 2, 1) := by decide +kernel
theorem dX8_split_16 : decode cX8_split 16 = .ok (.iconst 1, 1) := by decide +kernel
theorem dX8_split_17 : decode cX8_split 17 = .ok (.aload_n 0, 1) := by decide +kernel
theorem dX8_split_18 : decode cX8_split 18 = .ok (.aload_n 1, 1) := by decide +kernel
theorem dX8_split_19 : decode cX8_split 19 = .ok (.iload_n 2, 1) := by decide +kernel
theorem dX8_split_20 : decode cX8_split 20 = .ok (.invokevirtual 28, 3) := by decide +kernel
theorem dX8_split_23 : decode cX8_split 23 = .ok (.invokestatic 32, 3) := by decide +kernel
theorem dX8_split_26 : decode cX8_split 26 = .ok (.iadd, 1) := by decide +kernel
theorem dX8_split_27 : decode cX8_split 27 = .ok (.istore_n 2, 1) := by decide +kernel
theorem dX8_split_28 : decode cX8_split 28 = .ok (.goto (-21), 3) := by decide +kernel
theorem dX8_split_31 : decode cX8_split 31 = .ok (.aload_n 0, 1) := by decide +kernel
theorem dX8_split_32 : decode cX8_split 32 = .ok (.bipush 20, 2) := by decide +kernel
theorem dX8_split_34 : decode cX8_split 34 = .ok (.iconst 0, 1) := by decide +kernel
theorem dX8_split_35 : decode cX8_split 35 = .ok (.aload_n 1, 1) := by decide +kernel
theorem dX8_split_36 : decode cX8_split 36 = .ok (.getfield 25, 3) := by decide +kernel
theorem dX8_split_39 : decode cX8_split 39 = .ok (.invokevirtual 38, 3) := by decide +kernel
theorem dX8_split_42 : decode cX8_split 42 = .ok (.return_, 1) := by decide +kernel
theorem dX8_kindAt_0 : decode cX8_kindAt 0 = .ok (.iload_n 1, 1) := by decide +kernel
theorem dX8_kindAt_1 : decode cX8_kindAt 1 = .ok (.ifCond .lt 20, 3) := by decide +kernel
theorem dX8_kindAt_4 : decode cX8_kindAt 4 = .ok (.iload_n 1, 1) := by decide +kernel
theorem dX8_kindAt_5 : decode cX8_kindAt 5 = .ok (.aload_n 0, 1) := by decide +kernel
theorem dX8_kindAt_6 : decode cX8_kindAt 6 = .ok (.getfield 21, 3) := by decide +kernel
theorem dX8_kindAt_9 : decode cX8_kindAt 9 = .ok (.if_icmp .ge 12, 3) := by decide +kernel
theorem dX8_kindAt_12 : decode cX8_kindAt 12 = .ok (.aload_n 0, 1) := by decide +kernel
theorem dX8_kindAt_13 : decode cX8_kindAt 13 = .ok (.getfield 9, 3) := by decide +kernel
theorem dX8_kindAt_16 : decode cX8_kindAt 16 = .ok (.iload_n 1, 1) := by decide +kernel
theorem dX8_kindAt_17 : decode cX8_kindAt 17 = .ok (.iaload, 1) := by decide +kernel
theorem dX8_kindAt_18 : decode cX8_kindAt 18 = .ok (.goto 5, 3) := by decide +kernel
theorem dX8_kindAt_21 : decode cX8_kindAt 21 = .ok (.bipush 20, 2) := by decide +kernel
theorem dX8_kindAt_23 : decode cX8_kindAt 23 = .ok (.ireturn, 1) := by decide +kernel
theorem dX8_numberAt_0 : decode cX8_numberAt 0 = .ok (.iload_n 1, 1) := by decide +kernel
theorem dX8_numberAt_1 : decode cX8_numberAt 1 = .ok (.ifCond .lt 20, 3) := by decide +kernel
theorem dX8_numberAt_4 : decode cX8_numberAt 4 = .ok (.iload_n 1, 1) := by decide +kernel
theorem dX8_numberAt_5 : decode cX8_numberAt 5 = .ok (.aload_n 0, 1) := by decide +kernel
theorem dX8_numberAt_6 : decode cX8_numberAt 6 = .ok (.getfield 21, 3) := by decide +kernel
theorem dX8_numberAt_9 : decode cX8_numberAt 9 = .ok (.if_icmp .ge 12, 3) := by decide +kernel
theorem dX8_numberAt_12 : decode cX8_numberAt 12 = .ok (.aload_n 0, 1) := by decide +kernel
theorem dX8_numberAt_13 : decode cX8_numberAt 13 = .ok (.getfield 15, 3) := by decide +kernel
theorem dX8_numberAt_16 : decode cX8_numberAt 16 = .ok (.iload_n 1, 1) := by decide +kernel
theorem dX8_numberAt_17 : decode cX8_numberAt 17 = .ok (.iaload, 1) := by decide +kernel
theorem dX8_numberAt_18 : decode cX8_numberAt 18 = .ok (.goto 4, 3) := by decide +kernel
theorem dX8_numberAt_21 : decode cX8_numberAt 21 = .ok (.iconst 0, 1) := by decide +kernel
theorem dX8_numberAt_22 : decode cX8_numberAt 22 = .ok (.ireturn, 1) := by decide +kernel
theorem dX8_placeAt_0 : decode cX8_placeAt 0 = .ok (.iload_n 1, 1) := by decide +kernel
theorem dX8_placeAt_1 : decode cX8_placeAt 1 = .ok (.ifCond .lt 20, 3) := by decide +kernel
theorem dX8_placeAt_4 : decode cX8_placeAt 4 = .ok (.iload_n 1, 1) := by decide +kernel
theorem dX8_placeAt_5 : decode cX8_placeAt 5 = .ok (.aload_n 0, 1) := by decide +kernel
theorem dX8_placeAt_6 : decode cX8_placeAt 6 = .ok (.getfield 21, 3) := by decide +kernel
theorem dX8_placeAt_9 : decode cX8_placeAt 9 = .ok (.if_icmp .ge 12, 3) := by decide +kernel
theorem dX8_placeAt_12 : decode cX8_placeAt 12 = .ok (.aload_n 0, 1) := by decide +kernel
theorem dX8_placeAt_13 : decode cX8_placeAt 13 = .ok (.getfield 18, 3) := by decide +kernel
theorem dX8_placeAt_16 : decode cX8_placeAt 16 = .ok (.iload_n 1, 1) := by decide +kernel
theorem dX8_placeAt_17 : decode cX8_placeAt 17 = .ok (.iaload, 1) := by decide +kernel
theorem dX8_placeAt_18 : decode cX8_placeAt 18 = .ok (.goto 4, 3) := by decide +kernel
theorem dX8_placeAt_21 : decode cX8_placeAt 21 = .ok (.iconst (-1), 1) := by decide +kernel
theorem dX8_placeAt_22 : decode cX8_placeAt 22 = .ok (.ireturn, 1) := by decide +kernel
theorem dX8_add_0 : decode cX8_add 0 = .ok (.aload_n 0, 1) := by decide +kernel
theorem dX8_add_1 : decode cX8_add 1 = .ok (.getfield 21, 3) := by decide +kernel
theorem dX8_add_4 : decode cX8_add 4 = .ok (.aload_n 0, 1) := by decide +kernel
theorem dX8_add_5 : decode cX8_add 5 = .ok (.getfield 9, 3) := by decide +kernel
theorem dX8_add_8 : decode cX8_add 8 = .ok (.arraylength, 1) := by decide +kernel
theorem dX8_add_9 : decode cX8_add 9 = .ok (.if_icmp .ge 43, 3) := by decide +kernel
theorem dX8_add_12 : decode cX8_add 12 = .ok (.aload_n 0, 1) := by decide +kernel
theorem dX8_add_13 : decode cX8_add 13 = .ok (.getfield 9, 3) := by decide +kernel
theorem dX8_add_16 : decode cX8_add 16 = .ok (.aload_n 0, 1) := by decide +kernel
theorem dX8_add_17 : decode cX8_add 17 = .ok (.getfield 21, 3) := by decide +kernel
theorem dX8_add_20 : decode cX8_add 20 = .ok (.iload_n 1, 1) := by decide +kernel
theorem dX8_add_21 : decode cX8_add 21 = .ok (.iastore, 1) := by decide +kernel
theorem dX8_add_22 : decode cX8_add 22 = .ok (.aload_n 0, 1) := by decide +kernel
theorem dX8_add_23 : decode cX8_add 23 = .ok (.getfield 15, 3) := by decide +kernel
theorem dX8_add_26 : decode cX8_add 26 = .ok (.aload_n 0, 1) := by decide +kernel
theorem dX8_add_27 : decode cX8_add 27 = .ok (.getfield 21, 3) := by decide +kernel
theorem dX8_add_30 : decode cX8_add 30 = .ok (.iload_n 2, 1) := by decide +kernel
theorem dX8_add_31 : decode cX8_add 31 = .ok (.iastore, 1) := by decide +kernel
theorem dX8_add_32 : decode cX8_add 32 = .ok (.aload_n 0, 1) := by decide +kernel
theorem dX8_add_33 : decode cX8_add 33 = .ok (.getfield 18, 3) := by decide +kernel
theorem dX8_add_36 : decode cX8_add 36 = .ok (.aload_n 0, 1) := by decide +kernel
theorem dX8_add_37 : decode cX8_add 37 = .ok (.getfield 21, 3) := by decide +kernel
theorem dX8_add_40 : decode cX8_add 40 = .ok (.iload_n 3, 1) := by decide +kernel
theorem dX8_add_41 : decode cX8_add 41 = .ok (.iastore, 1) := by decide +kernel
theorem dX8_add_42 : decode cX8_add 42 = .ok (.aload_n 0, 1) := by decide +kernel
theorem dX8_add_43 : decode cX8_add 43 = .ok (.dup, 1) := by decide +kernel
theorem dX8_add_44 : decode cX8_add 44 = .ok (.getfield 21, 3) := by decide +kernel
theorem dX8_add_47 : decode cX8_add 47 = .ok (.iconst 1, 1) := by decide +kernel
theorem dX8_add_48 : decode cX8_add 48 = .ok (.iadd, 1) := by decide +kernel
theorem dX8_add_49 : decode cX8_add 49 = .ok (.putfield 21, 3) := by decide +kernel
theorem dX8_add_52 : decode cX8_add 52 = .ok (.return_, 1) := by decide +kernel
set_option maxRecDepth 20000 in
theorem ggX8_takeAt_X8_isIn : GoodIn wsX8_takeAt wsX8_isIn := goodIn_sub (gw_c (gw_X8_takeAt_X8_takeAt_r1 _ (gw_g 4 rfl)) gw_n) (by decide +kernel)
set_option maxRecDepth 20000 in
theorem gX8_takeAt_X8_isIn : GoodIn wsX8_takeAt (va_wsS RX8 45 yX8_isIn wsX8_isIn) := goodIn_app (goodIn_sub (gw_c (gw_X8_takeAt_X8_takeAt_r1 _ (gw_g 1 rfl)) (gw_c (gw_X8_takeAt_X8_takeAt_r1 _ (gw_g 2 rfl)) (gw_c (gw_X8_takeAt_X8_takeAt_r1 _ (gw_g 3 rfl)) gw_n))) (by decide +kernel)) ggX8_takeAt_X8_isIn
set_option maxRecDepth 20000 in
theorem ggX8_takeAt_X8_rowLength : GoodIn wsX8_takeAt wsX8_rowLength := goodIn_sub (gw_c (gw_X8_takeAt_X8_takeAt_r1 _ (gw_g 7 rfl)) (gw_a (gw_c (gw_X8_takeAt_X8_takeAt_r1 _ (gw_g 8 rfl)) (gw_c (gw_X8_takeAt_X8_takeAt_r1 _ (gw_g 0 rfl)) (gw_c (gw_X8_takeAt_X8_takeAt_r1 _ (gw_g 1 rfl)) (gw_c (gw_X8_takeAt_X8_takeAt_r1 _ (gw_g 2 rfl)) (gw_c (gw_X8_takeAt_X8_takeAt_r1 _ (gw_g 3 rfl)) (gw_c (gw_X8_takeAt_X8_takeAt_r1 _ (gw_g 4 rfl)) gw_n)))))) gw_X8_takeAt_X60)) (by decide +kernel)
set_option maxRecDepth 20000 in
theorem gX8_takeAt_X8_rowLength : GoodIn wsX8_takeAt (va_wsS RX8 49 yX8_rowLength wsX8_rowLength) := goodIn_app (goodIn_sub (gw_c (gw_X8_takeAt_X8_takeAt_r1 _ (gw_g 5 rfl)) (gw_c (gw_X8_takeAt_X8_takeAt_r1 _ (gw_g 6 rfl)) (gw_c (gw_X8_takeAt_X8_takeAt_r1 _ (gw_g 3 rfl)) gw_n))) (by decide +kernel)) ggX8_takeAt_X8_rowLength
set_option maxRecDepth 20000 in
theorem ggX8_takeAt_X8_wordKind : GoodIn wsX8_takeAt wsX8_wordKind := goodIn_sub (gw_c (gw_X8_takeAt_X8_takeAt_r1 _ (gw_g 11 rfl)) (gw_a (gw_a (gw_c (gw_X8_takeAt_X8_takeAt_r1 _ (gw_g 12 rfl)) (gw_c (gw_X8_takeAt_X8_takeAt_r1 _ (gw_g 13 rfl)) (gw_c (gw_X8_takeAt_X8_takeAt_r1 _ (gw_g 3 rfl)) (gw_c (gw_X8_takeAt_X8_takeAt_r1 _ (gw_g 14 rfl)) (gw_c (gw_X8_takeAt_X8_takeAt_r1 _ (gw_g 15 rfl)) (gw_c (gw_X8_takeAt_X8_takeAt_r1 _ (gw_g 16 rfl)) (gw_c (gw_X8_takeAt_X8_takeAt_r1 _ (gw_g 17 rfl)) (gw_c (gw_X8_takeAt_X8_takeAt_r1 _ (gw_g 0 rfl)) (gw_c (gw_X8_takeAt_X8_takeAt_r1 _ (gw_g 18 rfl)) (gw_c (gw_X8_takeAt_X8_takeAt_r1 _ (gw_g 19 rfl)) (gw_c (gw_X8_takeAt_X8_takeAt_r1 _ (gw_g 20 rfl)) (gw_c (gw_X8_takeAt_X8_takeAt_r1 _ (gw_g 21 rfl)) (gw_c (gw_X8_takeAt_X8_takeAt_r1 _ (gw_g 22 rfl)) (gw_c (gw_X8_takeAt_X8_takeAt_r1 _ (gw_g 23 rfl)) (gw_c (gw_X8_takeAt_X8_takeAt_r2 _ (gw_g 0 rfl)) (gw_c (gw_X8_takeAt_X8_takeAt_r2 _ (gw_g 1 rfl)) (gw_c (gw_X8_takeAt_X8_takeAt_r2 _ (gw_g 2 rfl)) (gw_c (gw_X8_takeAt_X8_takeAt_r2 _ (gw_g 3 rfl)) (gw_c (gw_X8_takeAt_X8_takeAt_r2 _ (gw_g 4 rfl)) (gw_c (gw_X8_takeAt_X8_takeAt_r2 _ (gw_g 5 rfl)) (gw_c (gw_X8_takeAt_X8_takeAt_r2 _ (gw_g 6 rfl)) (gw_c (gw_X8_takeAt_X8_takeAt_r2 _ (gw_g 7 rfl)) (gw_c (gw_X8_takeAt_X8_takeAt_r2 _ (gw_g 8 rfl)) (gw_c (gw_X8_takeAt_X8_takeAt_r2 _ (gw_g 9 rfl)) gw_n)))))))))))))))))))))))) (gw_a (gw_c (gw_X8_takeAt_X8_takeAt_r2 _ (gw_g 10 rfl)) (gw_c (gw_X8_takeAt_X8_takeAt_r2 _ (gw_g 11 rfl)) (gw_c (gw_X8_takeAt_X8_takeAt_r2 _ (gw_g 12 rfl)) (gw_c (gw_X8_takeAt_X8_takeAt_r2 _ (gw_g 13 rfl)) (gw_c (gw_X8_takeAt_X8_takeAt_r2 _ (gw_g 14 rfl)) (gw_c (gw_X8_takeAt_X8_takeAt_r2 _ (gw_g 15 rfl)) (gw_c (gw_X8_takeAt_X8_takeAt_r2 _ (gw_g 16 rfl)) (gw_c (gw_X8_takeAt_X8_takeAt_r2 _ (gw_g 17 rfl)) (gw_c (gw_X8_takeAt_X8_takeAt_r2 _ (gw_g 18 rfl)) (gw_c (gw_X8_takeAt_X8_takeAt_r2 _ (gw_g 19 rfl)) (gw_c (gw_X8_takeAt_X8_takeAt_r2 _ (gw_g 20 rfl)) (gw_c (gw_X8_takeAt_X8_takeAt_r2 _ (gw_g 21 rfl)) (gw_c (gw_X8_takeAt_X8_takeAt_r2 _ (gw_g 22 rfl)) (gw_c (gw_X8_takeAt_X8_takeAt_r2 _ (gw_g 23 rfl)) (gw_c (gw_X8_takeAt_X8_takeAt_r3 _ (gw_g 0 rfl)) (gw_c (gw_X8_takeAt_X8_takeAt_r3 _ (gw_g 1 rfl)) (gw_c (gw_X8_takeAt_X8_takeAt_r3 _ (gw_g 2 rfl)) (gw_c (gw_X8_takeAt_X8_takeAt_r3 _ (gw_g 3 rfl)) (gw_c (gw_X8_takeAt_X8_takeAt_r3 _ (gw_g 4 rfl)) (gw_c (gw_X8_takeAt_X8_takeAt_r3 _ (gw_g 5 rfl)) (gw_c (gw_X8_takeAt_X8_takeAt_r3 _ (gw_g 6 rfl)) (gw_c (gw_X8_takeAt_X8_takeAt_r3 _ (gw_g 7 rfl)) (gw_c (gw_X8_takeAt_X8_takeAt_r3 _ (gw_g 8 rfl)) (gw_c (gw_X8_takeAt_X8_takeAt_r3 _ (gw_g 9 rfl)) gw_n)))))))))))))))))))))))) (gw_c (gw_X8_takeAt_X8_takeAt_r3 _ (gw_g 10 rfl)) (gw_c (gw_X8_takeAt_X8_takeAt_r3 _ (gw_g 11 rfl)) (gw_c (gw_X8_takeAt_X8_takeAt_r3 _ (gw_g 12 rfl)) (gw_c (gw_X8_takeAt_X8_takeAt_r3 _ (gw_g 13 rfl)) (gw_c (gw_X8_takeAt_X8_takeAt_r3 _ (gw_g 14 rfl)) (gw_c (gw_X8_takeAt_X8_takeAt_r3 _ (gw_g 15 rfl)) (gw_c (gw_X8_takeAt_X8_takeAt_r3 _ (gw_g 16 rfl)) (gw_c (gw_X8_takeAt_X8_takeAt_r3 _ (gw_g 17 rfl)) (gw_c (gw_X8_takeAt_X8_takeAt_r3 _ (gw_g 18 rfl)) gw_n))))))))))) gw_X8_takeAt_X60)) (by decide +kernel)
set_option maxRecDepth 20000 in
theorem gX8_takeAt_X8_wordKind : GoodIn wsX8_takeAt (va_wsS RX8 53 yX8_wordKind wsX8_wordKind) := goodIn_app (goodIn_sub (gw_c (gw_X8_takeAt_X8_takeAt_r1 _ (gw_g 9 rfl)) (gw_c (gw_X8_takeAt_X8_takeAt_r1 _ (gw_g 10 rfl)) (gw_c (gw_X8_takeAt_X8_takeAt_r1 _ (gw_g 3 rfl)) gw_n))) (by decide +kernel)) ggX8_takeAt_X8_wordKind
set_option maxRecDepth 20000 in
theorem ggX8_takeAt_X8_add : GoodIn wsX8_takeAt wsX8_add := goodIn_sub (gw_c (gw_X8_takeAt_X8_takeAt_r3 _ (gw_g 22 rfl)) (gw_a (gw_c (gw_X8_takeAt_X8_takeAt_r3 _ (gw_g 23 rfl)) (gw_c (gw_X8_takeAt_X8_takeAt_r4 _ (gw_g 0 rfl)) (gw_c (gw_X8_takeAt_X8_takeAt_r4 _ (gw_g 1 rfl)) (gw_c (gw_X8_takeAt_X8_takeAt_r4 _ (gw_g 2 rfl)) gw_n)))) gw_X8_takeAt_X80)) (by decide +kernel)
set_option maxRecDepth 20000 in
theorem gX8_takeAt_X8_add : GoodIn wsX8_takeAt (wsV RX8 38 RX8 yX8_add wsX8_add) := goodIn_app (goodIn_sub (gw_c (gw_X8_takeAt_X8_takeAt_r3 _ (gw_g 19 rfl)) (gw_c (gw_X8_takeAt_X8_takeAt_r3 _ (gw_g 20 rfl)) (gw_c (gw_X8_takeAt_X8_takeAt_r3 _ (gw_g 21 rfl)) (gw_c (gw_X8_takeAt_X8_takeAt_r1 _ (gw_g 3 rfl)) gw_n)))) (by decide +kernel)) ggX8_takeAt_X8_add
set_option maxRecDepth 20000 in
theorem ggX8_takeAt_X8_numberOf : GoodIn wsX8_takeAt wsX8_numberOf := goodIn_sub (gw_c (gw_X8_takeAt_X8_takeAt_r4 _ (gw_g 5 rfl)) (gw_a (gw_c (gw_X8_takeAt_X8_takeAt_r1 _ (gw_g 0 rfl)) gw_n) gw_X8_takeAt_X60)) (by decide +kernel)
set_option maxRecDepth 20000 in
theorem gX8_takeAt_X8_numberOf : GoodIn wsX8_takeAt (va_wsS RX8 57 yX8_numberOf wsX8_numberOf) := goodIn_app (goodIn_sub (gw_c (gw_X8_takeAt_X8_takeAt_r4 _ (gw_g 3 rfl)) (gw_c (gw_X8_takeAt_X8_takeAt_r4 _ (gw_g 4 rfl)) (gw_c (gw_X8_takeAt_X8_takeAt_r1 _ (gw_g 3 rfl)) gw_n))) (by decide +kernel)) ggX8_takeAt_X8_numberOf
set_option maxRecDepth 20000 in
theorem ggX8_takeAt_X8_signKind : GoodIn wsX8_takeAt wsX8_signKind := goodIn_sub (gw_c (gw_X8_takeAt_X8_takeAt_r4 _ (gw_g 8 rfl)) gw_n) (by decide +kernel)
set_option maxRecDepth 20000 in
theorem gX8_takeAt_X8_signKind : GoodIn wsX8_takeAt (va_wsS RX8 60 yX8_signKind wsX8_signKind) := goodIn_app (goodIn_sub (gw_c (gw_X8_takeAt_X8_takeAt_r4 _ (gw_g 6 rfl)) (gw_c (gw_X8_takeAt_X8_takeAt_r4 _ (gw_g 7 rfl)) (gw_c (gw_X8_takeAt_X8_takeAt_r1 _ (gw_g 3 rfl)) gw_n))) (by decide +kernel)) ggX8_takeAt_X8_signKind
theorem dX8_takeAt_0 : decode cX8_takeAt 0 = .ok (.aload_n 1, 1) := by decide +kernel
theorem dX8_takeAt_1 : decode cX8_takeAt 1 = .ok (.getfield 42, 3) := by decide +kernel
theorem dX8_takeAt_4 : decode cX8_takeAt 4 = .ok (.iload_n 2, 1) := by decide +kernel
theorem dX8_takeAt_5 : decode cX8_takeAt 5 = .ok (.iaload, 1) := by decide +kernel
theorem dX8_takeAt_6 : decode cX8_takeAt 6 = .ok (.istore_n 3, 1) := by decide +kernel
theorem dX8_takeAt_7 : decode cX8_takeAt 7 = .ok (.iload_n 3, 1) := by decide +kernel
theorem dX8_takeAt_8 : decode cX8_takeAt 8 = .ok (.bipush 32, 2) := by decide +kernel
theorem dX8_takeAt_10 : decode cX8_takeAt 10 = .ok (.if_icmp .eq 9, 3) := by decide +kernel
theorem dX8_takeAt_13 : decode cX8_takeAt 13 = .ok (.iload_n 3, 1) := by decide +kernel
theorem dX8_takeAt_14 : decode cX8_takeAt 14 = .ok (.bipush 10, 2) := by decide +kernel
theorem dX8_takeAt_16 : decode cX8_takeAt 16 = .ok (.if_icmp .ne 5, 3) := by decide +kernel
theorem dX8_takeAt_19 : decode cX8_takeAt 19 = .ok (.iconst 1, 1) := by decide +kernel
theorem dX8_takeAt_20 : decode cX8_takeAt 20 = .ok (.ireturn, 1) := by decide +kernel
theorem dX8_takeAt_21 : decode cX8_takeAt 21 = .ok (.iload_n 3, 1) := by decide +kernel
theorem dX8_takeAt_22 : decode cX8_takeAt 22 = .ok (.bipush 97, 2) := by decide +kernel
theorem dX8_takeAt_24 : decode cX8_takeAt 24 = .ok (.bipush 122, 2) := by decide +kernel
theorem dX8_takeAt_26 : decode cX8_takeAt 26 = .ok (.invokestatic 45, 3) := by decide +kernel
theorem dX8_takeAt_29 : decode cX8_takeAt 29 = .ok (.ifCond .eq 30, 3) := by decide +kernel
theorem dX8_takeAt_32 : decode cX8_takeAt 32 = .ok (.aload_n 1, 1) := by decide +kernel
theorem dX8_takeAt_33 : decode cX8_takeAt 33 = .ok (.iload_n 2, 1) := by decide +kernel
theorem dX8_takeAt_34 : decode cX8_takeAt 34 = .ok (.bipush 97, 2) := by decide +kernel
theorem dX8_takeAt_36 : decode cX8_takeAt 36 = .ok (.bipush 122, 2) := by decide +kernel
theorem dX8_takeAt_38 : decode cX8_takeAt 38 = .ok (.invokestatic 49, 3) := by decide +kernel
theorem dX8_takeAt_41 : decode cX8_takeAt 41 = .ok (.istore 4, 2) := by decide +kernel
theorem dX8_takeAt_43 : decode cX8_takeAt 43 = .ok (.aload_n 0, 1) := by decide +kernel
theorem dX8_takeAt_44 : decode cX8_takeAt 44 = .ok (.aload_n 1, 1) := by decide +kernel
theorem dX8_takeAt_45 : decode cX8_takeAt 45 = .ok (.iload_n 2, 1) := by decide +kernel
theorem dX8_takeAt_46 : decode cX8_takeAt 46 = .ok (.iload 4, 2) := by decide +kernel
theorem dX8_takeAt_48 : decode cX8_takeAt 48 = .ok (.invokestatic 53, 3) := by decide +kernel
theorem dX8_takeAt_51 : decode cX8_takeAt 51 = .ok (.iconst 0, 1) := by decide +kernel
theorem dX8_takeAt_52 : decode cX8_takeAt 52 = .ok (.iload_n 2, 1) := by decide +kernel
theorem dX8_takeAt_53 : decode cX8_takeAt 53 = .ok (.invokevirtual 38, 3) := by decide +kernel
theorem dX8_takeAt_56 : decode cX8_takeAt 56 = .ok (.iload 4, 2) := by decide +kernel
theorem dX8_takeAt_58 : decode cX8_takeAt 58 = .ok (.ireturn, 1) := by decide +kernel
theorem dX8_takeAt_59 : decode cX8_takeAt 59 = .ok (.iload_n 3, 1) := by decide +kernel
theorem dX8_takeAt_60 : decode cX8_takeAt 60 = .ok (.bipush 48, 2) := by decide +kernel
theorem dX8_takeAt_62 : decode cX8_takeAt 62 = .ok (.bipush 57, 2) := by decide +kernel
theorem dX8_takeAt_64 : decode cX8_takeAt 64 = .ok (.invokestatic 45, 3) := by decide +kernel
theorem dX8_takeAt_67 : decode cX8_takeAt 67 = .ok (.ifCond .eq 42, 3) := by decide +kernel
theorem dX8_takeAt_70 : decode cX8_takeAt 70 = .ok (.aload_n 1, 1) := by decide +kernel
theorem dX8_takeAt_71 : decode cX8_takeAt 71 = .ok (.iload_n 2, 1) := by decide +kernel
theorem dX8_takeAt_72 : decode cX8_takeAt 72 = .ok (.bipush 48, 2) := by decide +kernel
theorem dX8_takeAt_74 : decode cX8_takeAt 74 = .ok (.bipush 57, 2) := by decide +kernel
theorem dX8_takeAt_76 : decode cX8_takeAt 76 = .ok (.invokestatic 49, 3) := by decide +kernel
theorem dX8_takeAt_79 : decode cX8_takeAt 79 = .ok (.istore 4, 2) := by decide +kernel
theorem dX8_takeAt_81 : decode cX8_takeAt 81 = .ok (.aload_n 0, 1) := by decide +kernel
theorem dX8_takeAt_82 : decode cX8_takeAt 82 = .ok (.iload 4, 2) := by decide +kernel
theorem dX8_takeAt_84 : decode cX8_takeAt 84 = .ok (.iconst 4, 1) := by decide +kernel
theorem dX8_takeAt_85 : decode cX8_takeAt 85 = .ok (.if_icmp .le 8, 3) := by decide +kernel
theorem dX8_takeAt_88 : decode cX8_takeAt 88 = .ok (.bipush 19, 2) := by decide +kernel
theorem dX8_takeAt_90 : decode cX8_takeAt 90 = .ok (.goto 5, 3) := by decide +kernel
theorem dX8_takeAt_93 : decode cX8_takeAt 93 = .ok (.bipush 12, 2) := by decide +kernel
theorem dX8_takeAt_95 : decode cX8_takeAt 95 = .ok (.aload_n 1, 1) := by decide +kernel
theorem dX8_takeAt_96 : decode cX8_takeAt 96 = .ok (.iload_n 2, 1) := by decide +kernel
theorem dX8_takeAt_97 : decode cX8_takeAt 97 = .ok (.iload 4, 2) := by decide +kernel
theorem dX8_takeAt_99 : decode cX8_takeAt 99 = .ok (.invokestatic 57, 3) := by decide +kernel
theorem dX8_takeAt_102 : decode cX8_takeAt 102 = .ok (.iload_n 2, 1) := by decide +kernel
theorem dX8_takeAt_103 : decode cX8_takeAt 103 = .ok (.invokevirtual 38, 3) := by decide +kernel
theorem dX8_takeAt_106 : decode cX8_takeAt 106 = .ok (.iload 4, 2) := by decide +kernel
theorem dX8_takeAt_108 : decode cX8_takeAt 108 = .ok (.ireturn, 1) := by decide +kernel
theorem dX8_takeAt_109 : decode cX8_takeAt 109 = .ok (.aload_n 0, 1) := by decide +kernel
theorem dX8_takeAt_110 : decode cX8_takeAt 110 = .ok (.iload_n 3, 1) := by decide +kernel
theorem dX8_takeAt_111 : decode cX8_takeAt 111 = .ok (.invokestatic 60, 3) := by decide +kernel
theorem dX8_takeAt_114 : decode cX8_takeAt 114 = .ok (.iconst 0, 1) := by decide +kernel
theorem dX8_takeAt_115 : decode cX8_takeAt 115 = .ok (.iload_n 2, 1) := by decide +kernel
theorem dX8_takeAt_116 : decode cX8_takeAt 116 = .ok (.invokevirtual 38, 3) := by decide +kernel
theorem dX8_takeAt_119 : decode cX8_takeAt 119 = .ok (.iconst 1, 1) := by decide +kernel
theorem dX8_takeAt_120 : decode cX8_takeAt 120 = .ok (.ireturn, 1) := by decide +kernel
theorem dX8_isIn_0 : decode cX8_isIn 0 = .ok (.iload_n 0, 1) := by decide +kernel
theorem dX8_isIn_1 : decode cX8_isIn 1 = .ok (.iload_n 1, 1) := by decide +kernel
theorem dX8_isIn_2 : decode cX8_isIn 2 = .ok (.if_icmp .lt 12, 3) := by decide +kernel
theorem dX8_isIn_5 : decode cX8_isIn 5 = .ok (.iload_n 0, 1) := by decide +kernel
theorem dX8_isIn_6 : decode cX8_isIn 6 = .ok (.iload_n 2, 1) := by decide +kernel
theorem dX8_isIn_7 : decode cX8_isIn 7 = .ok (.if_icmp .gt 7, 3) := by decide +kernel
theorem dX8_isIn_10 : decode cX8_isIn 10 = .ok (.iconst 1, 1) := by decide +kernel
theorem dX8_isIn_11 : decode cX8_isIn 11 = .ok (.goto 4, 3) := by decide +kernel
theorem dX8_isIn_14 : decode cX8_isIn 14 = .ok (.iconst 0, 1) := by decide +kernel
theorem dX8_isIn_15 : decode cX8_isIn 15 = .ok (.ireturn, 1) := by decide +kernel
set_option maxRecDepth 20000 in
theorem ggX8_rowLength_X8_isIn : GoodIn wsX8_rowLength wsX8_isIn := goodIn_sub (gw_c (gw_t (gw_l (gw_g 5 rfl))) gw_n) (by decide +kernel)
set_option maxRecDepth 20000 in
theorem gX8_rowLength_X8_isIn : GoodIn wsX8_rowLength (va_wsS RX8 45 yX8_isIn wsX8_isIn) := goodIn_app (goodIn_sub (gw_c (gw_t (gw_l (gw_g 2 rfl))) (gw_c (gw_t (gw_l (gw_g 3 rfl))) (gw_c (gw_t (gw_l (gw_g 4 rfl))) gw_n))) (by decide +kernel)) ggX8_rowLength_X8_isIn
theorem dX8_rowLength_0 : decode cX8_rowLength 0 = .ok (.iload_n 1, 1) := by decide +kernel
theorem dX8_rowLength_1 : decode cX8_rowLength 1 = .ok (.istore 4, 2) := by decide +kernel
theorem dX8_rowLength_3 : decode cX8_rowLength 3 = .ok (.iload 4, 2) := by decide +kernel
theorem dX8_rowLength_5 : decode cX8_rowLength 5 = .ok (.aload_n 0, 1) := by decide +kernel
theorem dX8_rowLength_6 : decode cX8_rowLength 6 = .ok (.getfield 25, 3) := by decide +kernel
theorem dX8_rowLength_9 : decode cX8_rowLength 9 = .ok (.if_icmp .ge 24, 3) := by decide +kernel
theorem dX8_rowLength_12 : decode cX8_rowLength 12 = .ok (.aload_n 0, 1) := by decide +kernel
theorem dX8_rowLength_13 : decode cX8_rowLength 13 = .ok (.getfield 42, 3) := by decide +kernel
theorem dX8_rowLength_16 : decode cX8_rowLength 16 = .ok (.iload 4, 2) := by decide +kernel
theorem dX8_rowLength_18 : decode cX8_rowLength 18 = .ok (.iaload, 1) := by decide +kernel
theorem dX8_rowLength_19 : decode cX8_rowLength 19 = .ok (.iload_n 2, 1) := by decide +kernel
theorem dX8_rowLength_20 : decode cX8_rowLength 20 = .ok (.iload_n 3, 1) := by decide +kernel
theorem dX8_rowLength_21 : decode cX8_rowLength 21 = .ok (.invokestatic 45, 3) := by decide +kernel
theorem dX8_rowLength_24 : decode cX8_rowLength 24 = .ok (.ifCond .eq 9, 3) := by decide +kernel
theorem dX8_rowLength_27 : decode cX8_rowLength 27 = .ok (.iinc 4 1, 3) := by decide +kernel
theorem dX8_rowLength_30 : decode cX8_rowLength 30 = .ok (.goto (-27), 3) := by decide +kernel
theorem dX8_rowLength_33 : decode cX8_rowLength 33 = .ok (.iload 4, 2) := by decide +kernel
theorem dX8_rowLength_35 : decode cX8_rowLength 35 = .ok (.iload_n 1, 1) := by decide +kernel
theorem dX8_rowLength_36 : decode cX8_rowLength 36 = .ok (.isub, 1) := by decide +kernel
theorem dX8_rowLength_37 : decode cX8_rowLength 37 = .ok (.ireturn, 1) := by decide +kernel
theorem dX8_numberOf_0 : decode cX8_numberOf 0 = .ok (.iconst 0, 1) := by decide +kernel
theorem dX8_numberOf_1 : decode cX8_numberOf 1 = .ok (.istore_n 3, 1) := by decide +kernel
theorem dX8_numberOf_2 : decode cX8_numberOf 2 = .ok (.iload_n 1, 1) := by decide +kernel
theorem dX8_numberOf_3 : decode cX8_numberOf 3 = .ok (.istore 4, 2) := by decide +kernel
theorem dX8_numberOf_5 : decode cX8_numberOf 5 = .ok (.iload 4, 2) := by decide +kernel
theorem dX8_numberOf_7 : decode cX8_numberOf 7 = .ok (.iload_n 1, 1) := by decide +kernel
theorem dX8_numberOf_8 : decode cX8_numberOf 8 = .ok (.iload_n 2, 1) := by decide +kernel
theorem dX8_numberOf_9 : decode cX8_numberOf 9 = .ok (.iadd, 1) := by decide +kernel
theorem dX8_numberOf_10 : decode cX8_numberOf 10 = .ok (.if_icmp .ge 33, 3) := by decide +kernel
theorem dX8_numberOf_13 : decode cX8_numberOf 13 = .ok (.iload 4, 2) := by decide +kernel
theorem dX8_numberOf_15 : decode cX8_numberOf 15 = .ok (.iload_n 1, 1) := by decide +kernel
theorem dX8_numberOf_16 : decode cX8_numberOf 16 = .ok (.iconst 4, 1) := by decide +kernel
theorem dX8_numberOf_17 : decode cX8_numberOf 17 = .ok (.iadd, 1) := by decide +kernel
theorem dX8_numberOf_18 : decode cX8_numberOf 18 = .ok (.if_icmp .ge 25, 3) := by decide +kernel
theorem dX8_numberOf_21 : decode cX8_numberOf 21 = .ok (.bipush 10, 2) := by decide +kernel
theorem dX8_numberOf_23 : decode cX8_numberOf 23 = .ok (.iload_n 3, 1) := by decide +kernel
theorem dX8_numberOf_24 : decode cX8_numberOf 24 = .ok (.imul, 1) := by decide +kernel
theorem dX8_numberOf_25 : decode cX8_numberOf 25 = .ok (.aload_n 0, 1) := by decide +kernel
theorem dX8_numberOf_26 : decode cX8_numberOf 26 = .ok (.getfield 42, 3) := by decide +kernel
theorem dX8_numberOf_29 : decode cX8_numberOf 29 = .ok (.iload 4, 2) := by decide +kernel
theorem dX8_numberOf_31 : decode cX8_numberOf 31 = .ok (.iaload, 1) := by decide +kernel
theorem dX8_numberOf_32 : decode cX8_numberOf 32 = .ok (.iadd, 1) := by decide +kernel
theorem dX8_numberOf_33 : decode cX8_numberOf 33 = .ok (.bipush 48, 2) := by decide +kernel
theorem dX8_numberOf_35 : decode cX8_numberOf 35 = .ok (.isub, 1) := by decide +kernel
theorem dX8_numberOf_36 : decode cX8_numberOf 36 = .ok (.istore_n 3, 1) := by decide +kernel
theorem dX8_numberOf_37 : decode cX8_numberOf 37 = .ok (.iinc 4 1, 3) := by decide +kernel
theorem dX8_numberOf_40 : decode cX8_numberOf 40 = .ok (.goto (-35), 3) := by decide +kernel
theorem dX8_numberOf_43 : decode cX8_numberOf 43 = .ok (.iload_n 3, 1) := by decide +kernel
theorem dX8_numberOf_44 : decode cX8_numberOf 44 = .ok (.ireturn, 1) := by decide +kernel
theorem dX8_signKind_0 : decode cX8_signKind 0 = .ok (.iload_n 0, 1) := by decide +kernel
theorem dX8_signKind_1 : decode cX8_signKind 1 = .ok (.tableswitch 50 58 62 #[35, 38, 41, 47, 44], 35) := by decide +kernel
theorem dX8_signKind_36 : decode cX8_signKind 36 = .ok (.bipush 13, 2) := by decide +kernel
theorem dX8_signKind_38 : decode cX8_signKind 38 = .ok (.ireturn, 1) := by decide +kernel
theorem dX8_signKind_39 : decode cX8_signKind 39 = .ok (.bipush 14, 2) := by decide +kernel
theorem dX8_signKind_41 : decode cX8_signKind 41 = .ok (.ireturn, 1) := by decide +kernel
theorem dX8_signKind_42 : decode cX8_signKind 42 = .ok (.bipush 15, 2) := by decide +kernel
theorem dX8_signKind_44 : decode cX8_signKind 44 = .ok (.ireturn, 1) := by decide +kernel
theorem dX8_signKind_45 : decode cX8_signKind 45 = .ok (.bipush 16, 2) := by decide +kernel
theorem dX8_signKind_47 : decode cX8_signKind 47 = .ok (.ireturn, 1) := by decide +kernel
theorem dX8_signKind_48 : decode cX8_signKind 48 = .ok (.bipush 17, 2) := by decide +kernel
theorem dX8_signKind_50 : decode cX8_signKind 50 = .ok (.ireturn, 1) := by decide +kernel
theorem dX8_signKind_51 : decode cX8_signKind 51 = .ok (.bipush 19, 2) := by decide +kernel
theorem dX8_signKind_53 : decode cX8_signKind 53 = .ok (.ireturn, 1) := by decide +kernel
set_option maxRecDepth 20000 in
theorem ggX8_wordKind_X8_wordOf : GoodIn wsX8_wordKind wsX8_wordOf := goodIn_sub (gw_c (gw_X8_wordKind_X8_wordKind_r1 _ (gw_g 3 rfl)) gw_n) (by decide +kernel)
set_option maxRecDepth 20000 in
theorem gX8_wordKind_X8_wordOf : GoodIn wsX8_wordKind (va_wsS RX8 64 yX8_wordOf wsX8_wordOf) := goodIn_app (goodIn_sub (gw_c (gw_X8_wordKind_X8_wordKind_r1 _ (gw_g 0 rfl)) (gw_c (gw_X8_wordKind_X8_wordKind_r1 _ (gw_g 1 rfl)) (gw_c (gw_X8_wordKind_X8_wordKind_r1 _ (gw_g 2 rfl)) gw_n))) (by decide +kernel)) ggX8_wordKind_X8_wordOf
set_option maxRecDepth 20000 in
theorem ggX8_wordKind_X8_spells : GoodIn wsX8_wordKind wsX8_spells := goodIn_sub (gw_c (gw_X8_wordKind_X8_wordKind_r1 _ (gw_g 6 rfl)) (gw_a (gw_a (gw_c (gw_X8_wordKind_X8_wordKind_r1 _ (gw_g 7 rfl)) (gw_c (gw_X8_wordKind_X8_wordKind_r1 _ (gw_g 8 rfl)) (gw_c (gw_X8_wordKind_X8_wordKind_r1 _ (gw_g 9 rfl)) (gw_c (gw_X8_wordKind_X8_wordKind_r1 _ (gw_g 10 rfl)) (gw_c (gw_X8_wordKind_X8_wordKind_r1 _ (gw_g 11 rfl)) (gw_c (gw_X8_wordKind_X8_wordKind_r1 _ (gw_g 12 rfl)) (gw_c (gw_X8_wordKind_X8_wordKind_r1 _ (gw_g 13 rfl)) (gw_c (gw_X8_wordKind_X8_wordKind_r1 _ (gw_g 14 rfl)) (gw_c (gw_X8_wordKind_X8_wordKind_r1 _ (gw_g 15 rfl)) (gw_c (gw_X8_wordKind_X8_wordKind_r1 _ (gw_g 16 rfl)) (gw_c (gw_X8_wordKind_X8_wordKind_r1 _ (gw_g 17 rfl)) (gw_c (gw_X8_wordKind_X8_wordKind_r1 _ (gw_g 18 rfl)) (gw_c (gw_X8_wordKind_X8_wordKind_r1 _ (gw_g 19 rfl)) (gw_c (gw_X8_wordKind_X8_wordKind_r1 _ (gw_g 20 rfl)) (gw_c (gw_X8_wordKind_X8_wordKind_r1 _ (gw_g 21 rfl)) (gw_c (gw_X8_wordKind_X8_wordKind_r1 _ (gw_g 22 rfl)) (gw_c (gw_X8_wordKind_X8_wordKind_r1 _ (gw_g 23 rfl)) (gw_c (gw_X8_wordKind_X8_wordKind_r2 _ (gw_g 0 rfl)) (gw_c (gw_X8_wordKind_X8_wordKind_r2 _ (gw_g 1 rfl)) (gw_c (gw_X8_wordKind_X8_wordKind_r2 _ (gw_g 2 rfl)) (gw_c (gw_X8_wordKind_X8_wordKind_r2 _ (gw_g 3 rfl)) (gw_c (gw_X8_wordKind_X8_wordKind_r2 _ (gw_g 4 rfl)) (gw_c (gw_X8_wordKind_X8_wordKind_r2 _ (gw_g 5 rfl)) (gw_c (gw_X8_wordKind_X8_wordKind_r2 _ (gw_g 6 rfl)) gw_n)))))))))))))))))))))))) (gw_a (gw_c (gw_X8_wordKind_X8_wordKind_r2 _ (gw_g 7 rfl)) (gw_c (gw_X8_wordKind_X8_wordKind_r2 _ (gw_g 8 rfl)) (gw_c (gw_X8_wordKind_X8_wordKind_r2 _ (gw_g 9 rfl)) (gw_c (gw_X8_wordKind_X8_wordKind_r2 _ (gw_g 10 rfl)) (gw_c (gw_X8_wordKind_X8_wordKind_r2 _ (gw_g 11 rfl)) (gw_c (gw_X8_wordKind_X8_wordKind_r2 _ (gw_g 12 rfl)) (gw_c (gw_X8_wordKind_X8_wordKind_r2 _ (gw_g 13 rfl)) (gw_c (gw_X8_wordKind_X8_wordKind_r2 _ (gw_g 14 rfl)) (gw_c (gw_X8_wordKind_X8_wordKind_r2 _ (gw_g 15 rfl)) (gw_c (gw_X8_wordKind_X8_wordKind_r2 _ (gw_g 16 rfl)) (gw_c (gw_X8_wordKind_X8_wordKind_r2 _ (gw_g 17 rfl)) (gw_c (gw_X8_wordKind_X8_wordKind_r2 _ (gw_g 18 rfl)) (gw_c (gw_X8_wordKind_X8_wordKind_r2 _ (gw_g 19 rfl)) (gw_c (gw_X8_wordKind_X8_wordKind_r2 _ (gw_g 20 rfl)) (gw_c (gw_X8_wordKind_X8_wordKind_r2 _ (gw_g 21 rfl)) (gw_c (gw_X8_wordKind_X8_wordKind_r2 _ (gw_g 22 rfl)) (gw_c (gw_X8_wordKind_X8_wordKind_r2 _ (gw_g 23 rfl)) (gw_c (gw_X8_wordKind_X8_wordKind_r3 _ (gw_g 0 rfl)) (gw_c (gw_X8_wordKind_X8_wordKind_r3 _ (gw_g 1 rfl)) (gw_c (gw_X8_wordKind_X8_wordKind_r3 _ (gw_g 2 rfl)) (gw_c (gw_X8_wordKind_X8_wordKind_r3 _ (gw_g 3 rfl)) (gw_c (gw_X8_wordKind_X8_wordKind_r3 _ (gw_g 4 rfl)) (gw_c (gw_X8_wordKind_X8_wordKind_r3 _ (gw_g 5 rfl)) (gw_c (gw_X8_wordKind_X8_wordKind_r3 _ (gw_g 6 rfl)) gw_n)))))))))))))))))))))))) (gw_c (gw_X8_wordKind_X8_wordKind_r3 _ (gw_g 7 rfl)) (gw_c (gw_X8_wordKind_X8_wordKind_r3 _ (gw_g 8 rfl)) gw_n)))) gw_X8_wordKind_X60)) (by decide +kernel)
set_option maxRecDepth 20000 in
theorem gX8_wordKind_X8_spells : GoodIn wsX8_wordKind (va_wsS RX8 68 yX8_spells wsX8_spells) := goodIn_app (goodIn_sub (gw_c (gw_X8_wordKind_X8_wordKind_r1 _ (gw_g 4 rfl)) (gw_c (gw_X8_wordKind_X8_wordKind_r1 _ (gw_g 5 rfl)) (gw_c (gw_X8_wordKind_X8_wordKind_r1 _ (gw_g 2 rfl)) gw_n))) (by decide +kernel)) ggX8_wordKind_X8_spells
theorem dX8_wordKind_0 : decode cX8_wordKind 0 = .ok (.iconst 0, 1) := by decide +kernel
theorem dX8_wordKind_1 : decode cX8_wordKind 1 = .ok (.istore_n 3, 1) := by decide +kernel
theorem dX8_wordKind_2 : decode cX8_wordKind 2 = .ok (.iload_n 3, 1) := by decide +kernel
theorem dX8_wordKind_3 : decode cX8_wordKind 3 = .ok (.bipush 11, 2) := by decide +kernel
theorem dX8_wordKind_5 : decode cX8_wordKind 5 = .ok (.if_icmp .gt 24, 3) := by decide +kernel
theorem dX8_wordKind_8 : decode cX8_wordKind 8 = .ok (.aload_n 0, 1) := by decide +kernel
theorem dX8_wordKind_9 : decode cX8_wordKind 9 = .ok (.iload_n 1, 1) := by decide +kernel
theorem dX8_wordKind_10 : decode cX8_wordKind 10 = .ok (.iload_n 2, 1) := by decide +kernel
theorem dX8_wordKind_11 : decode cX8_wordKind 11 = .ok (.iload_n 3, 1) := by decide +kernel
theorem dX8_wordKind_12 : decode cX8_wordKind 12 = .ok (.invokestatic 64, 3) := by decide +kernel
theorem dX8_wordKind_15 : decode cX8_wordKind 15 = .ok (.invokestatic 68, 3) := by decide +kernel
theorem dX8_wordKind_18 : decode cX8_wordKind 18 = .ok (.ifCond .eq 5, 3) := by decide +kernel
theorem dX8_wordKind_21 : decode cX8_wordKind 21 = .ok (.iload_n 3, 1) := by decide +kernel
theorem dX8_wordKind_22 : decode cX8_wordKind 22 = .ok (.ireturn, 1) := by decide +kernel
theorem dX8_wordKind_23 : decode cX8_wordKind 23 = .ok (.iinc 3 1, 3) := by decide +kernel
theorem dX8_wordKind_26 : decode cX8_wordKind 26 = .ok (.goto (-24), 3) := by decide +kernel
theorem dX8_wordKind_29 : decode cX8_wordKind 29 = .ok (.bipush 18, 2) := by decide +kernel
theorem dX8_wordKind_31 : decode cX8_wordKind 31 = .ok (.ireturn, 1) := by decide +kernel
theorem dX8_wordOf_0 : decode cX8_wordOf 0 = .ok (.iload_n 0, 1) := by decide +kernel
theorem dX8_wordOf_1 : decode cX8_wordOf 1 = .ok (.tableswitch 92 0 10 #[59, 62, 65, 68, 71, 74, 77, 80, 83, 86, 89], 59) := by decide +kernel
theorem dX8_wordOf_60 : decode cX8_wordOf 60 = .ok (.ldc 72, 2) := by decide +kernel
theorem dX8_wordOf_62 : decode cX8_wordOf 62 = .ok (.areturn, 1) := by decide +kernel
theorem dX8_wordOf_63 : decode cX8_wordOf 63 = .ok (.ldc 74, 2) := by decide +kernel
theorem dX8_wordOf_65 : decode cX8_wordOf 65 = .ok (.areturn, 1) := by decide +kernel
theorem dX8_wordOf_66 : decode cX8_wordOf 66 = .ok (.ldc 76, 2) := by decide +kernel
theorem dX8_wordOf_68 : decode cX8_wordOf 68 = .ok (.areturn, 1) := by decide +kernel
theorem dX8_wordOf_69 : decode cX8_wordOf 69 = .ok (.ldc 78, 2) := by decide +kernel
theorem dX8_wordOf_71 : decode cX8_wordOf 71 = .ok (.areturn, 1) := by decide +kernel
theorem dX8_wordOf_72 : decode cX8_wordOf 72 = .ok (.ldc 80, 2) := by decide +kernel
theorem dX8_wordOf_74 : decode cX8_wordOf 74 = .ok (.areturn, 1) := by decide +kernel
theorem dX8_wordOf_75 : decode cX8_wordOf 75 = .ok (.ldc 82, 2) := by decide +kernel
theorem dX8_wordOf_77 : decode cX8_wordOf 77 = .ok (.areturn, 1) := by decide +kernel
theorem dX8_wordOf_78 : decode cX8_wordOf 78 = .ok (.ldc 84, 2) := by decide +kernel
theorem dX8_wordOf_80 : decode cX8_wordOf 80 = .ok (.areturn, 1) := by decide +kernel
theorem dX8_wordOf_81 : decode cX8_wordOf 81 = .ok (.ldc 86, 2) := by decide +kernel
theorem dX8_wordOf_83 : decode cX8_wordOf 83 = .ok (.areturn, 1) := by decide +kernel
theorem dX8_wordOf_84 : decode cX8_wordOf 84 = .ok (.ldc 88, 2) := by decide +kernel
theorem dX8_wordOf_86 : decode cX8_wordOf 86 = .ok (.areturn, 1) := by decide +kernel
theorem dX8_wordOf_87 : decode cX8_wordOf 87 = .ok (.ldc 90, 2) := by decide +kernel
theorem dX8_wordOf_89 : decode cX8_wordOf 89 = .ok (.areturn, 1) := by decide +kernel
theorem dX8_wordOf_90 : decode cX8_wordOf 90 = .ok (.ldc 92, 2) := by decide +kernel
theorem dX8_wordOf_92 : decode cX8_wordOf 92 = .ok (.areturn, 1) := by decide +kernel
theorem dX8_wordOf_93 : decode cX8_wordOf 93 = .ok (.ldc 94, 2) := by decide +kernel
theorem dX8_wordOf_95 : decode cX8_wordOf 95 = .ok (.areturn, 1) := by decide +kernel
set_option maxRecDepth 20000 in
theorem ggX8_spells_J0_length_8abf5 : GoodIn wsX8_spells wsJ0_length_8abf5 := goodIn_sub (gw_c (gw_X8_spells_X8_spells_r1 _ (gw_g 5 rfl)) (gw_c (gw_X8_spells_X8_spells_r1 _ (gw_g 6 rfl)) (gw_c (gw_X8_spells_X8_spells_r1 _ (gw_g 7 rfl)) (gw_c (gw_X8_spells_X8_spells_r1 _ (gw_g 8 rfl)) (gw_c (gw_X8_spells_X8_spells_r1 _ (gw_g 9 rfl)) (gw_c (gw_X8_spells_X8_spells_r1 _ (gw_g 4 rfl)) (gw_c (gw_X8_spells_X8_spells_r1 _ (gw_g 10 rfl)) (gw_c (gw_X8_spells_X8_spells_r1 _ (gw_g 11 rfl)) (gw_c (gw_X8_spells_X8_spells_r1 _ (gw_g 12 rfl)) gw_n))))))))) (by decide +kernel)
set_option maxRecDepth 20000 in
theorem gX8_spells_J0_length_8abf5 : GoodIn wsX8_spells (wsV RX8 96 RJ0 yJ0_length_8abf5 wsJ0_length_8abf5) := goodIn_app (goodIn_sub (gw_c (gw_X8_spells_X8_spells_r1 _ (gw_g 1 rfl)) (gw_c (gw_X8_spells_X8_spells_r1 _ (gw_g 2 rfl)) (gw_c (gw_X8_spells_X8_spells_r1 _ (gw_g 3 rfl)) (gw_c (gw_X8_spells_X8_spells_r1 _ (gw_g 4 rfl)) gw_n)))) (by decide +kernel)) ggX8_spells_J0_length_8abf5
set_option maxRecDepth 20000 in
theorem ggX8_spells_J0_charAt_5068e : GoodIn wsX8_spells wsJ0_charAt_5068e := goodIn_sub (gw_c (gw_X8_spells_X8_spells_r1 _ (gw_g 16 rfl)) (gw_a (gw_c (gw_X8_spells_X8_spells_r1 _ (gw_g 6 rfl)) (gw_c (gw_X8_spells_X8_spells_r1 _ (gw_g 17 rfl)) (gw_c (gw_X8_spells_X8_spells_r1 _ (gw_g 18 rfl)) (gw_c (gw_X8_spells_X8_spells_r1 _ (gw_g 19 rfl)) (gw_c (gw_X8_spells_X8_spells_r1 _ (gw_g 4 rfl)) (gw_c (gw_X8_spells_X8_spells_r1 _ (gw_g 20 rfl)) (gw_c (gw_X8_spells_X8_spells_r1 _ (gw_g 11 rfl)) (gw_c (gw_X8_spells_X8_spells_r1 _ (gw_g 12 rfl)) (gw_c (gw_X8_spells_X8_spells_r1 _ (gw_g 21 rfl)) (gw_c (gw_X8_spells_X8_spells_r1 _ (gw_g 22 rfl)) (gw_c (gw_X8_spells_X8_spells_r1 _ (gw_g 23 rfl)) (gw_c (gw_X8_spells_X8_spells_r2 _ (gw_g 0 rfl)) (gw_c (gw_X8_spells_X8_spells_r2 _ (gw_g 1 rfl)) (gw_c (gw_X8_spells_X8_spells_r2 _ (gw_g 2 rfl)) (gw_c (gw_X8_spells_X8_spells_r2 _ (gw_g 3 rfl)) (gw_c (gw_X8_spells_X8_spells_r2 _ (gw_g 4 rfl)) (gw_c (gw_X8_spells_X8_spells_r2 _ (gw_g 5 rfl)) (gw_c (gw_X8_spells_X8_spells_r2 _ (gw_g 6 rfl)) (gw_c (gw_X8_spells_X8_spells_r2 _ (gw_g 7 rfl)) (gw_c (gw_X8_spells_X8_spells_r2 _ (gw_g 8 rfl)) (gw_c (gw_X8_spells_X8_spells_r2 _ (gw_g 9 rfl)) (gw_c (gw_X8_spells_X8_spells_r2 _ (gw_g 10 rfl)) (gw_c (gw_X8_spells_X8_spells_r2 _ (gw_g 11 rfl)) (gw_c (gw_X8_spells_X8_spells_r2 _ (gw_g 12 rfl)) gw_n)))))))))))))))))))))))) (gw_c (gw_X8_spells_X8_spells_r2 _ (gw_g 13 rfl)) (gw_c (gw_X8_spells_X8_spells_r2 _ (gw_g 14 rfl)) (gw_c (gw_X8_spells_X8_spells_r2 _ (gw_g 15 rfl)) (gw_c (gw_X8_spells_X8_spells_r2 _ (gw_g 16 rfl)) (gw_c (gw_X8_spells_X8_spells_r2 _ (gw_g 17 rfl)) (gw_c (gw_X8_spells_X8_spells_r2 _ (gw_g 18 rfl)) (gw_c (gw_X8_spells_X8_spells_r2 _ (gw_g 19 rfl)) (gw_c (gw_X8_spells_X8_spells_r2 _ (gw_g 20 rfl)) (gw_c (gw_X8_spells_X8_spells_r2 _ (gw_g 21 rfl)) (gw_c (gw_X8_spells_X8_spells_r2 _ (gw_g 22 rfl)) (gw_c (gw_X8_spells_X8_spells_r2 _ (gw_g 23 rfl)) (gw_c (gw_X8_spells_X8_spells_r3 _ (gw_g 0 rfl)) (gw_c (gw_X8_spells_X8_spells_r3 _ (gw_g 1 rfl)) gw_n))))))))))))))) (by decide +kernel)
set_option maxRecDepth 20000 in
theorem gX8_spells_J0_charAt_5068e : GoodIn wsX8_spells (wsV RX8 102 RJ0 yJ0_charAt_5068e wsJ0_charAt_5068e) := goodIn_app (goodIn_sub (gw_c (gw_X8_spells_X8_spells_r1 _ (gw_g 13 rfl)) (gw_c (gw_X8_spells_X8_spells_r1 _ (gw_g 14 rfl)) (gw_c (gw_X8_spells_X8_spells_r1 _ (gw_g 15 rfl)) (gw_c (gw_X8_spells_X8_spells_r1 _ (gw_g 4 rfl)) gw_n)))) (by decide +kernel)) ggX8_spells_J0_charAt_5068e
theorem dX8_spells_0 : decode cX8_spells 0 = .ok (.iload_n 2, 1) := by decide +kernel
theorem dX8_spells_1 : decode cX8_spells 1 = .ok (.aload_n 3, 1) := by decide +kernel
theorem dX8_spells_2 : decode cX8_spells 2 = .ok (.invokevirtual 96, 3) := by decide +kernel
theorem dX8_spells_5 : decode cX8_spells 5 = .ok (.if_icmp .eq 5, 3) := by decide +kernel
theorem dX8_spells_8 : decode cX8_spells 8 = .ok (.iconst 0, 1) := by decide +kernel
theorem dX8_spells_9 : decode cX8_spells 9 = .ok (.ireturn, 1) := by decide +kernel
theorem dX8_spells_10 : decode cX8_spells 10 = .ok (.iconst 0, 1) := by decide +kernel
theorem dX8_spells_11 : decode cX8_spells 11 = .ok (.istore 4, 2) := by decide +kernel
theorem dX8_spells_13 : decode cX8_spells 13 = .ok (.iload 4, 2) := by decide +kernel
theorem dX8_spells_15 : decode cX8_spells 15 = .ok (.iload_n 2, 1) := by decide +kernel
theorem dX8_spells_16 : decode cX8_spells 16 = .ok (.if_icmp .ge 29, 3) := by decide +kernel
theorem dX8_spells_19 : decode cX8_spells 19 = .ok (.aload_n 0, 1) := by decide +kernel
theorem dX8_spells_20 : decode cX8_spells 20 = .ok (.getfield 42, 3) := by decide +kernel
theorem dX8_spells_23 : decode cX8_spells 23 = .ok (.iload_n 1, 1) := by decide +kernel
theorem dX8_spells_24 : decode cX8_spells 24 = .ok (.iload 4, 2) := by decide +kernel
theorem dX8_spells_26 : decode cX8_spells 26 = .ok (.iadd, 1) := by decide +kernel
theorem dX8_spells_27 : decode cX8_spells 27 = .ok (.iaload, 1) := by decide +kernel
theorem dX8_spells_28 : decode cX8_spells 28 = .ok (.aload_n 3, 1) := by decide +kernel
theorem dX8_spells_29 : decode cX8_spells 29 = .ok (.iload 4, 2) := by decide +kernel
theorem dX8_spells_31 : decode cX8_spells 31 = .ok (.invokevirtual 102, 3) := by decide +kernel
theorem dX8_spells_34 : decode cX8_spells 34 = .ok (.if_icmp .eq 5, 3) := by decide +kernel
theorem dX8_spells_37 : decode cX8_spells 37 = .ok (.iconst 0, 1) := by decide +kernel
theorem dX8_spells_38 : decode cX8_spells 38 = .ok (.ireturn, 1) := by decide +kernel
theorem dX8_spells_39 : decode cX8_spells 39 = .ok (.iinc 4 1, 3) := by decide +kernel
theorem dX8_spells_42 : decode cX8_spells 42 = .ok (.goto (-29), 3) := by decide +kernel
theorem dX8_spells_45 : decode cX8_spells 45 = .ok (.iconst 1, 1) := by decide +kernel
theorem dX8_spells_46 : decode cX8_spells 46 = .ok (.ireturn, 1) := by decide +kernel
set_option maxRecDepth 20000 in
theorem ggX9_init_X0_init : GoodIn wsX9_init wsX0_init := goodIn_sub (gw_c (gw_X9_init_X9_init_r1 _ (gw_g 17 rfl)) (gw_a (gw_a (gw_a (gw_a (gw_a (gw_a (gw_a (gw_c (gw_X9_init_X9_init_r1 _ (gw_g 18 rfl)) (gw_c (gw_X9_init_X9_init_r1 _ (gw_g 1 rfl)) (gw_c (gw_X9_init_X9_init_r1 _ (gw_g 2 rfl)) (gw_c (gw_X9_init_X9_init_r1 _ (gw_g 19 rfl)) (gw_c (gw_X9_init_X9_init_r1 _ (gw_g 20 rfl)) (gw_c (gw_X9_init_X9_init_r1 _ (gw_g 21 rfl)) (gw_c (gw_X9_init_X9_init_r1 _ (gw_g 22 rfl)) (gw_c (gw_X9_init_X9_init_r1 _ (gw_g 23 rfl)) (gw_c (gw_X9_init_X9_init_r2 _ (gw_g 0 rfl)) (gw_c (gw_X9_init_X9_init_r2 _ (gw_g 1 rfl)) (gw_c (gw_X9_init_X9_init_r2 _ (gw_g 2 rfl)) (gw_c (gw_X9_init_X9_init_r2 _ (gw_g 3 rfl)) (gw_c (gw_X9_init_X9_init_r2 _ (gw_g 4 rfl)) (gw_c (gw_X9_init_X9_init_r2 _ (gw_g 5 rfl)) (gw_c (gw_X9_init_X9_init_r2 _ (gw_g 6 rfl)) (gw_c (gw_X9_init_X9_init_r2 _ (gw_g 7 rfl)) (gw_c (gw_X9_init_X9_init_r2 _ (gw_g 8 rfl)) (gw_c (gw_X9_init_X9_init_r2 _ (gw_g 9 rfl)) (gw_c (gw_X9_init_X9_init_r2 _ (gw_g 10 rfl)) (gw_c (gw_X9_init_X9_init_r2 _ (gw_g 11 rfl)) (gw_c (gw_X9_init_X9_init_r2 _ (gw_g 12 rfl)) (gw_c (gw_X9_init_X9_init_r2 _ (gw_g 13 rfl)) (gw_c (gw_X9_init_X9_init_r2 _ (gw_g 14 rfl)) (gw_c (gw_X9_init_X9_init_r2 _ (gw_g 15 rfl)) gw_n)))))))))))))))))))))))) (gw_a (gw_c (gw_X9_init_X9_init_r2 _ (gw_g 16 rfl)) (gw_c (gw_X9_init_X9_init_r2 _ (gw_g 17 rfl)) (gw_c (gw_X9_init_X9_init_r2 _ (gw_g 18 rfl)) (gw_c (gw_X9_init_X9_init_r2 _ (gw_g 19 rfl)) (gw_c (gw_X9_init_X9_init_r2 _ (gw_g 20 rfl)) (gw_c (gw_X9_init_X9_init_r2 _ (gw_g 21 rfl)) (gw_c (gw_X9_init_X9_init_r2 _ (gw_g 22 rfl)) (gw_c (gw_X9_init_X9_init_r2 _ (gw_g 23 rfl)) (gw_c (gw_X9_init_X9_init_r3 _ (gw_g 0 rfl)) (gw_c (gw_X9_init_X9_init_r3 _ (gw_g 1 rfl)) (gw_c (gw_X9_init_X9_init_r3 _ (gw_g 2 rfl)) (gw_c (gw_X9_init_X9_init_r3 _ (gw_g 3 rfl)) (gw_c (gw_X9_init_X9_init_r3 _ (gw_g 4 rfl)) (gw_c (gw_X9_init_X9_init_r3 _ (gw_g 5 rfl)) (gw_c (gw_X9_init_X9_init_r3 _ (gw_g 6 rfl)) (gw_c (gw_X9_init_X9_init_r3 _ (gw_g 7 rfl)) (gw_c (gw_X9_init_X9_init_r3 _ (gw_g 8 rfl)) (gw_c (gw_X9_init_X9_init_r3 _ (gw_g 9 rfl)) (gw_c (gw_X9_init_X9_init_r3 _ (gw_g 10 rfl)) (gw_c (gw_X9_init_X9_init_r3 _ (gw_g 11 rfl)) (gw_c (gw_X9_init_X9_init_r3 _ (gw_g 12 rfl)) (gw_c (gw_X9_init_X9_init_r3 _ (gw_g 13 rfl)) (gw_c (gw_X9_init_X9_init_r3 _ (gw_g 14 rfl)) (gw_c (gw_X9_init_X9_init_r3 _ (gw_g 15 rfl)) gw_n)))))))))))))))))))))))) (gw_a (gw_c (gw_X9_init_X9_init_r3 _ (gw_g 16 rfl)) (gw_c (gw_X9_init_X9_init_r3 _ (gw_g 17 rfl)) (gw_c (gw_X9_init_X9_init_r3 _ (gw_g 18 rfl)) (gw_c (gw_X9_init_X9_init_r3 _ (gw_g 19 rfl)) (gw_c (gw_X9_init_X9_init_r3 _ (gw_g 20 rfl)) (gw_c (gw_X9_init_X9_init_r3 _ (gw_g 21 rfl)) (gw_c (gw_X9_init_X9_init_r3 _ (gw_g 22 rfl)) (gw_c (gw_X9_init_X9_init_r3 _ (gw_g 23 rfl)) (gw_c (gw_X9_init_X9_init_r4 _ (gw_g 0 rfl)) (gw_c (gw_X9_init_X9_init_r4 _ (gw_g 1 rfl)) (gw_c (gw_X9_init_X9_init_r4 _ (gw_g 2 rfl)) (gw_c (gw_X9_init_X9_init_r4 _ (gw_g 3 rfl)) (gw_c (gw_X9_init_X9_init_r4 _ (gw_g 4 rfl)) (gw_c (gw_X9_init_X9_init_r4 _ (gw_g 5 rfl)) (gw_c (gw_X9_init_X9_init_r4 _ (gw_g 6 rfl)) (gw_c (gw_X9_init_X9_init_r4 _ (gw_g 7 rfl)) (gw_c (gw_X9_init_X9_init_r4 _ (gw_g 8 rfl)) (gw_c (gw_X9_init_X9_init_r4 _ (gw_g 9 rfl)) (gw_c (gw_X9_init_X9_init_r4 _ (gw_g 10 rfl)) (gw_c (gw_X9_init_X9_init_r4 _ (gw_g 11 rfl)) (gw_c (gw_X9_init_X9_init_r4 _ (gw_g 12 rfl)) (gw_c (gw_X9_init_X9_init_r4 _ (gw_g 13 rfl)) (gw_c (gw_X9_init_X9_init_r4 _ (gw_g 14 rfl)) (gw_c (gw_X9_init_X9_init_r4 _ (gw_g 15 rfl)) gw_n)))))))))))))))))))))))) (gw_c (gw_X9_init_X9_init_r4 _ (gw_g 16 rfl)) (gw_c (gw_X9_init_X9_init_r4 _ (gw_g 17 rfl)) (gw_c (gw_X9_init_X9_init_r4 _ (gw_g 18 rfl)) (gw_c (gw_X9_init_X9_init_r4 _ (gw_g 19 rfl)) (gw_c (gw_X9_init_X9_init_r4 _ (gw_g 20 rfl)) (gw_c (gw_X9_init_X9_init_r4 _ (gw_g 21 rfl)) gw_n))))))))) gw_X9_init_X40) gw_X9_init_X00) gw_X9_init_X50) gw_X9_init_X70) gw_X9_init_X10) gw_X9_init_X20)) (by decide +kernel)
set_option maxRecDepth 20000 in
theorem gX9_init_X0_init_n9 : GoodIn wsX9_init (wsX0_init) := ggX9_init_X0_init
set_option maxRecDepth 20000 in
theorem ggX9_init_X6_init : GoodIn wsX9_init wsX6_init := goodIn_sub (gw_c (gw_X9_init_X9_init_r4 _ (gw_g 23 rfl)) (gw_a (gw_c (gw_X9_init_X9_init_r5 _ (gw_g 0 rfl)) (gw_c (gw_X9_init_X9_init_r1 _ (gw_g 1 rfl)) (gw_c (gw_X9_init_X9_init_r1 _ (gw_g 2 rfl)) (gw_c (gw_X9_init_X9_init_r2 _ (gw_g 15 rfl)) (gw_c (gw_X9_init_X9_init_r5 _ (gw_g 1 rfl)) gw_n))))) gw_X9_init_X60)) (by decide +kernel)
set_option maxRecDepth 20000 in
theorem gX9_init_X6_init_n22 : GoodIn wsX9_init (wsX6_init) := ggX9_init_X6_init
set_option maxRecDepth 20000 in
theorem ggX9_init_X3_init : GoodIn wsX9_init wsX3_init := goodIn_sub (gw_c (gw_X9_init_X9_init_r5 _ (gw_g 3 rfl)) (gw_a (gw_a (gw_a (gw_a (gw_c (gw_X9_init_X9_init_r5 _ (gw_g 4 rfl)) (gw_c (gw_X9_init_X9_init_r1 _ (gw_g 1 rfl)) (gw_c (gw_X9_init_X9_init_r1 _ (gw_g 2 rfl)) (gw_c (gw_X9_init_X9_init_r5 _ (gw_g 5 rfl)) (gw_c (gw_X9_init_X9_init_r5 _ (gw_g 6 rfl)) (gw_c (gw_X9_init_X9_init_r5 _ (gw_g 7 rfl)) (gw_c (gw_X9_init_X9_init_r2 _ (gw_g 12 rfl)) (gw_c (gw_X9_init_X9_init_r2 _ (gw_g 13 rfl)) (gw_c (gw_X9_init_X9_init_r5 _ (gw_g 8 rfl)) (gw_c (gw_X9_init_X9_init_r5 _ (gw_g 9 rfl)) (gw_c (gw_X9_init_X9_init_r5 _ (gw_g 10 rfl)) (gw_c (gw_X9_init_X9_init_r5 _ (gw_g 11 rfl)) (gw_c (gw_X9_init_X9_init_r5 _ (gw_g 12 rfl)) (gw_c (gw_X9_init_X9_init_r4 _ (gw_g 12 rfl)) (gw_c (gw_X9_init_X9_init_r4 _ (gw_g 13 rfl)) (gw_c (gw_X9_init_X9_init_r4 _ (gw_g 14 rfl)) (gw_c (gw_X9_init_X9_init_r2 _ (gw_g 15 rfl)) (gw_c (gw_X9_init_X9_init_r4 _ (gw_g 15 rfl)) (gw_c (gw_X9_init_X9_init_r4 _ (gw_g 16 rfl)) (gw_c (gw_X9_init_X9_init_r4 _ (gw_g 17 rfl)) (gw_c (gw_X9_init_X9_init_r4 _ (gw_g 18 rfl)) (gw_c (gw_X9_init_X9_init_r4 _ (gw_g 19 rfl)) (gw_c (gw_X9_init_X9_init_r4 _ (gw_g 20 rfl)) (gw_c (gw_X9_init_X9_init_r4 _ (gw_g 21 rfl)) gw_n)))))))))))))))))))))))) (gw_c (gw_X9_init_X9_init_r5 _ (gw_g 13 rfl)) (gw_c (gw_X9_init_X9_init_r5 _ (gw_g 14 rfl)) (gw_c (gw_X9_init_X9_init_r5 _ (gw_g 15 rfl)) (gw_c (gw_X9_init_X9_init_r5 _ (gw_g 16 rfl)) (gw_c (gw_X9_init_X9_init_r5 _ (gw_g 17 rfl)) (gw_c (gw_X9_init_X9_init_r5 _ (gw_g 18 rfl)) gw_n))))))) gw_X9_init_X30) gw_X9_init_X20) gw_X9_init_X80)) (by decide +kernel)
set_option maxRecDepth 20000 in
theorem gX9_init_X3_init_n29 : GoodIn wsX9_init (wsX3_init) := ggX9_init_X3_init
theorem dX9_init_0 : decode cX9_init 0 = .ok (.aload_n 0, 1) := by decide +kernel
theorem dX9_init_1 : decode cX9_init 1 = .ok (.invokespecial 1, 3) := by decide +kernel
theorem dX9_init_4 : decode cX9_init 4 = .ok (.aload_n 0, 1) := by decide +kernel
theorem dX9_init_5 : decode cX9_init 5 = .ok (.new 7, 3) := by decide +kernel
theorem dX9_init_8 : decode cX9_init 8 = .ok (.dup, 1) := by decide +kernel
theorem dX9_init_9 : decode cX9_init 9 = .ok (.invokespecial 9, 3) := by decide +kernel
theorem dX9_init_12 : decode cX9_init 12 = .ok (.putfield 10, 3) := by decide +kernel
theorem dX9_init_15 : decode cX9_init 15 = .ok (.aload_n 0, 1) := by decide +kernel
theorem dX9_init_16 : decode cX9_init 16 = .ok (.iconst 3, 1) := by decide +kernel
theorem dX9_init_17 : decode cX9_init 17 = .ok (.anewarray 7, 3) := by decide +kernel
theorem dX9_init_20 : decode cX9_init 20 = .ok (.putfield 16, 3) := by decide +kernel
theorem dX9_init_23 : decode cX9_init 23 = .ok (.aload_n 0, 1) := by decide +kernel
theorem dX9_init_24 : decode cX9_init 24 = .ok (.new 20, 3) := by decide +kernel
theorem dX9_init_27 : decode cX9_init 27 = .ok (.dup, 1) := by decide +kernel
theorem dX9_init_28 : decode cX9_init 28 = .ok (.invokespecial 22, 3) := by decide +kernel
theorem dX9_init_31 : decode cX9_init 31 = .ok (.putfield 23, 3) := by decide +kernel
theorem dX9_init_34 : decode cX9_init 34 = .ok (.aload_n 0, 1) := by decide +kernel
theorem dX9_init_35 : decode cX9_init 35 = .ok (.new 27, 3) := by decide +kernel
theorem dX9_init_38 : decode cX9_init 38 = .ok (.dup, 1) := by decide +kernel
theorem dX9_init_39 : decode cX9_init 39 = .ok (.invokespecial 29, 3) := by decide +kernel
theorem dX9_init_42 : decode cX9_init 42 = .ok (.putfield 30, 3) := by decide +kernel
theorem dX9_init_45 : decode cX9_init 45 = .ok (.return_, 1) := by decide +kernel
set_option maxRecDepth 20000 in
theorem ggX9_line_X4_lay : GoodIn wsX9_line wsX4_lay := goodIn_sub (gw_c (gw_t (gw_l (gw_l (gw_l (gw_l (gw_g 9 rfl)))))) (gw_a (gw_c (gw_t (gw_l (gw_l (gw_l (gw_l (gw_g 10 rfl)))))) (gw_c (gw_t (gw_l (gw_l (gw_l (gw_l (gw_g 11 rfl)))))) (gw_c (gw_t (gw_l (gw_l (gw_l (gw_l (gw_g 12 rfl)))))) (gw_c (gw_t (gw_l (gw_l (gw_l (gw_l (gw_g 13 rfl)))))) (gw_c (gw_t (gw_l (gw_l (gw_l (gw_l (gw_g 14 rfl)))))) (gw_c (gw_t (gw_l (gw_l (gw_l (gw_l (gw_g 15 rfl)))))) (gw_c (gw_t (gw_l (gw_l (gw_l (gw_l (gw_g 16 rfl)))))) gw_n))))))) gw_X9_line_X40)) (by decide +kernel)
set_option maxRecDepth 20000 in
theorem gX9_line_X4_lay : GoodIn wsX9_line (wsV RX9 48 RX4 yX4_lay wsX4_lay) := goodIn_app (goodIn_sub (gw_c (gw_t (gw_l (gw_l (gw_l (gw_l (gw_g 5 rfl)))))) (gw_c (gw_t (gw_l (gw_l (gw_l (gw_l (gw_g 6 rfl)))))) (gw_c (gw_t (gw_l (gw_l (gw_l (gw_l (gw_g 7 rfl)))))) (gw_c (gw_t (gw_l (gw_l (gw_l (gw_l (gw_g 8 rfl)))))) gw_n)))) (by decide +kernel)) ggX9_line_X4_lay
set_option maxRecDepth 20000 in
theorem ggX9_line_J7_fill_53178 : GoodIn wsX9_line wsJ7_fill_53178 := goodIn_sub (gw_c (gw_t (gw_l (gw_l (gw_l (gw_l (gw_g 16 rfl)))))) gw_n) (by decide +kernel)
set_option maxRecDepth 20000 in
theorem gX9_line_J7_fill_53178 : GoodIn wsX9_line (va_wsS RX9 58 yJ7_fill_53178 wsJ7_fill_53178) := goodIn_app (goodIn_sub (gw_c (gw_t (gw_l (gw_l (gw_l (gw_l (gw_g 17 rfl)))))) (gw_c (gw_t (gw_l (gw_l (gw_l (gw_l (gw_g 14 rfl)))))) (gw_c (gw_t (gw_l (gw_l (gw_l (gw_l (gw_g 15 rfl)))))) gw_n))) (by decide +kernel)) ggX9_line_J7_fill_53178
theorem dX9_line_0 : decode cX9_line 0 = .ok (.aload_n 0, 1) := by decide +kernel
theorem dX9_line_1 : decode cX9_line 1 = .ok (.getfield 10, 3) := by decide +kernel
theorem dX9_line_4 : decode cX9_line 4 = .ok (.getfield 34, 3) := by decide +kernel
theorem dX9_line_7 : decode cX9_line 7 = .ok (.getfield 38, 3) := by decide +kernel
theorem dX9_line_10 : decode cX9_line 10 = .ok (.ifCond .gt 14, 3) := by decide +kernel
theorem dX9_line_13 : decode cX9_line 13 = .ok (.iload_n 1, 1) := by decide +kernel
theorem dX9_line_14 : decode cX9_line 14 = .ok (.iconst 2, 1) := by decide +kernel
theorem dX9_line_15 : decode cX9_line 15 = .ok (.if_icmp .lt 9, 3) := by decide +kernel
theorem dX9_line_18 : decode cX9_line 18 = .ok (.iload_n 1, 1) := by decide +kernel
theorem dX9_line_19 : decode cX9_line 19 = .ok (.bipush 10, 2) := by decide +kernel
theorem dX9_line_21 : decode cX9_line 21 = .ok (.if_icmp .le 5, 3) := by decide +kernel
theorem dX9_line_24 : decode cX9_line 24 = .ok (.iconst 0, 1) := by decide +kernel
theorem dX9_line_25 : decode cX9_line 25 = .ok (.ireturn, 1) := by decide +kernel
theorem dX9_line_26 : decode cX9_line 26 = .ok (.aload_n 0, 1) := by decide +kernel
theorem dX9_line_27 : decode cX9_line 27 = .ok (.getfield 10, 3) := by decide +kernel
theorem dX9_line_30 : decode cX9_line 30 = .ok (.getfield 44, 3) := by decide +kernel
theorem dX9_line_33 : decode cX9_line 33 = .ok (.iload_n 1, 1) := by decide +kernel
theorem dX9_line_34 : decode cX9_line 34 = .ok (.invokevirtual 48, 3) := by decide +kernel
theorem dX9_line_37 : decode cX9_line 37 = .ok (.aload_n 0, 1) := by decide +kernel
theorem dX9_line_38 : decode cX9_line 38 = .ok (.getfield 10, 3) := by decide +kernel
theorem dX9_line_41 : decode cX9_line 41 = .ok (.getfield 54, 3) := by decide +kernel
theorem dX9_line_44 : decode cX9_line 44 = .ok (.iconst 0, 1) := by decide +kernel
theorem dX9_line_45 : decode cX9_line 45 = .ok (.invokestatic 58, 3) := by decide +kernel
theorem dX9_line_48 : decode cX9_line 48 = .ok (.iconst 1, 1) := by decide +kernel
theorem dX9_line_49 : decode cX9_line 49 = .ok (.ireturn, 1) := by decide +kernel
set_option maxRecDepth 20000 in
theorem ggX9_stretch_X4_hasLeg : GoodIn wsX9_stretch wsX4_hasLeg := goodIn_sub (gw_c (gw_t (gw_l (gw_l (gw_l (gw_l (gw_g 10 rfl)))))) (gw_a (gw_c (gw_t (gw_l (gw_l (gw_l (gw_l (gw_g 11 rfl)))))) gw_n) gw_X9_stretch_X40)) (by decide +kernel)
set_option maxRecDepth 20000 in
theorem gX9_stretch_X4_hasLeg : GoodIn wsX9_stretch (wsV RX9 64 RX4 yX4_hasLeg wsX4_hasLeg) := goodIn_app (goodIn_sub (gw_c (gw_t (gw_l (gw_l (gw_l (gw_l (gw_g 6 rfl)))))) (gw_c (gw_t (gw_l (gw_l (gw_l (gw_l (gw_g 7 rfl)))))) (gw_c (gw_t (gw_l (gw_l (gw_l (gw_l (gw_g 8 rfl)))))) (gw_c (gw_t (gw_l (gw_l (gw_l (gw_l (gw_g 9 rfl)))))) gw_n)))) (by decide +kernel)) ggX9_stretch_X4_hasLeg
theorem dX9_stretch_0 : decode cX9_stretch 0 = .ok (.aload_n 0, 1) := by decide +kernel
theorem dX9_stretch_1 : decode cX9_stretch 1 = .ok (.getfield 10, 3) := by decide +kernel
theorem dX9_stretch_4 : decode cX9_stretch 4 = .ok (.getfield 34, 3) := by decide +kernel
theorem dX9_stretch_7 : decode cX9_stretch 7 = .ok (.getfield 38, 3) := by decide +kernel
theorem dX9_stretch_10 : decode cX9_stretch 10 = .ok (.ifCond .gt 17, 3) := by decide +kernel
theorem dX9_stretch_13 : decode cX9_stretch 13 = .ok (.aload_n 0, 1) := by decide +kernel
theorem dX9_stretch_14 : decode cX9_stretch 14 = .ok (.getfield 10, 3) := by decide +kernel
theorem dX9_stretch_17 : decode cX9_stretch 17 = .ok (.getfield 44, 3) := by decide +kernel
theorem dX9_stretch_20 : decode cX9_stretch 20 = .ok (.iload_n 1, 1) := by decide +kernel
theorem dX9_stretch_21 : decode cX9_stretch 21 = .ok (.invokevirtual 64, 3) := by decide +kernel
theorem dX9_stretch_24 : decode cX9_stretch 24 = .ok (.ifCond .ne 5, 3) := by decide +kernel
theorem dX9_stretch_27 : decode cX9_stretch 27 = .ok (.iconst 0, 1) := by decide +kernel
theorem dX9_stretch_28 : decode cX9_stretch 28 = .ok (.ireturn, 1) := by decide +kernel
theorem dX9_stretch_29 : decode cX9_stretch 29 = .ok (.iload_n 2, 1) := by decide +kernel
theorem dX9_stretch_30 : decode cX9_stretch 30 = .ok (.iconst 1, 1) := by decide +kernel
theorem dX9_stretch_31 : decode cX9_stretch 31 = .ok (.if_icmp .lt 21, 3) := by decide +kernel
theorem dX9_stretch_34 : decode cX9_stretch 34 = .ok (.iload_n 2, 1) := by decide +kernel
theorem dX9_stretch_35 : decode cX9_stretch 35 = .ok (.sipush 500, 3) := by decide +kernel
theorem dX9_stretch_38 : decode cX9_stretch 38 = .ok (.if_icmp .gt 14, 3) := by decide +kernel
theorem dX9_stretch_41 : decode cX9_stretch 41 = .ok (.iload_n 3, 1) := by decide +kernel
