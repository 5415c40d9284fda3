theorem dX9_stretch_42 : decode cX9_stretch 42 = .ok (.iconst 1, 1) := by decide +kernel
theorem dX9_stretch_43 : decode cX9_stretch 43 = .ok (.if_icmp .lt 9, 3) := by decide +kernel
theorem dX9_stretch_46 : decode cX9_stretch 46 = .ok (.iload_n 3, 1) := by decide +kernel
theorem dX9_stretch_47 : decode cX9_stretch 47 = .ok (.bipush 24, 2) := by decide +kernel
theorem dX9_stretch_49 : decode cX9_stretch 49 = .ok (.if_icmp .le 5, 3) := by decide +kernel
theorem dX9_stretch_52 : decode cX9_stretch 52 = .ok (.iconst 0, 1) := by decide +kernel
theorem dX9_stretch_53 : decode cX9_stretch 53 = .ok (.ireturn, 1) := by decide +kernel
theorem dX9_stretch_54 : decode cX9_stretch 54 = .ok (.aload_n 0, 1) := by decide +kernel
theorem dX9_stretch_55 : decode cX9_stretch 55 = .ok (.getfield 10, 3) := by decide +kernel
theorem dX9_stretch_58 : decode cX9_stretch 58 = .ok (.getfield 44, 3) := by decide +kernel
theorem dX9_stretch_61 : decode cX9_stretch 61 = .ok (.getfield 68, 3) := by decide +kernel
theorem dX9_stretch_64 : decode cX9_stretch 64 = .ok (.iload_n 1, 1) := by decide +kernel
theorem dX9_stretch_65 : decode cX9_stretch 65 = .ok (.iload_n 2, 1) := by decide +kernel
theorem dX9_stretch_66 : decode cX9_stretch 66 = .ok (.iastore, 1) := by decide +kernel
theorem dX9_stretch_67 : decode cX9_stretch 67 = .ok (.aload_n 0, 1) := by decide +kernel
theorem dX9_stretch_68 : decode cX9_stretch 68 = .ok (.getfield 10, 3) := by decide +kernel
theorem dX9_stretch_71 : decode cX9_stretch 71 = .ok (.getfield 44, 3) := by decide +kernel
theorem dX9_stretch_74 : decode cX9_stretch 74 = .ok (.getfield 71, 3) := by decide +kernel
theorem dX9_stretch_77 : decode cX9_stretch 77 = .ok (.iload_n 1, 1) := by decide +kernel
theorem dX9_stretch_78 : decode cX9_stretch 78 = .ok (.iload_n 3, 1) := by decide +kernel
theorem dX9_stretch_79 : decode cX9_stretch 79 = .ok (.iastore, 1) := by decide +kernel
theorem dX9_stretch_80 : decode cX9_stretch 80 = .ok (.iconst 1, 1) := by decide +kernel
theorem dX9_stretch_81 : decode cX9_stretch 81 = .ok (.ireturn, 1) := by decide +kernel
set_option maxRecDepth 20000 in
theorem ggX9_office_X9_isOffice : GoodIn wsX9_office wsX9_isOffice := goodIn_sub (gw_c (gw_t (gw_l (gw_l (gw_l (gw_l (gw_g 8 rfl)))))) gw_n) (by decide +kernel)
set_option maxRecDepth 20000 in
theorem gX9_office_X9_isOffice : GoodIn wsX9_office (va_wsS RX9 74 yX9_isOffice wsX9_isOffice) := goodIn_app (goodIn_sub (gw_c (gw_t (gw_l (gw_l (gw_l (gw_l (gw_g 5 rfl)))))) (gw_c (gw_t (gw_l (gw_l (gw_l (gw_l (gw_g 6 rfl)))))) (gw_c (gw_t (gw_l (gw_l (gw_l (gw_l (gw_g 7 rfl)))))) gw_n))) (by decide +kernel)) ggX9_office_X9_isOffice
set_option maxRecDepth 20000 in
theorem ggX9_office_X4_isStop : GoodIn wsX9_office wsX4_isStop := goodIn_sub (gw_c (gw_t (gw_l (gw_l (gw_l (gw_l (gw_g 13 rfl)))))) (gw_a (gw_c (gw_t (gw_l (gw_l (gw_l (gw_l (gw_g 14 rfl)))))) gw_n) gw_X9_office_X40)) (by decide +kernel)
set_option maxRecDepth 20000 in
theorem gX9_office_X4_isStop : GoodIn wsX9_office (wsV RX9 77 RX4 yX4_isStop wsX4_isStop) := goodIn_app (goodIn_sub (gw_c (gw_t (gw_l (gw_l (gw_l (gw_l (gw_g 9 rfl)))))) (gw_c (gw_t (gw_l (gw_l (gw_l (gw_l (gw_g 10 rfl)))))) (gw_c (gw_t (gw_l (gw_l (gw_l (gw_l (gw_g 11 rfl)))))) (gw_c (gw_t (gw_l (gw_l (gw_l (gw_l (gw_g 12 rfl)))))) gw_n)))) (by decide +kernel)) ggX9_office_X4_isStop
theorem dX9_office_0 : decode cX9_office 0 = .ok (.aload_n 0, 1) := by decide +kernel
theorem dX9_office_1 : decode cX9_office 1 = .ok (.getfield 10, 3) := by decide +kernel
theorem dX9_office_4 : decode cX9_office 4 = .ok (.getfield 34, 3) := by decide +kernel
theorem dX9_office_7 : decode cX9_office 7 = .ok (.getfield 38, 3) := by decide +kernel
theorem dX9_office_10 : decode cX9_office 10 = .ok (.ifCond .gt 24, 3) := by decide +kernel
theorem dX9_office_13 : decode cX9_office 13 = .ok (.iload_n 1, 1) := by decide +kernel
theorem dX9_office_14 : decode cX9_office 14 = .ok (.invokestatic 74, 3) := by decide +kernel
theorem dX9_office_17 : decode cX9_office 17 = .ok (.ifCond .eq 17, 3) := by decide +kernel
theorem dX9_office_20 : decode cX9_office 20 = .ok (.aload_n 0, 1) := by decide +kernel
theorem dX9_office_21 : decode cX9_office 21 = .ok (.getfield 10, 3) := by decide +kernel
theorem dX9_office_24 : decode cX9_office 24 = .ok (.getfield 44, 3) := by decide +kernel
theorem dX9_office_27 : decode cX9_office 27 = .ok (.iload_n 2, 1) := by decide +kernel
theorem dX9_office_28 : decode cX9_office 28 = .ok (.invokevirtual 77, 3) := by decide +kernel
theorem dX9_office_31 : decode cX9_office 31 = .ok (.ifCond .ne 5, 3) := by decide +kernel
theorem dX9_office_34 : decode cX9_office 34 = .ok (.iconst 0, 1) := by decide +kernel
theorem dX9_office_35 : decode cX9_office 35 = .ok (.ireturn, 1) := by decide +kernel
theorem dX9_office_36 : decode cX9_office 36 = .ok (.aload_n 0, 1) := by decide +kernel
theorem dX9_office_37 : decode cX9_office 37 = .ok (.getfield 10, 3) := by decide +kernel
theorem dX9_office_40 : decode cX9_office 40 = .ok (.getfield 54, 3) := by decide +kernel
theorem dX9_office_43 : decode cX9_office 43 = .ok (.iload_n 1, 1) := by decide +kernel
theorem dX9_office_44 : decode cX9_office 44 = .ok (.iload_n 2, 1) := by decide +kernel
theorem dX9_office_45 : decode cX9_office 45 = .ok (.iastore, 1) := by decide +kernel
theorem dX9_office_46 : decode cX9_office 46 = .ok (.iconst 1, 1) := by decide +kernel
theorem dX9_office_47 : decode cX9_office 47 = .ok (.ireturn, 1) := by decide +kernel
set_option maxRecDepth 20000 in
theorem ggX9_share_X9_isOffice : GoodIn wsX9_share wsX9_isOffice := goodIn_sub (gw_c (gw_t (gw_l (gw_l (gw_g 5 rfl)))) gw_n) (by decide +kernel)
set_option maxRecDepth 20000 in
theorem gX9_share_X9_isOffice : GoodIn wsX9_share (va_wsS RX9 74 yX9_isOffice wsX9_isOffice) := goodIn_app (goodIn_sub (gw_c (gw_t (gw_l (gw_l (gw_g 2 rfl)))) (gw_c (gw_t (gw_l (gw_l (gw_g 3 rfl)))) (gw_c (gw_t (gw_l (gw_l (gw_g 4 rfl)))) gw_n))) (by decide +kernel)) ggX9_share_X9_isOffice
theorem dX9_share_0 : decode cX9_share 0 = .ok (.iload_n 1, 1) := by decide +kernel
theorem dX9_share_1 : decode cX9_share 1 = .ok (.ifCond .lt 16, 3) := by decide +kernel
theorem dX9_share_4 : decode cX9_share 4 = .ok (.iload_n 1, 1) := by decide +kernel
theorem dX9_share_5 : decode cX9_share 5 = .ok (.bipush 10, 2) := by decide +kernel
theorem dX9_share_7 : decode cX9_share 7 = .ok (.if_icmp .ge 10, 3) := by decide +kernel
theorem dX9_share_10 : decode cX9_share 10 = .ok (.iload_n 2, 1) := by decide +kernel
theorem dX9_share_11 : decode cX9_share 11 = .ok (.invokestatic 74, 3) := by decide +kernel
theorem dX9_share_14 : decode cX9_share 14 = .ok (.ifCond .ne 5, 3) := by decide +kernel
theorem dX9_share_17 : decode cX9_share 17 = .ok (.iconst 0, 1) := by decide +kernel
theorem dX9_share_18 : decode cX9_share 18 = .ok (.ireturn, 1) := by decide +kernel
theorem dX9_share_19 : decode cX9_share 19 = .ok (.aload_n 0, 1) := by decide +kernel
theorem dX9_share_20 : decode cX9_share 20 = .ok (.getfield 10, 3) := by decide +kernel
theorem dX9_share_23 : decode cX9_share 23 = .ok (.getfield 80, 3) := by decide +kernel
theorem dX9_share_26 : decode cX9_share 26 = .ok (.iload_n 1, 1) := by decide +kernel
theorem dX9_share_27 : decode cX9_share 27 = .ok (.iload_n 2, 1) := by decide +kernel
theorem dX9_share_28 : decode cX9_share 28 = .ok (.iastore, 1) := by decide +kernel
theorem dX9_share_29 : decode cX9_share 29 = .ok (.iconst 1, 1) := by decide +kernel
theorem dX9_share_30 : decode cX9_share 30 = .ok (.ireturn, 1) := by decide +kernel
set_option maxRecDepth 20000 in
theorem ggX9_run_X5_isTold : GoodIn wsX9_run wsX5_isTold := goodIn_sub (gw_c (gw_X9_run_X9_run_r1 _ (gw_g 7 rfl)) (gw_a (gw_c (gw_X9_run_X9_run_r1 _ (gw_g 8 rfl)) gw_n) gw_X9_run_X50)) (by decide +kernel)
set_option maxRecDepth 20000 in
theorem gX9_run_X5_isTold : GoodIn wsX9_run (wsV RX9 83 RX5 yX5_isTold wsX5_isTold) := goodIn_app (goodIn_sub (gw_c (gw_X9_run_X9_run_r1 _ (gw_g 3 rfl)) (gw_c (gw_X9_run_X9_run_r1 _ (gw_g 4 rfl)) (gw_c (gw_X9_run_X9_run_r1 _ (gw_g 5 rfl)) (gw_c (gw_X9_run_X9_run_r1 _ (gw_g 6 rfl)) gw_n)))) (by decide +kernel)) ggX9_run_X5_isTold
set_option maxRecDepth 20000 in
theorem ggX9_run_X0_hasLeft : GoodIn wsX9_run wsX0_hasLeft := goodIn_sub (gw_c (gw_X9_run_X9_run_r1 _ (gw_g 13 rfl)) (gw_a (gw_a (gw_c (gw_X9_run_X9_run_r1 _ (gw_g 14 rfl)) (gw_c (gw_X9_run_X9_run_r1 _ (gw_g 15 rfl)) (gw_c (gw_X9_run_X9_run_r1 _ (gw_g 16 rfl)) (gw_c (gw_X9_run_X9_run_r1 _ (gw_g 17 rfl)) (gw_c (gw_X9_run_X9_run_r1 _ (gw_g 18 rfl)) (gw_c (gw_X9_run_X9_run_r1 _ (gw_g 19 rfl)) (gw_c (gw_X9_run_X9_run_r1 _ (gw_g 20 rfl)) (gw_c (gw_X9_run_X9_run_r1 _ (gw_g 21 rfl)) gw_n)))))))) gw_X9_run_X00) gw_X9_run_X40)) (by decide +kernel)
set_option maxRecDepth 20000 in
theorem gX9_run_X0_hasLeft : GoodIn wsX9_run (wsV RX9 86 RX0 yX0_hasLeft wsX0_hasLeft) := goodIn_app (goodIn_sub (gw_c (gw_X9_run_X9_run_r1 _ (gw_g 9 rfl)) (gw_c (gw_X9_run_X9_run_r1 _ (gw_g 10 rfl)) (gw_c (gw_X9_run_X9_run_r1 _ (gw_g 11 rfl)) (gw_c (gw_X9_run_X9_run_r1 _ (gw_g 12 rfl)) gw_n)))) (by decide +kernel)) ggX9_run_X0_hasLeft
set_option maxRecDepth 20000 in
theorem ggX9_run_X5_add : GoodIn wsX9_run wsX5_add := goodIn_sub (gw_c (gw_X9_run_X9_run_r2 _ (gw_g 1 rfl)) (gw_a (gw_c (gw_X9_run_X9_run_r2 _ (gw_g 2 rfl)) (gw_c (gw_X9_run_X9_run_r1 _ (gw_g 8 rfl)) (gw_c (gw_X9_run_X9_run_r2 _ (gw_g 3 rfl)) (gw_c (gw_X9_run_X9_run_r2 _ (gw_g 4 rfl)) (gw_c (gw_X9_run_X9_run_r2 _ (gw_g 5 rfl)) (gw_c (gw_X9_run_X9_run_r2 _ (gw_g 6 rfl)) (gw_c (gw_X9_run_X9_run_r2 _ (gw_g 7 rfl)) gw_n))))))) gw_X9_run_X50)) (by decide +kernel)
set_option maxRecDepth 20000 in
theorem gX9_run_X5_add : GoodIn wsX9_run (wsV RX9 90 RX5 yX5_add wsX5_add) := goodIn_app (goodIn_sub (gw_c (gw_X9_run_X9_run_r1 _ (gw_g 22 rfl)) (gw_c (gw_X9_run_X9_run_r1 _ (gw_g 23 rfl)) (gw_c (gw_X9_run_X9_run_r2 _ (gw_g 0 rfl)) (gw_c (gw_X9_run_X9_run_r1 _ (gw_g 6 rfl)) gw_n)))) (by decide +kernel)) ggX9_run_X5_add
theorem dX9_run_0 : decode cX9_run 0 = .ok (.iload_n 1, 1) := by decide +kernel
theorem dX9_run_1 : decode cX9_run 1 = .ok (.ifCond .lt 35, 3) := by decide +kernel
theorem dX9_run_4 : decode cX9_run 4 = .ok (.iload_n 1, 1) := by decide +kernel
theorem dX9_run_5 : decode cX9_run 5 = .ok (.bipush 60, 2) := by decide +kernel
theorem dX9_run_7 : decode cX9_run 7 = .ok (.if_icmp .ge 29, 3) := by decide +kernel
theorem dX9_run_10 : decode cX9_run 10 = .ok (.aload_n 0, 1) := by decide +kernel
theorem dX9_run_11 : decode cX9_run 11 = .ok (.getfield 10, 3) := by decide +kernel
theorem dX9_run_14 : decode cX9_run 14 = .ok (.getfield 34, 3) := by decide +kernel
theorem dX9_run_17 : decode cX9_run 17 = .ok (.iload_n 1, 1) := by decide +kernel
theorem dX9_run_18 : decode cX9_run 18 = .ok (.invokevirtual 83, 3) := by decide +kernel
theorem dX9_run_21 : decode cX9_run 21 = .ok (.ifCond .ne 15, 3) := by decide +kernel
theorem dX9_run_24 : decode cX9_run 24 = .ok (.aload_n 0, 1) := by decide +kernel
theorem dX9_run_25 : decode cX9_run 25 = .ok (.getfield 10, 3) := by decide +kernel
theorem dX9_run_28 : decode cX9_run 28 = .ok (.iload_n 1, 1) := by decide +kernel
theorem dX9_run_29 : decode cX9_run 29 = .ok (.iconst 0, 1) := by decide +kernel
theorem dX9_run_30 : decode cX9_run 30 = .ok (.invokevirtual 86, 3) := by decide +kernel
theorem dX9_run_33 : decode cX9_run 33 = .ok (.ifCond .eq 5, 3) := by decide +kernel
theorem dX9_run_36 : decode cX9_run 36 = .ok (.iconst 0, 1) := by decide +kernel
theorem dX9_run_37 : decode cX9_run 37 = .ok (.ireturn, 1) := by decide +kernel
theorem dX9_run_38 : decode cX9_run 38 = .ok (.iload_n 2, 1) := by decide +kernel
theorem dX9_run_39 : decode cX9_run 39 = .ok (.iconst 1, 1) := by decide +kernel
theorem dX9_run_40 : decode cX9_run 40 = .ok (.if_icmp .lt 9, 3) := by decide +kernel
theorem dX9_run_43 : decode cX9_run 43 = .ok (.iload_n 2, 1) := by decide +kernel
theorem dX9_run_44 : decode cX9_run 44 = .ok (.bipush 10, 2) := by decide +kernel
theorem dX9_run_46 : decode cX9_run 46 = .ok (.if_icmp .le 5, 3) := by decide +kernel
theorem dX9_run_49 : decode cX9_run 49 = .ok (.iconst 0, 1) := by decide +kernel
theorem dX9_run_50 : decode cX9_run 50 = .ok (.ireturn, 1) := by decide +kernel
theorem dX9_run_51 : decode cX9_run 51 = .ok (.aload_n 0, 1) := by decide +kernel
theorem dX9_run_52 : decode cX9_run 52 = .ok (.getfield 10, 3) := by decide +kernel
theorem dX9_run_55 : decode cX9_run 55 = .ok (.getfield 34, 3) := by decide +kernel
theorem dX9_run_58 : decode cX9_run 58 = .ok (.iload_n 1, 1) := by decide +kernel
theorem dX9_run_59 : decode cX9_run 59 = .ok (.iload_n 2, 1) := by decide +kernel
theorem dX9_run_60 : decode cX9_run 60 = .ok (.aload_n 0, 1) := by decide +kernel
theorem dX9_run_61 : decode cX9_run 61 = .ok (.getfield 10, 3) := by decide +kernel
theorem dX9_run_64 : decode cX9_run 64 = .ok (.getfield 80, 3) := by decide +kernel
theorem dX9_run_67 : decode cX9_run 67 = .ok (.invokevirtual 90, 3) := by decide +kernel
theorem dX9_run_70 : decode cX9_run 70 = .ok (.iconst 1, 1) := by decide +kernel
theorem dX9_run_71 : decode cX9_run 71 = .ok (.ireturn, 1) := by decide +kernel
set_option maxRecDepth 20000 in
theorem ggX9_sell_X9_isOffice : GoodIn wsX9_sell wsX9_isOffice := goodIn_sub (gw_c (gw_X9_sell_X9_sell_r1 _ (gw_g 4 rfl)) gw_n) (by decide +kernel)
set_option maxRecDepth 20000 in
theorem gX9_sell_X9_isOffice : GoodIn wsX9_sell (va_wsS RX9 74 yX9_isOffice wsX9_isOffice) := goodIn_app (goodIn_sub (gw_c (gw_X9_sell_X9_sell_r1 _ (gw_g 1 rfl)) (gw_c (gw_X9_sell_X9_sell_r1 _ (gw_g 2 rfl)) (gw_c (gw_X9_sell_X9_sell_r1 _ (gw_g 3 rfl)) gw_n))) (by decide +kernel)) ggX9_sell_X9_isOffice
set_option maxRecDepth 20000 in
theorem ggX9_sell_X0_isRunStretch : GoodIn wsX9_sell wsX0_isRunStretch := goodIn_sub (gw_c (gw_X9_sell_X9_sell_r1 _ (gw_g 9 rfl)) (gw_a (gw_a (gw_a (gw_c (gw_X9_sell_X9_sell_r1 _ (gw_g 10 rfl)) (gw_c (gw_X9_sell_X9_sell_r1 _ (gw_g 11 rfl)) (gw_c (gw_X9_sell_X9_sell_r1 _ (gw_g 12 rfl)) (gw_c (gw_X9_sell_X9_sell_r1 _ (gw_g 13 rfl)) (gw_c (gw_X9_sell_X9_sell_r1 _ (gw_g 14 rfl)) (gw_c (gw_X9_sell_X9_sell_r1 _ (gw_g 15 rfl)) (gw_c (gw_X9_sell_X9_sell_r1 _ (gw_g 16 rfl)) (gw_c (gw_X9_sell_X9_sell_r1 _ (gw_g 17 rfl)) (gw_c (gw_X9_sell_X9_sell_r1 _ (gw_g 18 rfl)) (gw_c (gw_X9_sell_X9_sell_r1 _ (gw_g 19 rfl)) (gw_c (gw_X9_sell_X9_sell_r1 _ (gw_g 20 rfl)) (gw_c (gw_X9_sell_X9_sell_r1 _ (gw_g 21 rfl)) (gw_c (gw_X9_sell_X9_sell_r1 _ (gw_g 22 rfl)) (gw_c (gw_X9_sell_X9_sell_r1 _ (gw_g 23 rfl)) gw_n)))))))))))))) gw_X9_sell_X00) gw_X9_sell_X50) gw_X9_sell_X40)) (by decide +kernel)
set_option maxRecDepth 20000 in
theorem gX9_sell_X0_isRunStretch : GoodIn wsX9_sell (wsV RX9 94 RX0 yX0_isRunStretch wsX0_isRunStretch) := goodIn_app (goodIn_sub (gw_c (gw_X9_sell_X9_sell_r1 _ (gw_g 5 rfl)) (gw_c (gw_X9_sell_X9_sell_r1 _ (gw_g 6 rfl)) (gw_c (gw_X9_sell_X9_sell_r1 _ (gw_g 7 rfl)) (gw_c (gw_X9_sell_X9_sell_r1 _ (gw_g 8 rfl)) gw_n)))) (by decide +kernel)) ggX9_sell_X0_isRunStretch
set_option maxRecDepth 20000 in
theorem ggX9_sell_X0_sellStretch : GoodIn wsX9_sell wsX0_sellStretch := goodIn_sub (gw_c (gw_X9_sell_X9_sell_r2 _ (gw_g 3 rfl)) (gw_a (gw_a (gw_a (gw_a (gw_a (gw_c (gw_X9_sell_X9_sell_r2 _ (gw_g 4 rfl)) (gw_c (gw_X9_sell_X9_sell_r1 _ (gw_g 10 rfl)) (gw_c (gw_X9_sell_X9_sell_r2 _ (gw_g 5 rfl)) (gw_c (gw_X9_sell_X9_sell_r2 _ (gw_g 6 rfl)) (gw_c (gw_X9_sell_X9_sell_r2 _ (gw_g 7 rfl)) (gw_c (gw_X9_sell_X9_sell_r2 _ (gw_g 8 rfl)) (gw_c (gw_X9_sell_X9_sell_r2 _ (gw_g 9 rfl)) (gw_c (gw_X9_sell_X9_sell_r2 _ (gw_g 10 rfl)) (gw_c (gw_X9_sell_X9_sell_r2 _ (gw_g 11 rfl)) (gw_c (gw_X9_sell_X9_sell_r2 _ (gw_g 12 rfl)) (gw_c (gw_X9_sell_X9_sell_r2 _ (gw_g 13 rfl)) (gw_c (gw_X9_sell_X9_sell_r1 _ (gw_g 8 rfl)) (gw_c (gw_X9_sell_X9_sell_r2 _ (gw_g 14 rfl)) (gw_c (gw_X9_sell_X9_sell_r2 _ (gw_g 15 rfl)) (gw_c (gw_X9_sell_X9_sell_r1 _ (gw_g 11 rfl)) (gw_c (gw_X9_sell_X9_sell_r2 _ (gw_g 16 rfl)) (gw_c (gw_X9_sell_X9_sell_r2 _ (gw_g 17 rfl)) (gw_c (gw_X9_sell_X9_sell_r2 _ (gw_g 18 rfl)) (gw_c (gw_X9_sell_X9_sell_r1 _ (gw_g 21 rfl)) (gw_c (gw_X9_sell_X9_sell_r2 _ (gw_g 19 rfl)) (gw_c (gw_X9_sell_X9_sell_r2 _ (gw_g 20 rfl)) (gw_c (gw_X9_sell_X9_sell_r2 _ (gw_g 21 rfl)) (gw_c (gw_X9_sell_X9_sell_r2 _ (gw_g 22 rfl)) (gw_c (gw_X9_sell_X9_sell_r2 _ (gw_g 23 rfl)) gw_n)))))))))))))))))))))))) (gw_a (gw_c (gw_X9_sell_X9_sell_r3 _ (gw_g 0 rfl)) (gw_c (gw_X9_sell_X9_sell_r3 _ (gw_g 1 rfl)) (gw_c (gw_X9_sell_X9_sell_r3 _ (gw_g 2 rfl)) (gw_c (gw_X9_sell_X9_sell_r3 _ (gw_g 3 rfl)) (gw_c (gw_X9_sell_X9_sell_r3 _ (gw_g 4 rfl)) (gw_c (gw_X9_sell_X9_sell_r3 _ (gw_g 5 rfl)) (gw_c (gw_X9_sell_X9_sell_r1 _ (gw_g 15 rfl)) (gw_c (gw_X9_sell_X9_sell_r3 _ (gw_g 6 rfl)) (gw_c (gw_X9_sell_X9_sell_r3 _ (gw_g 7 rfl)) (gw_c (gw_X9_sell_X9_sell_r3 _ (gw_g 8 rfl)) (gw_c (gw_X9_sell_X9_sell_r1 _ (gw_g 3 rfl)) (gw_c (gw_X9_sell_X9_sell_r3 _ (gw_g 9 rfl)) (gw_c (gw_X9_sell_X9_sell_r3 _ (gw_g 10 rfl)) (gw_c (gw_X9_sell_X9_sell_r3 _ (gw_g 11 rfl)) (gw_c (gw_X9_sell_X9_sell_r3 _ (gw_g 12 rfl)) (gw_c (gw_X9_sell_X9_sell_r3 _ (gw_g 13 rfl)) (gw_c (gw_X9_sell_X9_sell_r3 _ (gw_g 14 rfl)) (gw_c (gw_X9_sell_X9_sell_r3 _ (gw_g 15 rfl)) (gw_c (gw_X9_sell_X9_sell_r3 _ (gw_g 16 rfl)) (gw_c (gw_X9_sell_X9_sell_r3 _ (gw_g 17 rfl)) (gw_c (gw_X9_sell_X9_sell_r3 _ (gw_g 18 rfl)) (gw_c (gw_X9_sell_X9_sell_r3 _ (gw_g 19 rfl)) (gw_c (gw_X9_sell_X9_sell_r3 _ (gw_g 20 rfl)) (gw_c (gw_X9_sell_X9_sell_r3 _ (gw_g 21 rfl)) gw_n)))))))))))))))))))))))) (gw_c (gw_X9_sell_X9_sell_r3 _ (gw_g 22 rfl)) (gw_c (gw_X9_sell_X9_sell_r3 _ (gw_g 23 rfl)) (gw_c (gw_X9_sell_X9_sell_r4 _ (gw_g 0 rfl)) (gw_c (gw_X9_sell_X9_sell_r4 _ (gw_g 1 rfl)) (gw_c (gw_X9_sell_X9_sell_r4 _ (gw_g 2 rfl)) (gw_c (gw_X9_sell_X9_sell_r4 _ (gw_g 3 rfl)) (gw_c (gw_X9_sell_X9_sell_r4 _ (gw_g 4 rfl)) (gw_c (gw_X9_sell_X9_sell_r4 _ (gw_g 5 rfl)) (gw_c (gw_X9_sell_X9_sell_r4 _ (gw_g 6 rfl)) (gw_c (gw_X9_sell_X9_sell_r4 _ (gw_g 7 rfl)) (gw_c (gw_X9_sell_X9_sell_r4 _ (gw_g 8 rfl)) (gw_c (gw_X9_sell_X9_sell_r4 _ (gw_g 9 rfl)) (gw_c (gw_X9_sell_X9_sell_r4 _ (gw_g 10 rfl)) (gw_c (gw_X9_sell_X9_sell_r4 _ (gw_g 11 rfl)) (gw_c (gw_X9_sell_X9_sell_r4 _ (gw_g 12 rfl)) (gw_c (gw_X9_sell_X9_sell_r4 _ (gw_g 13 rfl)) (gw_c (gw_X9_sell_X9_sell_r4 _ (gw_g 14 rfl)) (gw_c (gw_X9_sell_X9_sell_r4 _ (gw_g 15 rfl)) (gw_c (gw_X9_sell_X9_sell_r4 _ (gw_g 16 rfl)) (gw_c (gw_X9_sell_X9_sell_r4 _ (gw_g 17 rfl)) (gw_c (gw_X9_sell_X9_sell_r4 _ (gw_g 18 rfl)) gw_n))))))))))))))))))))))) gw_X9_sell_X00) gw_X9_sell_X70) gw_X9_sell_X40) gw_X9_sell_X50)) (by decide +kernel)
set_option maxRecDepth 20000 in
theorem gX9_sell_X0_sellStretch : GoodIn wsX9_sell (wsV RX9 98 RX0 yX0_sellStretch wsX0_sellStretch) := goodIn_app (goodIn_sub (gw_c (gw_X9_sell_X9_sell_r2 _ (gw_g 0 rfl)) (gw_c (gw_X9_sell_X9_sell_r2 _ (gw_g 1 rfl)) (gw_c (gw_X9_sell_X9_sell_r2 _ (gw_g 2 rfl)) (gw_c (gw_X9_sell_X9_sell_r1 _ (gw_g 8 rfl)) gw_n)))) (by decide +kernel)) ggX9_sell_X0_sellStretch
theorem dX9_sell_0 : decode cX9_sell 0 = .ok (.iload_n 1, 1) := by decide +kernel
theorem dX9_sell_1 : decode cX9_sell 1 = .ok (.invokestatic 74, 3) := by decide +kernel
theorem dX9_sell_4 : decode cX9_sell 4 = .ok (.ifCond .eq 17, 3) := by decide +kernel
theorem dX9_sell_7 : decode cX9_sell 7 = .ok (.aload_n 0, 1) := by decide +kernel
theorem dX9_sell_8 : decode cX9_sell 8 = .ok (.getfield 10, 3) := by decide +kernel
theorem dX9_sell_11 : decode cX9_sell 11 = .ok (.iload_n 2, 1) := by decide +kernel
theorem dX9_sell_12 : decode cX9_sell 12 = .ok (.iload_n 3, 1) := by decide +kernel
theorem dX9_sell_13 : decode cX9_sell 13 = .ok (.iload 4, 2) := by decide +kernel
theorem dX9_sell_15 : decode cX9_sell 15 = .ok (.invokevirtual 94, 3) := by decide +kernel
theorem dX9_sell_18 : decode cX9_sell 18 = .ok (.ifCond .ne 5, 3) := by decide +kernel
theorem dX9_sell_21 : decode cX9_sell 21 = .ok (.iconst (-1), 1) := by decide +kernel
theorem dX9_sell_22 : decode cX9_sell 22 = .ok (.ireturn, 1) := by decide +kernel
theorem dX9_sell_23 : decode cX9_sell 23 = .ok (.aload_n 0, 1) := by decide +kernel
theorem dX9_sell_24 : decode cX9_sell 24 = .ok (.getfield 10, 3) := by decide +kernel
theorem dX9_sell_27 : decode cX9_sell 27 = .ok (.iload_n 1, 1) := by decide +kernel
theorem dX9_sell_28 : decode cX9_sell 28 = .ok (.iload_n 2, 1) := by decide +kernel
theorem dX9_sell_29 : decode cX9_sell 29 = .ok (.iload_n 3, 1) := by decide +kernel
theorem dX9_sell_30 : decode cX9_sell 30 = .ok (.iload 4, 2) := by decide +kernel
theorem dX9_sell_32 : decode cX9_sell 32 = .ok (.invokevirtual 98, 3) := by decide +kernel
theorem dX9_sell_35 : decode cX9_sell 35 = .ok (.ireturn, 1) := by decide +kernel
set_option maxRecDepth 20000 in
theorem ggX9_back_X7_has : GoodIn wsX9_back wsX7_has := goodIn_sub (gw_c (gw_X9_back_X9_back_r1 _ (gw_g 6 rfl)) (gw_a (gw_c (gw_X9_back_X9_back_r1 _ (gw_g 7 rfl)) gw_n) gw_X9_back_X70)) (by decide +kernel)
set_option maxRecDepth 20000 in
theorem gX9_back_X7_has : GoodIn wsX9_back (wsV RX9 106 RX7 yX7_has wsX7_has) := goodIn_app (goodIn_sub (gw_c (gw_X9_back_X9_back_r1 _ (gw_g 2 rfl)) (gw_c (gw_X9_back_X9_back_r1 _ (gw_g 3 rfl)) (gw_c (gw_X9_back_X9_back_r1 _ (gw_g 4 rfl)) (gw_c (gw_X9_back_X9_back_r1 _ (gw_g 5 rfl)) gw_n)))) (by decide +kernel)) ggX9_back_X7_has
set_option maxRecDepth 20000 in
theorem ggX9_back_X0_takeBack : GoodIn wsX9_back wsX0_takeBack := goodIn_sub (gw_c (gw_X9_back_X9_back_r1 _ (gw_g 12 rfl)) (gw_a (gw_a (gw_a (gw_a (gw_a (gw_c (gw_X9_back_X9_back_r1 _ (gw_g 13 rfl)) (gw_c (gw_X9_back_X9_back_r1 _ (gw_g 14 rfl)) (gw_c (gw_X9_back_X9_back_r1 _ (gw_g 15 rfl)) (gw_c (gw_X9_back_X9_back_r1 _ (gw_g 16 rfl)) (gw_c (gw_X9_back_X9_back_r1 _ (gw_g 17 rfl)) (gw_c (gw_X9_back_X9_back_r1 _ (gw_g 18 rfl)) (gw_c (gw_X9_back_X9_back_r1 _ (gw_g 19 rfl)) (gw_c (gw_X9_back_X9_back_r1 _ (gw_g 20 rfl)) (gw_c (gw_X9_back_X9_back_r1 _ (gw_g 21 rfl)) (gw_c (gw_X9_back_X9_back_r1 _ (gw_g 11 rfl)) (gw_c (gw_X9_back_X9_back_r1 _ (gw_g 22 rfl)) (gw_c (gw_X9_back_X9_back_r1 _ (gw_g 23 rfl)) (gw_c (gw_X9_back_X9_back_r2 _ (gw_g 0 rfl)) (gw_c (gw_X9_back_X9_back_r2 _ (gw_g 1 rfl)) (gw_c (gw_X9_back_X9_back_r2 _ (gw_g 2 rfl)) (gw_c (gw_X9_back_X9_back_r2 _ (gw_g 3 rfl)) (gw_c (gw_X9_back_X9_back_r2 _ (gw_g 4 rfl)) (gw_c (gw_X9_back_X9_back_r2 _ (gw_g 5 rfl)) (gw_c (gw_X9_back_X9_back_r2 _ (gw_g 6 rfl)) (gw_c (gw_X9_back_X9_back_r2 _ (gw_g 7 rfl)) (gw_c (gw_X9_back_X9_back_r2 _ (gw_g 8 rfl)) (gw_c (gw_X9_back_X9_back_r2 _ (gw_g 9 rfl)) (gw_c (gw_X9_back_X9_back_r2 _ (gw_g 10 rfl)) (gw_c (gw_X9_back_X9_back_r2 _ (gw_g 11 rfl)) gw_n)))))))))))))))))))))))) (gw_c (gw_X9_back_X9_back_r2 _ (gw_g 12 rfl)) (gw_c (gw_X9_back_X9_back_r2 _ (gw_g 13 rfl)) (gw_c (gw_X9_back_X9_back_r2 _ (gw_g 14 rfl)) (gw_c (gw_X9_back_X9_back_r2 _ (gw_g 15 rfl)) (gw_c (gw_X9_back_X9_back_r1 _ (gw_g 5 rfl)) (gw_c (gw_X9_back_X9_back_r2 _ (gw_g 16 rfl)) (gw_c (gw_X9_back_X9_back_r2 _ (gw_g 17 rfl)) (gw_c (gw_X9_back_X9_back_r2 _ (gw_g 18 rfl)) (gw_c (gw_X9_back_X9_back_r2 _ (gw_g 19 rfl)) (gw_c (gw_X9_back_X9_back_r2 _ (gw_g 20 rfl)) (gw_c (gw_X9_back_X9_back_r2 _ (gw_g 21 rfl)) (gw_c (gw_X9_back_X9_back_r2 _ (gw_g 22 rfl)) (gw_c (gw_X9_back_X9_back_r2 _ (gw_g 23 rfl)) (gw_c (gw_X9_back_X9_back_r3 _ (gw_g 0 rfl)) (gw_c (gw_X9_back_X9_back_r3 _ (gw_g 1 rfl)) gw_n)))))))))))))))) gw_X9_back_X00) gw_X9_back_X70) gw_X9_back_X40) gw_X9_back_X50)) (by decide +kernel)
set_option maxRecDepth 20000 in
theorem gX9_back_X0_takeBack : GoodIn wsX9_back (wsV RX9 111 RX0 yX0_takeBack wsX0_takeBack) := goodIn_app (goodIn_sub (gw_c (gw_X9_back_X9_back_r1 _ (gw_g 8 rfl)) (gw_c (gw_X9_back_X9_back_r1 _ (gw_g 9 rfl)) (gw_c (gw_X9_back_X9_back_r1 _ (gw_g 10 rfl)) (gw_c (gw_X9_back_X9_back_r1 _ (gw_g 11 rfl)) gw_n)))) (by decide +kernel)) ggX9_back_X0_takeBack
theorem dX9_back_0 : decode cX9_back 0 = .ok (.aload_n 0, 1) := by decide +kernel
theorem dX9_back_1 : decode cX9_back 1 = .ok (.getfield 10, 3) := by decide +kernel
theorem dX9_back_4 : decode cX9_back 4 = .ok (.getfield 102, 3) := by decide +kernel
theorem dX9_back_7 : decode cX9_back 7 = .ok (.iload_n 1, 1) := by decide +kernel
theorem dX9_back_8 : decode cX9_back 8 = .ok (.invokevirtual 106, 3) := by decide +kernel
theorem dX9_back_11 : decode cX9_back 11 = .ok (.ifCond .eq 18, 3) := by decide +kernel
theorem dX9_back_14 : decode cX9_back 14 = .ok (.aload_n 0, 1) := by decide +kernel
theorem dX9_back_15 : decode cX9_back 15 = .ok (.getfield 10, 3) := by decide +kernel
theorem dX9_back_18 : decode cX9_back 18 = .ok (.iload_n 1, 1) := by decide +kernel
theorem dX9_back_19 : decode cX9_back 19 = .ok (.invokevirtual 111, 3) := by decide +kernel
theorem dX9_back_22 : decode cX9_back 22 = .ok (.ifCond .eq 7, 3) := by decide +kernel
theorem dX9_back_25 : decode cX9_back 25 = .ok (.iconst 1, 1) := by decide +kernel
theorem dX9_back_26 : decode cX9_back 26 = .ok (.goto 4, 3) := by decide +kernel
theorem dX9_back_29 : decode cX9_back 29 = .ok (.iconst 0, 1) := by decide +kernel
theorem dX9_back_30 : decode cX9_back 30 = .ok (.ireturn, 1) := by decide +kernel
set_option maxRecDepth 20000 in
theorem ggX9_letter_X9_isOffice : GoodIn wsX9_letter wsX9_isOffice := goodIn_sub (gw_c (gw_X9_letter_X9_letter_r1 _ (gw_g 7 rfl)) gw_n) (by decide +kernel)
set_option maxRecDepth 20000 in
theorem gX9_letter_X9_isOffice : GoodIn wsX9_letter (va_wsS RX9 74 yX9_isOffice wsX9_isOffice) := goodIn_app (goodIn_sub (gw_c (gw_X9_letter_X9_letter_r1 _ (gw_g 4 rfl)) (gw_c (gw_X9_letter_X9_letter_r1 _ (gw_g 5 rfl)) (gw_c (gw_X9_letter_X9_letter_r1 _ (gw_g 6 rfl)) gw_n))) (by decide +kernel)) ggX9_letter_X9_isOffice
set_option maxRecDepth 20000 in
theorem ggX9_letter_X0_isRunStretch : GoodIn wsX9_letter wsX0_isRunStretch := goodIn_sub (gw_c (gw_X9_letter_X9_letter_r1 _ (gw_g 12 rfl)) (gw_a (gw_a (gw_a (gw_c (gw_X9_letter_X9_letter_r1 _ (gw_g 13 rfl)) (gw_c (gw_X9_letter_X9_letter_r1 _ (gw_g 14 rfl)) (gw_c (gw_X9_letter_X9_letter_r1 _ (gw_g 15 rfl)) (gw_c (gw_X9_letter_X9_letter_r1 _ (gw_g 16 rfl)) (gw_c (gw_X9_letter_X9_letter_r1 _ (gw_g 17 rfl)) (gw_c (gw_X9_letter_X9_letter_r1 _ (gw_g 18 rfl)) (gw_c (gw_X9_letter_X9_letter_r1 _ (gw_g 19 rfl)) (gw_c (gw_X9_letter_X9_letter_r1 _ (gw_g 20 rfl)) (gw_c (gw_X9_letter_X9_letter_r1 _ (gw_g 21 rfl)) (gw_c (gw_X9_letter_X9_letter_r1 _ (gw_g 22 rfl)) (gw_c (gw_X9_letter_X9_letter_r1 _ (gw_g 23 rfl)) (gw_c (gw_X9_letter_X9_letter_r2 _ (gw_g 0 rfl)) (gw_c (gw_X9_letter_X9_letter_r2 _ (gw_g 1 rfl)) (gw_c (gw_X9_letter_X9_letter_r2 _ (gw_g 2 rfl)) gw_n)))))))))))))) gw_X9_letter_X00) gw_X9_letter_X50) gw_X9_letter_X40)) (by decide +kernel)
set_option maxRecDepth 20000 in
theorem gX9_letter_X0_isRunStretch : GoodIn wsX9_letter (wsV RX9 94 RX0 yX0_isRunStretch wsX0_isRunStretch) := goodIn_app (goodIn_sub (gw_c (gw_X9_letter_X9_letter_r1 _ (gw_g 8 rfl)) (gw_c (gw_X9_letter_X9_letter_r1 _ (gw_g 9 rfl)) (gw_c (gw_X9_letter_X9_letter_r1 _ (gw_g 10 rfl)) (gw_c (gw_X9_letter_X9_letter_r1 _ (gw_g 11 rfl)) gw_n)))) (by decide +kernel)) ggX9_letter_X0_isRunStretch
set_option maxRecDepth 20000 in
theorem ggX9_letter_X7_isFull : GoodIn wsX9_letter wsX7_isFull := goodIn_sub (gw_c (gw_X9_letter_X9_letter_r2 _ (gw_g 7 rfl)) (gw_a (gw_c (gw_X9_letter_X9_letter_r2 _ (gw_g 8 rfl)) gw_n) gw_X9_letter_X70)) (by decide +kernel)
set_option maxRecDepth 20000 in
theorem gX9_letter_X7_isFull : GoodIn wsX9_letter (wsV RX9 114 RX7 yX7_isFull wsX7_isFull) := goodIn_app (goodIn_sub (gw_c (gw_X9_letter_X9_letter_r2 _ (gw_g 3 rfl)) (gw_c (gw_X9_letter_X9_letter_r2 _ (gw_g 4 rfl)) (gw_c (gw_X9_letter_X9_letter_r2 _ (gw_g 5 rfl)) (gw_c (gw_X9_letter_X9_letter_r2 _ (gw_g 6 rfl)) gw_n)))) (by decide +kernel)) ggX9_letter_X7_isFull
set_option maxRecDepth 20000 in
theorem ggX9_letter_X0_letterHours : GoodIn wsX9_letter wsX0_letterHours := goodIn_sub (gw_c (gw_X9_letter_X9_letter_r2 _ (gw_g 12 rfl)) (gw_a (gw_a (gw_c (gw_X9_letter_X9_letter_r1 _ (gw_g 14 rfl)) (gw_c (gw_X9_letter_X9_letter_r2 _ (gw_g 13 rfl)) (gw_c (gw_X9_letter_X9_letter_r2 _ (gw_g 14 rfl)) (gw_c (gw_X9_letter_X9_letter_r2 _ (gw_g 15 rfl)) (gw_c (gw_X9_letter_X9_letter_r2 _ (gw_g 16 rfl)) (gw_c (gw_X9_letter_X9_letter_r2 _ (gw_g 17 rfl)) (gw_c (gw_X9_letter_X9_letter_r2 _ (gw_g 18 rfl)) (gw_c (gw_X9_letter_X9_letter_r2 _ (gw_g 19 rfl)) (gw_c (gw_X9_letter_X9_letter_r2 _ (gw_g 20 rfl)) (gw_c (gw_X9_letter_X9_letter_r2 _ (gw_g 0 rfl)) (gw_c (gw_X9_letter_X9_letter_r2 _ (gw_g 21 rfl)) (gw_c (gw_X9_letter_X9_letter_r2 _ (gw_g 22 rfl)) gw_n)))))))))))) gw_X9_letter_X00) gw_X9_letter_X40)) (by decide +kernel)
set_option maxRecDepth 20000 in
theorem gX9_letter_X0_letterHours : GoodIn wsX9_letter (wsV RX9 118 RX0 yX0_letterHours wsX0_letterHours) := goodIn_app (goodIn_sub (gw_c (gw_X9_letter_X9_letter_r2 _ (gw_g 9 rfl)) (gw_c (gw_X9_letter_X9_letter_r2 _ (gw_g 10 rfl)) (gw_c (gw_X9_letter_X9_letter_r2 _ (gw_g 11 rfl)) (gw_c (gw_X9_letter_X9_letter_r1 _ (gw_g 11 rfl)) gw_n)))) (by decide +kernel)) ggX9_letter_X0_letterHours
set_option maxRecDepth 20000 in
theorem ggX9_letter_X1_add : GoodIn wsX9_letter wsX1_add := goodIn_sub (gw_c (gw_X9_letter_X9_letter_r3 _ (gw_g 3 rfl)) (gw_a (gw_c (gw_X9_letter_X9_letter_r3 _ (gw_g 4 rfl)) (gw_c (gw_X9_letter_X9_letter_r3 _ (gw_g 5 rfl)) (gw_c (gw_X9_letter_X9_letter_r3 _ (gw_g 6 rfl)) (gw_c (gw_X9_letter_X9_letter_r3 _ (gw_g 7 rfl)) (gw_c (gw_X9_letter_X9_letter_r3 _ (gw_g 8 rfl)) (gw_c (gw_X9_letter_X9_letter_r3 _ (gw_g 9 rfl)) (gw_c (gw_X9_letter_X9_letter_r3 _ (gw_g 10 rfl)) (gw_c (gw_X9_letter_X9_letter_r3 _ (gw_g 11 rfl)) gw_n)))))))) gw_X9_letter_X10)) (by decide +kernel)
set_option maxRecDepth 20000 in
theorem gX9_letter_X1_add : GoodIn wsX9_letter (wsV RX9 129 RX1 yX1_add wsX1_add) := goodIn_app (goodIn_sub (gw_c (gw_X9_letter_X9_letter_r2 _ (gw_g 23 rfl)) (gw_c (gw_X9_letter_X9_letter_r3 _ (gw_g 0 rfl)) (gw_c (gw_X9_letter_X9_letter_r3 _ (gw_g 1 rfl)) (gw_c (gw_X9_letter_X9_letter_r3 _ (gw_g 2 rfl)) gw_n)))) (by decide +kernel)) ggX9_letter_X1_add
theorem dX9_letter_0 : decode cX9_letter 0 = .ok (.iload_n 1, 1) := by decide +kernel
theorem dX9_letter_1 : decode cX9_letter 1 = .ok (.invokestatic 74, 3) := by decide +kernel
theorem dX9_letter_4 : decode cX9_letter 4 = .ok (.ifCond .eq 15, 3) := by decide +kernel
theorem dX9_letter_7 : decode cX9_letter 7 = .ok (.iload_n 2, 1) := by decide +kernel
theorem dX9_letter_8 : decode cX9_letter 8 = .ok (.invokestatic 74, 3) := by decide +kernel
theorem dX9_letter_11 : decode cX9_letter 11 = .ok (.ifCond .eq 8, 3) := by decide +kernel
theorem dX9_letter_14 : decode cX9_letter 14 = .ok (.iload_n 1, 1) := by decide +kernel
theorem dX9_letter_15 : decode cX9_letter 15 = .ok (.iload_n 2, 1) := by decide +kernel
theorem dX9_letter_16 : decode cX9_letter 16 = .ok (.if_icmp .ne 5, 3) := by decide +kernel
theorem dX9_letter_19 : decode cX9_letter 19 = .ok (.iconst (-1), 1) := by decide +kernel
theorem dX9_letter_20 : decode cX9_letter 20 = .ok (.ireturn, 1) := by decide +kernel
theorem dX9_letter_21 : decode cX9_letter 21 = .ok (.aload_n 0, 1) := by decide +kernel
theorem dX9_letter_22 : decode cX9_letter 22 = .ok (.getfield 10, 3) := by decide +kernel
theorem dX9_letter_25 : decode cX9_letter 25 = .ok (.iload_n 3, 1) := by decide +kernel
theorem dX9_letter_26 : decode cX9_letter 26 = .ok (.iload 4, 2) := by decide +kernel
theorem dX9_letter_28 : decode cX9_letter 28 = .ok (.iload 5, 2) := by decide +kernel
theorem dX9_letter_30 : decode cX9_letter 30 = .ok (.invokevirtual 94, 3) := by decide +kernel
theorem dX9_letter_33 : decode cX9_letter 33 = .ok (.ifCond .eq 16, 3) := by decide +kernel
theorem dX9_letter_36 : decode cX9_letter 36 = .ok (.aload_n 0, 1) := by decide +kernel
theorem dX9_letter_37 : decode cX9_letter 37 = .ok (.getfield 10, 3) := by decide +kernel
theorem dX9_letter_40 : decode cX9_letter 40 = .ok (.getfield 102, 3) := by decide +kernel
theorem dX9_letter_43 : decode cX9_letter 43 = .ok (.invokevirtual 114, 3) := by decide +kernel
theorem dX9_letter_46 : decode cX9_letter 46 = .ok (.ifCond .eq 5, 3) := by decide +kernel
theorem dX9_letter_49 : decode cX9_letter 49 = .ok (.iconst (-1), 1) := by decide +kernel
theorem dX9_letter_50 : decode cX9_letter 50 = .ok (.ireturn, 1) := by decide +kernel
theorem dX9_letter_51 : decode cX9_letter 51 = .ok (.aload_n 0, 1) := by decide +kernel
theorem dX9_letter_52 : decode cX9_letter 52 = .ok (.getfield 10, 3) := by decide +kernel
theorem dX9_letter_55 : decode cX9_letter 55 = .ok (.iload_n 1, 1) := by decide +kernel
theorem dX9_letter_56 : decode cX9_letter 56 = .ok (.iload_n 2, 1) := by decide +kernel
theorem dX9_letter_57 : decode cX9_letter 57 = .ok (.invokevirtual 118, 3) := by decide +kernel
theorem dX9_letter_60 : decode cX9_letter 60 = .ok (.istore 6, 2) := by decide +kernel
theorem dX9_letter_62 : decode cX9_letter 62 = .ok (.aload_n 0, 1) := by decide +kernel
theorem dX9_letter_63 : decode cX9_letter 63 = .ok (.getfield 10, 3) := by decide +kernel
theorem dX9_letter_66 : decode cX9_letter 66 = .ok (.getfield 122, 3) := by decide +kernel
theorem dX9_letter_69 : decode cX9_letter 69 = .ok (.iload_n 2, 1) := by decide +kernel
theorem dX9_letter_70 : decode cX9_letter 70 = .ok (.iload_n 3, 1) := by decide +kernel
theorem dX9_letter_71 : decode cX9_letter 71 = .ok (.iload 4, 2) := by decide +kernel
theorem dX9_letter_73 : decode cX9_letter 73 = .ok (.iload 5, 2) := by decide +kernel
theorem dX9_letter_75 : decode cX9_letter 75 = .ok (.aload_n 0, 1) := by decide +kernel
theorem dX9_letter_76 : decode cX9_letter 76 = .ok (.getfield 10, 3) := by decide +kernel
theorem dX9_letter_79 : decode cX9_letter 79 = .ok (.getfield 126, 3) := by decide +kernel
theorem dX9_letter_82 : decode cX9_letter 82 = .ok (.iload 6, 2) := by decide +kernel
theorem dX9_letter_84 : decode cX9_letter 84 = .ok (.iadd, 1) := by decide +kernel
theorem dX9_letter_85 : decode cX9_letter 85 = .ok (.aload_n 0, 1) := by decide +kernel
theorem dX9_letter_86 : decode cX9_letter 86 = .ok (.getfield 10, 3) := by decide +kernel
theorem dX9_letter_89 : decode cX9_letter 89 = .ok (.getfield 126, 3) := by decide +kernel
theorem dX9_letter_92 : decode cX9_letter 92 = .ok (.iconst 2, 1) := by decide +kernel
theorem dX9_letter_93 : decode cX9_letter 93 = .ok (.iload 6, 2) := by decide +kernel
theorem dX9_letter_95 : decode cX9_letter 95 = .ok (.imul, 1) := by decide +kernel
theorem dX9_letter_96 : decode cX9_letter 96 = .ok (.iadd, 1) := by decide +kernel
theorem dX9_letter_97 : decode cX9_letter 97 = .ok (.invokevirtual 129, 3) := by decide +kernel
theorem dX9_letter_100 : decode cX9_letter 100 = .ok (.ireturn, 1) := by decide +kernel
set_option maxRecDepth 20000 in
theorem ggX9_post_X1_has : GoodIn wsX9_post wsX1_has := goodIn_sub (gw_c (gw_t (gw_l (gw_l (gw_l (gw_g 10 rfl))))) (gw_a (gw_c (gw_t (gw_l (gw_l (gw_l (gw_g 11 rfl))))) gw_n) gw_X9_post_X10)) (by decide +kernel)
set_option maxRecDepth 20000 in
theorem gX9_post_X1_has : GoodIn wsX9_post (wsV RX9 134 RX1 yX1_has wsX1_has) := goodIn_app (goodIn_sub (gw_c (gw_t (gw_l (gw_l (gw_l (gw_g 6 rfl))))) (gw_c (gw_t (gw_l (gw_l (gw_l (gw_g 7 rfl))))) (gw_c (gw_t (gw_l (gw_l (gw_l (gw_g 8 rfl))))) (gw_c (gw_t (gw_l (gw_l (gw_l (gw_g 9 rfl))))) gw_n)))) (by decide +kernel)) ggX9_post_X1_has
set_option maxRecDepth 20000 in
theorem ggX9_post_X1_standing : GoodIn wsX9_post wsX1_standing := goodIn_sub (gw_c (gw_t (gw_l (gw_l (gw_l (gw_g 15 rfl))))) (gw_a (gw_c (gw_t (gw_l (gw_l (gw_l (gw_g 16 rfl))))) (gw_c (gw_t (gw_l (gw_l (gw_l (gw_g 17 rfl))))) gw_n)) gw_X9_post_X10)) (by decide +kernel)
set_option maxRecDepth 20000 in
theorem gX9_post_X1_standing : GoodIn wsX9_post (wsV RX9 141 RX1 yX1_standing wsX1_standing) := goodIn_app (goodIn_sub (gw_c (gw_t (gw_l (gw_l (gw_l (gw_g 12 rfl))))) (gw_c (gw_t (gw_l (gw_l (gw_l (gw_g 13 rfl))))) (gw_c (gw_t (gw_l (gw_l (gw_l (gw_g 14 rfl))))) (gw_c (gw_t (gw_l (gw_l (gw_l (gw_g 9 rfl))))) gw_n)))) (by decide +kernel)) ggX9_post_X1_standing
theorem dX9_post_0 : decode cX9_post 0 = .ok (.aload_n 0, 1) := by decide +kernel
theorem dX9_post_1 : decode cX9_post 1 = .ok (.getfield 10, 3) := by decide +kernel
theorem dX9_post_4 : decode cX9_post 4 = .ok (.getfield 122, 3) := by decide +kernel
theorem dX9_post_7 : decode cX9_post 7 = .ok (.iload_n 1, 1) := by decide +kernel
theorem dX9_post_8 : decode cX9_post 8 = .ok (.invokevirtual 134, 3) := by decide +kernel
theorem dX9_post_11 : decode cX9_post 11 = .ok (.ifCond .ne 5, 3) := by decide +kernel
theorem dX9_post_14 : decode cX9_post 14 = .ok (.iconst (-1), 1) := by decide +kernel
theorem dX9_post_15 : decode cX9_post 15 = .ok (.ireturn, 1) := by decide +kernel
theorem dX9_post_16 : decode cX9_post 16 = .ok (.iload_n 2, 1) := by decide +kernel
theorem dX9_post_17 : decode cX9_post 17 = .ok (.tableswitch 116 0 3 #[31, 44, 57, 76], 31) := by decide +kernel
theorem dX9_post_48 : decode cX9_post 48 = .ok (.aload_n 0, 1) := by decide +kernel
theorem dX9_post_49 : decode cX9_post 49 = .ok (.getfield 10, 3) := by decide +kernel
theorem dX9_post_52 : decode cX9_post 52 = .ok (.getfield 122, 3) := by decide +kernel
theorem dX9_post_55 : decode cX9_post 55 = .ok (.getfield 135, 3) := by decide +kernel
theorem dX9_post_58 : decode cX9_post 58 = .ok (.iload_n 1, 1) := by decide +kernel
theorem dX9_post_59 : decode cX9_post 59 = .ok (.iaload, 1) := by decide +kernel
theorem dX9_post_60 : decode cX9_post 60 = .ok (.ireturn, 1) := by decide +kernel
theorem dX9_post_61 : decode cX9_post 61 = .ok (.aload_n 0, 1) := by decide +kernel
theorem dX9_post_62 : decode cX9_post 62 = .ok (.getfield 10, 3) := by decide +kernel
theorem dX9_post_65 : decode cX9_post 65 = .ok (.getfield 122, 3) := by decide +kernel
theorem dX9_post_68 : decode cX9_post 68 = .ok (.getfield 138, 3) := by decide +kernel
theorem dX9_post_71 : decode cX9_post 71 = .ok (.iload_n 1, 1) := by decide +kernel
theorem dX9_post_72 : decode cX9_post 72 = .ok (.iaload, 1) := by decide +kernel
theorem dX9_post_73 : decode cX9_post 73 = .ok (.ireturn, 1) := by decide +kernel
theorem dX9_post_74 : decode cX9_post 74 = .ok (.aload_n 0, 1) := by decide +kernel
theorem dX9_post_75 : decode cX9_post 75 = .ok (.getfield 10, 3) := by decide +kernel
theorem dX9_post_78 : decode cX9_post 78 = .ok (.getfield 122, 3) := by decide +kernel
theorem dX9_post_81 : decode cX9_post 81 = .ok (.iload_n 1, 1) := by decide +kernel
theorem dX9_post_82 : decode cX9_post 82 = .ok (.aload_n 0, 1) := by decide +kernel
theorem dX9_post_83 : decode cX9_post 83 = .ok (.getfield 10, 3) := by decide +kernel
theorem dX9_post_86 : decode cX9_post 86 = .ok (.getfield 126, 3) := by decide +kernel
theorem dX9_post_89 : decode cX9_post 89 = .ok (.invokevirtual 141, 3) := by decide +kernel
theorem dX9_post_92 : decode cX9_post 92 = .ok (.ireturn, 1) := by decide +kernel
theorem dX9_post_93 : decode cX9_post 93 = .ok (.aload_n 0, 1) := by decide +kernel
theorem dX9_post_94 : decode cX9_post 94 = .ok (.getfield 10, 3) := by decide +kernel
theorem dX9_post_97 : decode cX9_post 97 = .ok (.getfield 126, 3) := by decide +kernel
theorem dX9_post_100 : decode cX9_post 100 = .ok (.aload_n 0, 1) := by decide +kernel
theorem dX9_post_101 : decode cX9_post 101 = .ok (.getfield 10, 3) := by decide +kernel
theorem dX9_post_104 : decode cX9_post 104 = .ok (.getfield 122, 3) := by decide +kernel
theorem dX9_post_107 : decode cX9_post 107 = .ok (.getfield 138, 3) := by decide +kernel
theorem dX9_post_110 : decode cX9_post 110 = .ok (.iload_n 1, 1) := by decide +kernel
theorem dX9_post_111 : decode cX9_post 111 = .ok (.iaload, 1) := by decide +kernel
theorem dX9_post_112 : decode cX9_post 112 = .ok (.if_icmp .ge 8, 3) := by decide +kernel
theorem dX9_post_115 : decode cX9_post 115 = .ok (.bipush (-2), 2) := by decide +kernel
theorem dX9_post_117 : decode cX9_post 117 = .ok (.goto 15, 3) := by decide +kernel
theorem dX9_post_120 : decode cX9_post 120 = .ok (.aload_n 0, 1) := by decide +kernel
theorem dX9_post_121 : decode cX9_post 121 = .ok (.getfield 10, 3) := by decide +kernel
theorem dX9_post_124 : decode cX9_post 124 = .ok (.getfield 122, 3) := by decide +kernel
theorem dX9_post_127 : decode cX9_post 127 = .ok (.getfield 144, 3) := by decide +kernel
theorem dX9_post_130 : decode cX9_post 130 = .ok (.iload_n 1, 1) := by decide +kernel
theorem dX9_post_131 : decode cX9_post 131 = .ok (.iaload, 1) := by decide +kernel
theorem dX9_post_132 : decode cX9_post 132 = .ok (.ireturn, 1) := by decide +kernel
theorem dX9_post_133 : decode cX9_post 133 = .ok (.iconst (-1), 1) := by decide +kernel
theorem dX9_post_134 : decode cX9_post 134 = .ok (.ireturn, 1) := by decide +kernel
set_option maxRecDepth 20000 in
theorem ggX9_hours_X0_beginNextHour : GoodIn wsX9_hours wsX0_beginNextHour := goodIn_sub (gw_c (gw_X9_hours_X9_hours_r1 _ (gw_g 6 rfl)) (gw_a (gw_a (gw_a (gw_a (gw_a (gw_a (gw_c (gw_X9_hours_X9_hours_r1 _ (gw_g 7 rfl)) (gw_c (gw_X9_hours_X9_hours_r1 _ (gw_g 8 rfl)) (gw_c (gw_X9_hours_X9_hours_r1 _ (gw_g 9 rfl)) (gw_c (gw_X9_hours_X9_hours_r1 _ (gw_g 10 rfl)) (gw_c (gw_X9_hours_X9_hours_r1 _ (gw_g 11 rfl)) (gw_c (gw_X9_hours_X9_hours_r1 _ (gw_g 12 rfl)) (gw_c (gw_X9_hours_X9_hours_r1 _ (gw_g 13 rfl)) (gw_c (gw_X9_hours_X9_hours_r1 _ (gw_g 14 rfl)) (gw_c (gw_X9_hours_X9_hours_r1 _ (gw_g 15 rfl)) (gw_c (gw_X9_hours_X9_hours_r1 _ (gw_g 16 rfl)) (gw_c (gw_X9_hours_X9_hours_r1 _ (gw_g 17 rfl)) (gw_c (gw_X9_hours_X9_hours_r1 _ (gw_g 18 rfl)) (gw_c (gw_X9_hours_X9_hours_r1 _ (gw_g 5 rfl)) (gw_c (gw_X9_hours_X9_hours_r1 _ (gw_g 19 rfl)) (gw_c (gw_X9_hours_X9_hours_r1 _ (gw_g 20 rfl)) (gw_c (gw_X9_hours_X9_hours_r1 _ (gw_g 21 rfl)) (gw_c (gw_X9_hours_X9_hours_r1 _ (gw_g 22 rfl)) (gw_c (gw_X9_hours_X9_hours_r1 _ (gw_g 23 rfl)) (gw_c (gw_X9_hours_X9_hours_r2 _ (gw_g 0 rfl)) (gw_c (gw_X9_hours_X9_hours_r2 _ (gw_g 1 rfl)) (gw_c (gw_X9_hours_X9_hours_r2 _ (gw_g 2 rfl)) (gw_c (gw_X9_hours_X9_hours_r2 _ (gw_g 3 rfl)) (gw_c (gw_X9_hours_X9_hours_r2 _ (gw_g 4 rfl)) (gw_c (gw_X9_hours_X9_hours_r2 _ (gw_g 5 rfl)) gw_n)))))))))))))))))))))))) (gw_a (gw_c (gw_X9_hours_X9_hours_r2 _ (gw_g 6 rfl)) (gw_c (gw_X9_hours_X9_hours_r2 _ (gw_g 7 rfl)) (gw_c (gw_X9_hours_X9_hours_r2 _ (gw_g 8 rfl)) (gw_c (gw_X9_hours_X9_hours_r2 _ (gw_g 9 rfl)) (gw_c (gw_X9_hours_X9_hours_r2 _ (gw_g 10 rfl)) (gw_c (gw_X9_hours_X9_hours_r2 _ (gw_g 11 rfl)) (gw_c (gw_X9_hours_X9_hours_r2 _ (gw_g 12 rfl)) (gw_c (gw_X9_hours_X9_hours_r2 _ (gw_g 13 rfl)) (gw_c (gw_X9_hours_X9_hours_r2 _ (gw_g 14 rfl)) (gw_c (gw_X9_hours_X9_hours_r2 _ (gw_g 15 rfl)) (gw_c (gw_X9_hours_X9_hours_r2 _ (gw_g 16 rfl)) (gw_c (gw_X9_hours_X9_hours_r2 _ (gw_g 17 rfl)) (gw_c (gw_X9_hours_X9_hours_r2 _ (gw_g 18 rfl)) (gw_c (gw_X9_hours_X9_hours_r2 _ (gw_g 19 rfl)) (gw_c (gw_X9_hours_X9_hours_r2 _ (gw_g 20 rfl)) (gw_c (gw_X9_hours_X9_hours_r2 _ (gw_g 21 rfl)) (gw_c (gw_X9_hours_X9_hours_r2 _ (gw_g 22 rfl)) (gw_c (gw_X9_hours_X9_hours_r2 _ (gw_g 23 rfl)) (gw_c (gw_X9_hours_X9_hours_r3 _ (gw_g 0 rfl)) (gw_c (gw_X9_hours_X9_hours_r3 _ (gw_g 1 rfl)) (gw_c (gw_X9_hours_X9_hours_r3 _ (gw_g 2 rfl)) (gw_c (gw_X9_hours_X9_hours_r3 _ (gw_g 3 rfl)) (gw_c (gw_X9_hours_X9_hours_r3 _ (gw_g 4 rfl)) (gw_c (gw_X9_hours_X9_hours_r3 _ (gw_g 5 rfl)) gw_n)))))))))))))))))))))))) (gw_a (gw_c (gw_X9_hours_X9_hours_r3 _ (gw_g 6 rfl)) (gw_c (gw_X9_hours_X9_hours_r3 _ (gw_g 7 rfl)) (gw_c (gw_X9_hours_X9_hours_r3 _ (gw_g 8 rfl)) (gw_c (gw_X9_hours_X9_hours_r3 _ (gw_g 9 rfl)) (gw_c (gw_X9_hours_X9_hours_r3 _ (gw_g 10 rfl)) (gw_c (gw_X9_hours_X9_hours_r3 _ (gw_g 11 rfl)) (gw_c (gw_X9_hours_X9_hours_r3 _ (gw_g 12 rfl)) (gw_c (gw_X9_hours_X9_hours_r3 _ (gw_g 13 rfl)) (gw_c (gw_X9_hours_X9_hours_r3 _ (gw_g 14 rfl)) (gw_c (gw_X9_hours_X9_hours_r3 _ (gw_g 15 rfl)) (gw_c (gw_X9_hours_X9_hours_r3 _ (gw_g 16 rfl)) (gw_c (gw_X9_hours_X9_hours_r3 _ (gw_g 17 rfl)) (gw_c (gw_X9_hours_X9_hours_r3 _ (gw_g 18 rfl)) (gw_c (gw_X9_hours_X9_hours_r3 _ (gw_g 19 rfl)) (gw_c (gw_X9_hours_X9_hours_r3 _ (gw_g 20 rfl)) (gw_c (gw_X9_hours_X9_hours_r3 _ (gw_g 21 rfl)) (gw_c (gw_X9_hours_X9_hours_r3 _ (gw_g 22 rfl)) (gw_c (gw_X9_hours_X9_hours_r3 _ (gw_g 23 rfl)) (gw_c (gw_X9_hours_X9_hours_r4 _ (gw_g 0 rfl)) (gw_c (gw_X9_hours_X9_hours_r4 _ (gw_g 1 rfl)) (gw_c (gw_X9_hours_X9_hours_r4 _ (gw_g 2 rfl)) (gw_c (gw_X9_hours_X9_hours_r4 _ (gw_g 3 rfl)) (gw_c (gw_X9_hours_X9_hours_r4 _ (gw_g 4 rfl)) (gw_c (gw_X9_hours_X9_hours_r4 _ (gw_g 5 rfl)) gw_n)))))))))))))))))))))))) (gw_c (gw_X9_hours_X9_hours_r4 _ (gw_g 6 rfl)) (gw_c (gw_X9_hours_X9_hours_r4 _ (gw_g 7 rfl)) (gw_c (gw_X9_hours_X9_hours_r4 _ (gw_g 8 rfl)) (gw_c (gw_X9_hours_X9_hours_r4 _ (gw_g 9 rfl)) (gw_c (gw_X9_hours_X9_hours_r4 _ (gw_g 10 rfl)) (gw_c (gw_X9_hours_X9_hours_r4 _ (gw_g 11 rfl)) (gw_c (gw_X9_hours_X9_hours_r4 _ (gw_g 12 rfl)) (gw_c (gw_X9_hours_X9_hours_r4 _ (gw_g 13 rfl)) (gw_c (gw_X9_hours_X9_hours_r4 _ (gw_g 14 rfl)) gw_n)))))))))))) gw_X9_hours_X00) gw_X9_hours_X10) gw_X9_hours_X70) gw_X9_hours_X40) gw_X9_hours_X50)) (by decide +kernel)
set_option maxRecDepth 20000 in
theorem gX9_hours_X0_beginNextHour : GoodIn wsX9_hours (wsV RX9 147 RX0 yX0_beginNextHour wsX0_beginNextHour) := goodIn_app (goodIn_sub (gw_c (gw_X9_hours_X9_hours_r1 _ (gw_g 2 rfl)) (gw_c (gw_X9_hours_X9_hours_r1 _ (gw_g 3 rfl)) (gw_c (gw_X9_hours_X9_hours_r1 _ (gw_g 4 rfl)) (gw_c (gw_X9_hours_X9_hours_r1 _ (gw_g 5 rfl)) gw_n)))) (by decide +kernel)) ggX9_hours_X0_beginNextHour
theorem dX9_hours_0 : decode cX9_hours 0 = .ok (.iload_n 1, 1) := by decide +kernel
theorem dX9_hours_1 : decode cX9_hours 1 = .ok (.iconst 1, 1) := by decide +kernel
theorem dX9_hours_2 : decode cX9_hours 2 = .ok (.if_icmp .lt 24, 3) := by decide +kernel
theorem dX9_hours_5 : decode cX9_hours 5 = .ok (.iload_n 1, 1) := by decide +kernel
theorem dX9_hours_6 : decode cX9_hours 6 = .ok (.bipush 100, 2) := by decide +kernel
theorem dX9_hours_8 : decode cX9_hours 8 = .ok (.if_icmp .gt 18, 3) := by decide +kernel
theorem dX9_hours_11 : decode cX9_hours 11 = .ok (.aload_n 0, 1) := by decide +kernel
theorem dX9_hours_12 : decode cX9_hours 12 = .ok (.getfield 10, 3) := by decide +kernel
theorem dX9_hours_15 : decode cX9_hours 15 = .ok (.getfield 126, 3) := by decide +kernel
theorem dX9_hours_18 : decode cX9_hours 18 = .ok (.iload_n 1, 1) := by decide +kernel
theorem dX9_hours_19 : decode cX9_hours 19 = .ok (.iadd, 1) := by decide +kernel
theorem dX9_hours_20 : decode cX9_hours 20 = .ok (.sipush 2000, 3) := by decide +kernel
theorem dX9_hours_23 : decode cX9_hours 23 = .ok (.if_icmp .le 5, 3) := by decide +kernel
theorem dX9_hours_26 : decode cX9_hours 26 = .ok (.iconst (-1), 1) := by decide +kernel
theorem dX9_hours_27 : decode cX9_hours 27 = .ok (.ireturn, 1) := by decide +kernel
theorem dX9_hours_28 : decode cX9_hours 28 = .ok (.iconst 0, 1) := by decide +kernel
theorem dX9_hours_29 : decode cX9_hours 29 = .ok (.istore_n 2, 1) := by decide +kernel
theorem dX9_hours_30 : decode cX9_hours 30 = .ok (.iload_n 2, 1) := by decide +kernel
theorem dX9_hours_31 : decode cX9_hours 31 = .ok (.iload_n 1, 1) := by decide +kernel
theorem dX9_hours_32 : decode cX9_hours 32 = .ok (.if_icmp .ge 16, 3) := by decide +kernel
theorem dX9_hours_35 : decode cX9_hours 35 = .ok (.aload_n 0, 1) := by decide +kernel
theorem dX9_hours_36 : decode cX9_hours 36 = .ok (.getfield 10, 3) := by decide +kernel
theorem dX9_hours_39 : decode cX9_hours 39 = .ok (.invokevirtual 147, 3) := by decide +kernel
theorem dX9_hours_42 : decode cX9_hours 42 = .ok (.iinc 2 1, 3) := by decide +kernel
theorem dX9_hours_45 : decode cX9_hours 45 = .ok (.goto (-15), 3) := by decide +kernel
theorem dX9_hours_48 : decode cX9_hours 48 = .ok (.aload_n 0, 1) := by decide +kernel
theorem dX9_hours_49 : decode cX9_hours 49 = .ok (.getfield 10, 3) := by decide +kernel
theorem dX9_hours_52 : decode cX9_hours 52 = .ok (.getfield 126, 3) := by decide +kernel
theorem dX9_hours_55 : decode cX9_hours 55 = .ok (.ireturn, 1) := by decide +kernel
set_option maxRecDepth 20000 in
theorem ggX9_moved_X5_isTold : GoodIn wsX9_moved wsX5_isTold := goodIn_sub (gw_c (gw_X9_moved_X9_moved_r1 _ (gw_g 6 rfl)) (gw_a (gw_c (gw_X9_moved_X9_moved_r1 _ (gw_g 7 rfl)) gw_n) gw_X9_moved_X50)) (by decide +kernel)
set_option maxRecDepth 20000 in
theorem gX9_moved_X5_isTold : GoodIn wsX9_moved (wsV RX9 83 RX5 yX5_isTold wsX5_isTold) := goodIn_app (goodIn_sub (gw_c (gw_X9_moved_X9_moved_r1 _ (gw_g 2 rfl)) (gw_c (gw_X9_moved_X9_moved_r1 _ (gw_g 3 rfl)) (gw_c (gw_X9_moved_X9_moved_r1 _ (gw_g 4 rfl)) (gw_c (gw_X9_moved_X9_moved_r1 _ (gw_g 5 rfl)) gw_n)))) (by decide +kernel)) ggX9_moved_X5_isTold
set_option maxRecDepth 20000 in
theorem ggX9_moved_X0_hasLeft : GoodIn wsX9_moved wsX0_hasLeft := goodIn_sub (gw_c (gw_X9_moved_X9_moved_r1 _ (gw_g 12 rfl)) (gw_a (gw_a (gw_c (gw_X9_moved_X9_moved_r1 _ (gw_g 13 rfl)) (gw_c (gw_X9_moved_X9_moved_r1 _ (gw_g 14 rfl)) (gw_c (gw_X9_moved_X9_moved_r1 _ (gw_g 15 rfl)) (gw_c (gw_X9_moved_X9_moved_r1 _ (gw_g 16 rfl)) (gw_c (gw_X9_moved_X9_moved_r1 _ (gw_g 17 rfl)) (gw_c (gw_X9_moved_X9_moved_r1 _ (gw_g 18 rfl)) (gw_c (gw_X9_moved_X9_moved_r1 _ (gw_g 19 rfl)) (gw_c (gw_X9_moved_X9_moved_r1 _ (gw_g 20 rfl)) gw_n)))))))) gw_X9_moved_X00) gw_X9_moved_X40)) (by decide +kernel)
set_option maxRecDepth 20000 in
theorem gX9_moved_X0_hasLeft : GoodIn wsX9_moved (wsV RX9 86 RX0 yX0_hasLeft wsX0_hasLeft) := goodIn_app (goodIn_sub (gw_c (gw_X9_moved_X9_moved_r1 _ (gw_g 8 rfl)) (gw_c (gw_X9_moved_X9_moved_r1 _ (gw_g 9 rfl)) (gw_c (gw_X9_moved_X9_moved_r1 _ (gw_g 10 rfl)) (gw_c (gw_X9_moved_X9_moved_r1 _ (gw_g 11 rfl)) gw_n)))) (by decide +kernel)) ggX9_moved_X0_hasLeft
set_option maxRecDepth 20000 in
theorem ggX9_moved_X0_layAnew : GoodIn wsX9_moved wsX0_layAnew := goodIn_sub (gw_c (gw_X9_moved_X9_moved_r2 _ (gw_g 0 rfl)) (gw_a (gw_a (gw_a (gw_a (gw_a (gw_c (gw_X9_moved_X9_moved_r2 _ (gw_g 1 rfl)) (gw_c (gw_X9_moved_X9_moved_r1 _ (gw_g 14 rfl)) (gw_c (gw_X9_moved_X9_moved_r2 _ (gw_g 2 rfl)) (gw_c (gw_X9_moved_X9_moved_r2 _ (gw_g 3 rfl)) (gw_c (gw_X9_moved_X9_moved_r2 _ (gw_g 4 rfl)) (gw_c (gw_X9_moved_X9_moved_r2 _ (gw_g 5 rfl)) (gw_c (gw_X9_moved_X9_moved_r2 _ (gw_g 6 rfl)) (gw_c (gw_X9_moved_X9_moved_r2 _ (gw_g 7 rfl)) (gw_c (gw_X9_moved_X9_moved_r2 _ (gw_g 8 rfl)) (gw_c (gw_X9_moved_X9_moved_r2 _ (gw_g 9 rfl)) (gw_c (gw_X9_moved_X9_moved_r2 _ (gw_g 10 rfl)) (gw_c (gw_X9_moved_X9_moved_r2 _ (gw_g 11 rfl)) (gw_c (gw_X9_moved_X9_moved_r2 _ (gw_g 12 rfl)) (gw_c (gw_X9_moved_X9_moved_r2 _ (gw_g 13 rfl)) (gw_c (gw_X9_moved_X9_moved_r2 _ (gw_g 14 rfl)) (gw_c (gw_X9_moved_X9_moved_r2 _ (gw_g 15 rfl)) (gw_c (gw_X9_moved_X9_moved_r2 _ (gw_g 16 rfl)) (gw_c (gw_X9_moved_X9_moved_r2 _ (gw_g 17 rfl)) (gw_c (gw_X9_moved_X9_moved_r2 _ (gw_g 18 rfl)) (gw_c (gw_X9_moved_X9_moved_r2 _ (gw_g 19 rfl)) (gw_c (gw_X9_moved_X9_moved_r2 _ (gw_g 20 rfl)) (gw_c (gw_X9_moved_X9_moved_r2 _ (gw_g 21 rfl)) (gw_c (gw_X9_moved_X9_moved_r1 _ (gw_g 11 rfl)) (gw_c (gw_X9_moved_X9_moved_r2 _ (gw_g 22 rfl)) gw_n)))))))))))))))))))))))) (gw_a (gw_c (gw_X9_moved_X9_moved_r2 _ (gw_g 23 rfl)) (gw_c (gw_X9_moved_X9_moved_r3 _ (gw_g 0 rfl)) (gw_c (gw_X9_moved_X9_moved_r3 _ (gw_g 1 rfl)) (gw_c (gw_X9_moved_X9_moved_r3 _ (gw_g 2 rfl)) (gw_c (gw_X9_moved_X9_moved_r1 _ (gw_g 5 rfl)) (gw_c (gw_X9_moved_X9_moved_r3 _ (gw_g 3 rfl)) (gw_c (gw_X9_moved_X9_moved_r3 _ (gw_g 4 rfl)) (gw_c (gw_X9_moved_X9_moved_r3 _ (gw_g 5 rfl)) (gw_c (gw_X9_moved_X9_moved_r3 _ (gw_g 6 rfl)) (gw_c (gw_X9_moved_X9_moved_r3 _ (gw_g 7 rfl)) (gw_c (gw_X9_moved_X9_moved_r3 _ (gw_g 8 rfl)) (gw_c (gw_X9_moved_X9_moved_r3 _ (gw_g 9 rfl)) (gw_c (gw_X9_moved_X9_moved_r3 _ (gw_g 10 rfl)) (gw_c (gw_X9_moved_X9_moved_r3 _ (gw_g 11 rfl)) (gw_c (gw_X9_moved_X9_moved_r3 _ (gw_g 12 rfl)) (gw_c (gw_X9_moved_X9_moved_r3 _ (gw_g 13 rfl)) (gw_c (gw_X9_moved_X9_moved_r3 _ (gw_g 14 rfl)) (gw_c (gw_X9_moved_X9_moved_r3 _ (gw_g 15 rfl)) (gw_c (gw_X9_moved_X9_moved_r3 _ (gw_g 16 rfl)) (gw_c (gw_X9_moved_X9_moved_r3 _ (gw_g 17 rfl)) (gw_c (gw_X9_moved_X9_moved_r1 _ (gw_g 13 rfl)) (gw_c (gw_X9_moved_X9_moved_r3 _ (gw_g 18 rfl)) (gw_c (gw_X9_moved_X9_moved_r3 _ (gw_g 19 rfl)) (gw_c (gw_X9_moved_X9_moved_r3 _ (gw_g 20 rfl)) gw_n)))))))))))))))))))))))) (gw_c (gw_X9_moved_X9_moved_r3 _ (gw_g 21 rfl)) (gw_c (gw_X9_moved_X9_moved_r3 _ (gw_g 22 rfl)) gw_n)))) gw_X9_moved_X00) gw_X9_moved_X40) gw_X9_moved_X70) gw_X9_moved_X50)) (by decide +kernel)
set_option maxRecDepth 20000 in
theorem gX9_moved_X0_layAnew : GoodIn wsX9_moved (wsV RX9 150 RX0 yX0_layAnew wsX0_layAnew) := goodIn_app (goodIn_sub (gw_c (gw_X9_moved_X9_moved_r1 _ (gw_g 21 rfl)) (gw_c (gw_X9_moved_X9_moved_r1 _ (gw_g 22 rfl)) (gw_c (gw_X9_moved_X9_moved_r1 _ (gw_g 23 rfl)) (gw_c (gw_X9_moved_X9_moved_r1 _ (gw_g 11 rfl)) gw_n)))) (by decide +kernel)) ggX9_moved_X0_layAnew
theorem dX9_moved_0 : decode cX9_moved 0 = .ok (.aload_n 0, 1) := by decide +kernel
theorem dX9_moved_1 : decode cX9_moved 1 = .ok (.getfield 10, 3) := by decide +kernel
theorem dX9_moved_4 : decode cX9_moved 4 = .ok (.getfield 34, 3) := by decide +kernel
theorem dX9_moved_7 : decode cX9_moved 7 = .ok (.iload_n 1, 1) := by decide +kernel
theorem dX9_moved_8 : decode cX9_moved 8 = .ok (.invokevirtual 83, 3) := by decide +kernel
theorem dX9_moved_11 : decode cX9_moved 11 = .ok (.ifCond .eq 15, 3) := by decide +kernel
theorem dX9_moved_14 : decode cX9_moved 14 = .ok (.aload_n 0, 1) := by decide +kernel
theorem dX9_moved_15 : decode cX9_moved 15 = .ok (.getfield 10, 3) := by decide +kernel
theorem dX9_moved_18 : decode cX9_moved 18 = .ok (.iload_n 1, 1) := by decide +kernel
theorem dX9_moved_19 : decode cX9_moved 19 = .ok (.iconst 0, 1) := by decide +kernel
theorem dX9_moved_20 : decode cX9_moved 20 = .ok (.invokevirtual 86, 3) := by decide +kernel
theorem dX9_moved_23 : decode cX9_moved 23 = .ok (.ifCond .eq 5, 3) := by decide +kernel
theorem dX9_moved_26 : decode cX9_moved 26 = .ok (.iconst (-1), 1) := by decide +kernel
theorem dX9_moved_27 : decode cX9_moved 27 = .ok (.ireturn, 1) := by decide +kernel
theorem dX9_moved_28 : decode cX9_moved 28 = .ok (.aload_n 0, 1) := by decide +kernel
theorem dX9_moved_29 : decode cX9_moved 29 = .ok (.getfield 10, 3) := by decide +kernel
theorem dX9_moved_32 : decode cX9_moved 32 = .ok (.iload_n 1, 1) := by decide +kernel
theorem dX9_moved_33 : decode cX9_moved 33 = .ok (.invokevirtual 150, 3) := by decide +kernel
theorem dX9_moved_36 : decode cX9_moved 36 = .ok (.ireturn, 1) := by decide +kernel
set_option maxRecDepth 20000 in
theorem ggX9_wouldFit_X9_isOffice : GoodIn wsX9_wouldFit wsX9_isOffice := goodIn_sub (gw_c (gw_X9_wouldFit_X9_wouldFit_r1 _ (gw_g 4 rfl)) gw_n) (by decide +kernel)
set_option maxRecDepth 20000 in
theorem gX9_wouldFit_X9_isOffice : GoodIn wsX9_wouldFit (va_wsS RX9 74 yX9_isOffice wsX9_isOffice) := goodIn_app (goodIn_sub (gw_c (gw_X9_wouldFit_X9_wouldFit_r1 _ (gw_g 1 rfl)) (gw_c (gw_X9_wouldFit_X9_wouldFit_r1 _ (gw_g 2 rfl)) (gw_c (gw_X9_wouldFit_X9_wouldFit_r1 _ (gw_g 3 rfl)) gw_n))) (by decide +kernel)) ggX9_wouldFit_X9_isOffice
set_option maxRecDepth 20000 in
theorem ggX9_wouldFit_X0_isRunStretch : GoodIn wsX9_wouldFit wsX0_isRunStretch := goodIn_sub (gw_c (gw_X9_wouldFit_X9_wouldFit_r1 _ (gw_g 9 rfl)) (gw_a (gw_a (gw_a (gw_c (gw_X9_wouldFit_X9_wouldFit_r1 _ (gw_g 10 rfl)) (gw_c (gw_X9_wouldFit_X9_wouldFit_r1 _ (gw_g 11 rfl)) (gw_c (gw_X9_wouldFit_X9_wouldFit_r1 _ (gw_g 12 rfl)) (gw_c (gw_X9_wouldFit_X9_wouldFit_r1 _ (gw_g 13 rfl)) (gw_c (gw_X9_wouldFit_X9_wouldFit_r1 _ (gw_g 14 rfl)) (gw_c (gw_X9_wouldFit_X9_wouldFit_r1 _ (gw_g 15 rfl)) (gw_c (gw_X9_wouldFit_X9_wouldFit_r1 _ (gw_g 16 rfl)) (gw_c (gw_X9_wouldFit_X9_wouldFit_r1 _ (gw_g 17 rfl)) (gw_c (gw_X9_wouldFit_X9_wouldFit_r1 _ (gw_g 18 rfl)) (gw_c (gw_X9_wouldFit_X9_wouldFit_r1 _ (gw_g 19 rfl)) (gw_c (gw_X9_wouldFit_X9_wouldFit_r1 _ (gw_g 20 rfl)) (gw_c (gw_X9_wouldFit_X9_wouldFit_r1 _ (gw_g 21 rfl)) (gw_c (gw_X9_wouldFit_X9_wouldFit_r1 _ (gw_g 22 rfl)) (gw_c (gw_X9_wouldFit_X9_wouldFit_r1 _ (gw_g 23 rfl)) gw_n)))))))))))))) gw_X9_wouldFit_X00) gw_X9_wouldFit_X50) gw_X9_wouldFit_X40)) (by decide +kernel)
set_option maxRecDepth 20000 in
theorem gX9_wouldFit_X0_isRunStretch : GoodIn wsX9_wouldFit (wsV RX9 94 RX0 yX0_isRunStretch wsX0_isRunStretch) := goodIn_app (goodIn_sub (gw_c (gw_X9_wouldFit_X9_wouldFit_r1 _ (gw_g 5 rfl)) (gw_c (gw_X9_wouldFit_X9_wouldFit_r1 _ (gw_g 6 rfl)) (gw_c (gw_X9_wouldFit_X9_wouldFit_r1 _ (gw_g 7 rfl)) (gw_c (gw_X9_wouldFit_X9_wouldFit_r1 _ (gw_g 8 rfl)) gw_n)))) (by decide +kernel)) ggX9_wouldFit_X0_isRunStretch
set_option maxRecDepth 20000 in
theorem ggX9_wouldFit_X0_hasLeft : GoodIn wsX9_wouldFit wsX0_hasLeft := goodIn_sub (gw_c (gw_X9_wouldFit_X9_wouldFit_r2 _ (gw_g 3 rfl)) (gw_a (gw_a (gw_c (gw_X9_wouldFit_X9_wouldFit_r2 _ (gw_g 4 rfl)) (gw_c (gw_X9_wouldFit_X9_wouldFit_r1 _ (gw_g 11 rfl)) (gw_c (gw_X9_wouldFit_X9_wouldFit_r2 _ (gw_g 5 rfl)) (gw_c (gw_X9_wouldFit_X9_wouldFit_r2 _ (gw_g 6 rfl)) (gw_c (gw_X9_wouldFit_X9_wouldFit_r2 _ (gw_g 7 rfl)) (gw_c (gw_X9_wouldFit_X9_wouldFit_r1 _ (gw_g 21 rfl)) (gw_c (gw_X9_wouldFit_X9_wouldFit_r2 _ (gw_g 8 rfl)) (gw_c (gw_X9_wouldFit_X9_wouldFit_r2 _ (gw_g 9 rfl)) gw_n)))))))) gw_X9_wouldFit_X00) gw_X9_wouldFit_X40)) (by decide +kernel)
set_option maxRecDepth 20000 in
theorem gX9_wouldFit_X0_hasLeft : GoodIn wsX9_wouldFit (wsV RX9 86 RX0 yX0_hasLeft wsX0_hasLeft) := goodIn_app (goodIn_sub (gw_c (gw_X9_wouldFit_X9_wouldFit_r2 _ (gw_g 0 rfl)) (gw_c (gw_X9_wouldFit_X9_wouldFit_r2 _ (gw_g 1 rfl)) (gw_c (gw_X9_wouldFit_X9_wouldFit_r2 _ (gw_g 2 rfl)) (gw_c (gw_X9_wouldFit_X9_wouldFit_r1 _ (gw_g 8 rfl)) gw_n)))) (by decide +kernel)) ggX9_wouldFit_X0_hasLeft
set_option maxRecDepth 20000 in
theorem ggX9_wouldFit_X0_hasRoom : GoodIn wsX9_wouldFit wsX0_hasRoom := goodIn_sub (gw_c (gw_X9_wouldFit_X9_wouldFit_r2 _ (gw_g 13 rfl)) (gw_a (gw_a (gw_a (gw_c (gw_X9_wouldFit_X9_wouldFit_r2 _ (gw_g 14 rfl)) (gw_c (gw_X9_wouldFit_X9_wouldFit_r2 _ (gw_g 15 rfl)) (gw_c (gw_X9_wouldFit_X9_wouldFit_r2 _ (gw_g 16 rfl)) (gw_c (gw_X9_wouldFit_X9_wouldFit_r1 _ (gw_g 8 rfl)) (gw_c (gw_X9_wouldFit_X9_wouldFit_r2 _ (gw_g 17 rfl)) (gw_c (gw_X9_wouldFit_X9_wouldFit_r1 _ (gw_g 10 rfl)) (gw_c (gw_X9_wouldFit_X9_wouldFit_r2 _ (gw_g 18 rfl)) (gw_c (gw_X9_wouldFit_X9_wouldFit_r2 _ (gw_g 19 rfl)) (gw_c (gw_X9_wouldFit_X9_wouldFit_r2 _ (gw_g 20 rfl)) (gw_c (gw_X9_wouldFit_X9_wouldFit_r2 _ (gw_g 21 rfl)) (gw_c (gw_X9_wouldFit_X9_wouldFit_r2 _ (gw_g 22 rfl)) (gw_c (gw_X9_wouldFit_X9_wouldFit_r2 _ (gw_g 4 rfl)) (gw_c (gw_X9_wouldFit_X9_wouldFit_r2 _ (gw_g 23 rfl)) (gw_c (gw_X9_wouldFit_X9_wouldFit_r3 _ (gw_g 0 rfl)) (gw_c (gw_X9_wouldFit_X9_wouldFit_r3 _ (gw_g 1 rfl)) (gw_c (gw_X9_wouldFit_X9_wouldFit_r1 _ (gw_g 15 rfl)) (gw_c (gw_X9_wouldFit_X9_wouldFit_r3 _ (gw_g 2 rfl)) (gw_c (gw_X9_wouldFit_X9_wouldFit_r3 _ (gw_g 3 rfl)) (gw_c (gw_X9_wouldFit_X9_wouldFit_r3 _ (gw_g 4 rfl)) (gw_c (gw_X9_wouldFit_X9_wouldFit_r3 _ (gw_g 5 rfl)) (gw_c (gw_X9_wouldFit_X9_wouldFit_r3 _ (gw_g 6 rfl)) (gw_c (gw_X9_wouldFit_X9_wouldFit_r3 _ (gw_g 7 rfl)) (gw_c (gw_X9_wouldFit_X9_wouldFit_r3 _ (gw_g 8 rfl)) (gw_c (gw_X9_wouldFit_X9_wouldFit_r3 _ (gw_g 9 rfl)) gw_n)))))))))))))))))))))))) (gw_c (gw_X9_wouldFit_X9_wouldFit_r3 _ (gw_g 10 rfl)) (gw_c (gw_X9_wouldFit_X9_wouldFit_r3 _ (gw_g 11 rfl)) (gw_c (gw_X9_wouldFit_X9_wouldFit_r3 _ (gw_g 12 rfl)) gw_n)))) gw_X9_wouldFit_X00) gw_X9_wouldFit_X50)) (by decide +kernel)
set_option maxRecDepth 20000 in
theorem gX9_wouldFit_X0_hasRoom : GoodIn wsX9_wouldFit (wsV RX9 154 RX0 yX0_hasRoom wsX0_hasRoom) := goodIn_app (goodIn_sub (gw_c (gw_X9_wouldFit_X9_wouldFit_r2 _ (gw_g 10 rfl)) (gw_c (gw_X9_wouldFit_X9_wouldFit_r2 _ (gw_g 11 rfl)) (gw_c (gw_X9_wouldFit_X9_wouldFit_r2 _ (gw_g 12 rfl)) (gw_c (gw_X9_wouldFit_X9_wouldFit_r1 _ (gw_g 8 rfl)) gw_n)))) (by decide +kernel)) ggX9_wouldFit_X0_hasRoom
theorem dX9_wouldFit_0 : decode cX9_wouldFit 0 = .ok (.iload_n 1, 1) := by decide +kernel
theorem dX9_wouldFit_1 : decode cX9_wouldFit 1 = .ok (.invokestatic 74, 3) := by decide +kernel
theorem dX9_wouldFit_4 : decode cX9_wouldFit 4 = .ok (.ifCond .eq 29, 3) := by decide +kernel
theorem dX9_wouldFit_7 : decode cX9_wouldFit 7 = .ok (.aload_n 0, 1) := by decide +kernel
theorem dX9_wouldFit_8 : decode cX9_wouldFit 8 = .ok (.getfield 10, 3) := by decide +kernel
theorem dX9_wouldFit_11 : decode cX9_wouldFit 11 = .ok (.iload_n 2, 1) := by decide +kernel
theorem dX9_wouldFit_12 : decode cX9_wouldFit 12 = .ok (.iload_n 3, 1) := by decide +kernel
theorem dX9_wouldFit_13 : decode cX9_wouldFit 13 = .ok (.iload 4, 2) := by decide +kernel
theorem dX9_wouldFit_15 : decode cX9_wouldFit 15 = .ok (.invokevirtual 94, 3) := by decide +kernel
theorem dX9_wouldFit_18 : decode cX9_wouldFit 18 = .ok (.ifCond .eq 15, 3) := by decide +kernel
theorem dX9_wouldFit_21 : decode cX9_wouldFit 21 = .ok (.aload_n 0, 1) := by decide +kernel
theorem dX9_wouldFit_22 : decode cX9_wouldFit 22 = .ok (.getfield 10, 3) := by decide +kernel
theorem dX9_wouldFit_25 : decode cX9_wouldFit 25 = .ok (.iload_n 2, 1) := by decide +kernel
theorem dX9_wouldFit_26 : decode cX9_wouldFit 26 = .ok (.iconst 0, 1) := by decide +kernel
theorem dX9_wouldFit_27 : decode cX9_wouldFit 27 = .ok (.invokevirtual 86, 3) := by decide +kernel
theorem dX9_wouldFit_30 : decode cX9_wouldFit 30 = .ok (.ifCond .eq 5, 3) := by decide +kernel
theorem dX9_wouldFit_33 : decode cX9_wouldFit 33 = .ok (.iconst 0, 1) := by decide +kernel
theorem dX9_wouldFit_34 : decode cX9_wouldFit 34 = .ok (.ireturn, 1) := by decide +kernel
theorem dX9_wouldFit_35 : decode cX9_wouldFit 35 = .ok (.aload_n 0, 1) := by decide +kernel
theorem dX9_wouldFit_36 : decode cX9_wouldFit 36 = .ok (.getfield 10, 3) := by decide +kernel
theorem dX9_wouldFit_39 : decode cX9_wouldFit 39 = .ok (.iload_n 1, 1) := by decide +kernel
theorem dX9_wouldFit_40 : decode cX9_wouldFit 40 = .ok (.iload_n 2, 1) := by decide +kernel
theorem dX9_wouldFit_41 : decode cX9_wouldFit 41 = .ok (.iload_n 3, 1) := by decide +kernel
theorem dX9_wouldFit_42 : decode cX9_wouldFit 42 = .ok (.iload 4, 2) := by decide +kernel
theorem dX9_wouldFit_44 : decode cX9_wouldFit 44 = .ok (.invokevirtual 154, 3) := by decide +kernel
theorem dX9_wouldFit_47 : decode cX9_wouldFit 47 = .ok (.ireturn, 1) := by decide +kernel
set_option maxRecDepth 20000 in
theorem ggX9_ticket_X7_has : GoodIn wsX9_ticket wsX7_has := goodIn_sub (gw_c (gw_t (gw_l (gw_l (gw_l (gw_g 12 rfl))))) (gw_a (gw_c (gw_t (gw_l (gw_l (gw_l (gw_g 13 rfl))))) gw_n) gw_X9_ticket_X70)) (by decide +kernel)
set_option maxRecDepth 20000 in
theorem gX9_ticket_X7_has : GoodIn wsX9_ticket (wsV RX9 106 RX7 yX7_has wsX7_has) := goodIn_app (goodIn_sub (gw_c (gw_t (gw_l (gw_l (gw_l (gw_g 8 rfl))))) (gw_c (gw_t (gw_l (gw_l (gw_l (gw_g 9 rfl))))) (gw_c (gw_t (gw_l (gw_l (gw_l (gw_g 10 rfl))))) (gw_c (gw_t (gw_l (gw_l (gw_l (gw_g 11 rfl))))) gw_n)))) (by decide +kernel)) ggX9_ticket_X7_has
theorem dX9_ticket_0 : decode cX9_ticket 0 = .ok (.aload_n 0, 1) := by decide +kernel
theorem dX9_ticket_1 : decode cX9_ticket 1 = .ok (.getfield 10, 3) := by decide +kernel
theorem dX9_ticket_4 : decode cX9_ticket 4 = .ok (.getfield 102, 3) := by decide +kernel
theorem dX9_ticket_7 : decode cX9_ticket 7 = .ok (.iload_n 1, 1) := by decide +kernel
theorem dX9_ticket_8 : decode cX9_ticket 8 = .ok (.invokevirtual 106, 3) := by decide +kernel
theorem dX9_ticket_11 : decode cX9_ticket 11 = .ok (.ifCond .ne 5, 3) := by decide +kernel
theorem dX9_ticket_14 : decode cX9_ticket 14 = .ok (.iconst (-1), 1) := by decide +kernel
theorem dX9_ticket_15 : decode cX9_ticket 15 = .ok (.ireturn, 1) := by decide +kernel
theorem dX9_ticket_16 : decode cX9_ticket 16 = .ok (.iload_n 2, 1) := by decide +kernel
theorem dX9_ticket_17 : decode cX9_ticket 17 = .ok (.tableswitch 117 0 5 #[39, 52, 65, 78, 91, 104], 39) := by decide +kernel
theorem dX9_ticket_56 : decode cX9_ticket 56 = .ok (.aload_n 0, 1) := by decide +kernel
theorem dX9_ticket_57 : decode cX9_ticket 57 = .ok (.getfield 10, 3) := by decide +kernel
theorem dX9_ticket_60 : decode cX9_ticket 60 = .ok (.getfield 102, 3) := by decide +kernel
theorem dX9_ticket_63 : decode cX9_ticket 63 = .ok (.getfield 158, 3) := by decide +kernel
theorem dX9_ticket_66 : decode cX9_ticket 66 = .ok (.iload_n 1, 1) := by decide +kernel
theorem dX9_ticket_67 : decode cX9_ticket 67 = .ok (.iaload, 1) := by decide +kernel
theorem dX9_ticket_68 : decode cX9_ticket 68 = .ok (.ireturn, 1) := by decide +kernel
theorem dX9_ticket_69 : decode cX9_ticket 69 = .ok (.aload_n 0, 1) := by decide +kernel
theorem dX9_ticket_70 : decode cX9_ticket 70 = .ok (.getfield 10, 3) := by decide +kernel
theorem dX9_ticket_73 : decode cX9_ticket 73 = .ok (.getfield 102, 3) := by decide +kernel
theorem dX9_ticket_76 : decode cX9_ticket 76 = .ok (.getfield 161, 3) := by decide +kernel
theorem dX9_ticket_79 : decode cX9_ticket 79 = .ok (.iload_n 1, 1) := by decide +kernel
theorem dX9_ticket_80 : decode cX9_ticket 80 = .ok (.iaload, 1) := by decide +kernel
theorem dX9_ticket_81 : decode cX9_ticket 81 = .ok (.ireturn, 1) := by decide +kernel
theorem dX9_ticket_82 : decode cX9_ticket 82 = .ok (.aload_n 0, 1) := by decide +kernel
theorem dX9_ticket_83 : decode cX9_ticket 83 = .ok (.getfield 10, 3) := by decide +kernel
theorem dX9_ticket_86 : decode cX9_ticket 86 = .ok (.getfield 102, 3) := by decide +kernel
theorem dX9_ticket_89 : decode cX9_ticket 89 = .ok (.getfield 164, 3) := by decide +kernel
theorem dX9_ticket_92 : decode cX9_ticket 92 = .ok (.iload_n 1, 1) := by decide +kernel
theorem dX9_ticket_93 : decode cX9_ticket 93 = .ok (.iaload, 1) := by decide +kernel
theorem dX9_ticket_94 : decode cX9_ticket 94 = .ok (.ireturn, 1) := by decide +kernel
theorem dX9_ticket_95 : decode cX9_ticket 95 = .ok (.aload_n 0, 1) := by decide +kernel
theorem dX9_ticket_96 : decode cX9_ticket 96 = .ok (.getfield 10, 3) := by decide +kernel
theorem dX9_ticket_99 : decode cX9_ticket 99 = .ok (.getfield 102, 3) := by decide +kernel
theorem dX9_ticket_102 : decode cX9_ticket 102 = .ok (.getfield 167, 3) := by decide +kernel
theorem dX9_ticket_105 : decode cX9_ticket 105 = .ok (.iload_n 1, 1) := by decide +kernel
theorem dX9_ticket_106 : decode cX9_ticket 106 = .ok (.iaload, 1) := by decide +kernel
theorem dX9_ticket_107 : decode cX9_ticket 107 = .ok (.ireturn, 1) := by decide +kernel
theorem dX9_ticket_108 : decode cX9_ticket 108 = .ok (.aload_n 0, 1) := by decide +kernel
theorem dX9_ticket_109 : decode cX9_ticket 109 = .ok (.getfield 10, 3) := by decide +kernel
theorem dX9_ticket_112 : decode cX9_ticket 112 = .ok (.getfield 102, 3) := by decide +kernel
theorem dX9_ticket_115 : decode cX9_ticket 115 = .ok (.getfield 170, 3) := by decide +kernel
theorem dX9_ticket_118 : decode cX9_ticket 118 = .ok (.iload_n 1, 1) := by decide +kernel
theorem dX9_ticket_119 : decode cX9_ticket 119 = .ok (.iaload, 1) := by decide +kernel
theorem dX9_ticket_120 : decode cX9_ticket 120 = .ok (.ireturn, 1) := by decide +kernel
theorem dX9_ticket_121 : decode cX9_ticket 121 = .ok (.aload_n 0, 1) := by decide +kernel
theorem dX9_ticket_122 : decode cX9_ticket 122 = .ok (.getfield 10, 3) := by decide +kernel
theorem dX9_ticket_125 : decode cX9_ticket 125 = .ok (.getfield 102, 3) := by decide +kernel
theorem dX9_ticket_128 : decode cX9_ticket 128 = .ok (.getfield 173, 3) := by decide +kernel
theorem dX9_ticket_131 : decode cX9_ticket 131 = .ok (.iload_n 1, 1) := by decide +kernel
theorem dX9_ticket_132 : decode cX9_ticket 132 = .ok (.iaload, 1) := by decide +kernel
theorem dX9_ticket_133 : decode cX9_ticket 133 = .ok (.ireturn, 1) := by decide +kernel
theorem dX9_ticket_134 : decode cX9_ticket 134 = .ok (.iconst (-1), 1) := by decide +kernel
theorem dX9_ticket_135 : decode cX9_ticket 135 = .ok (.ireturn, 1) := by decide +kernel
set_option maxRecDepth 20000 in
theorem ggX9_lies_X5_hasBerth : GoodIn wsX9_lies wsX5_hasBerth := goodIn_sub (gw_c (gw_X9_lies_X9_lies_r1 _ (gw_g 8 rfl)) (gw_a (gw_c (gw_X9_lies_X9_lies_r1 _ (gw_g 9 rfl)) (gw_c (gw_X9_lies_X9_lies_r1 _ (gw_g 10 rfl)) (gw_c (gw_X9_lies_X9_lies_r1 _ (gw_g 11 rfl)) (gw_c (gw_X9_lies_X9_lies_r1 _ (gw_g 12 rfl)) (gw_c (gw_X9_lies_X9_lies_r1 _ (gw_g 7 rfl)) (gw_c (gw_X9_lies_X9_lies_r1 _ (gw_g 13 rfl)) gw_n)))))) gw_X9_lies_X50)) (by decide +kernel)
set_option maxRecDepth 20000 in
theorem gX9_lies_X5_hasBerth : GoodIn wsX9_lies (wsV RX9 176 RX5 yX5_hasBerth wsX5_hasBerth) := goodIn_app (goodIn_sub (gw_c (gw_X9_lies_X9_lies_r1 _ (gw_g 4 rfl)) (gw_c (gw_X9_lies_X9_lies_r1 _ (gw_g 5 rfl)) (gw_c (gw_X9_lies_X9_lies_r1 _ (gw_g 6 rfl)) (gw_c (gw_X9_lies_X9_lies_r1 _ (gw_g 7 rfl)) gw_n)))) (by decide +kernel)) ggX9_lies_X5_hasBerth
set_option maxRecDepth 20000 in
theorem ggX9_lies_X4_hasLeg : GoodIn wsX9_lies wsX4_hasLeg := goodIn_sub (gw_c (gw_X9_lies_X9_lies_r1 _ (gw_g 18 rfl)) (gw_a (gw_c (gw_X9_lies_X9_lies_r1 _ (gw_g 19 rfl)) gw_n) gw_X9_lies_X40)) (by decide +kernel)
set_option maxRecDepth 20000 in
theorem gX9_lies_X4_hasLeg : GoodIn wsX9_lies (wsV RX9 64 RX4 yX4_hasLeg wsX4_hasLeg) := goodIn_app (goodIn_sub (gw_c (gw_X9_lies_X9_lies_r1 _ (gw_g 14 rfl)) (gw_c (gw_X9_lies_X9_lies_r1 _ (gw_g 15 rfl)) (gw_c (gw_X9_lies_X9_lies_r1 _ (gw_g 16 rfl)) (gw_c (gw_X9_lies_X9_lies_r1 _ (gw_g 17 rfl)) gw_n)))) (by decide +kernel)) ggX9_lies_X4_hasLeg
set_option maxRecDepth 20000 in
theorem ggX9_lies_X7_find : GoodIn wsX9_lies wsX7_find := goodIn_sub (gw_c (gw_X9_lies_X9_lies_r2 _ (gw_g 0 rfl)) (gw_a (gw_c (gw_X9_lies_X9_lies_r2 _ (gw_g 1 rfl)) (gw_c (gw_X9_lies_X9_lies_r2 _ (gw_g 2 rfl)) (gw_c (gw_X9_lies_X9_lies_r2 _ (gw_g 3 rfl)) (gw_c (gw_X9_lies_X9_lies_r2 _ (gw_g 4 rfl)) (gw_c (gw_X9_lies_X9_lies_r2 _ (gw_g 5 rfl)) (gw_c (gw_X9_lies_X9_lies_r2 _ (gw_g 6 rfl)) (gw_c (gw_X9_lies_X9_lies_r2 _ (gw_g 7 rfl)) (gw_c (gw_X9_lies_X9_lies_r1 _ (gw_g 23 rfl)) (gw_c (gw_X9_lies_X9_lies_r2 _ (gw_g 8 rfl)) (gw_c (gw_X9_lies_X9_lies_r2 _ (gw_g 9 rfl)) (gw_c (gw_X9_lies_X9_lies_r2 _ (gw_g 10 rfl)) gw_n))))))))))) gw_X9_lies_X70)) (by decide +kernel)
set_option maxRecDepth 20000 in
theorem gX9_lies_X7_find : GoodIn wsX9_lies (wsV RX9 179 RX7 yX7_find wsX7_find) := goodIn_app (goodIn_sub (gw_c (gw_X9_lies_X9_lies_r1 _ (gw_g 20 rfl)) (gw_c (gw_X9_lies_X9_lies_r1 _ (gw_g 21 rfl)) (gw_c (gw_X9_lies_X9_lies_r1 _ (gw_g 22 rfl)) (gw_c (gw_X9_lies_X9_lies_r1 _ (gw_g 23 rfl)) gw_n)))) (by decide +kernel)) ggX9_lies_X7_find
theorem dX9_lies_0 : decode cX9_lies 0 = .ok (.aload_n 0, 1) := by decide +kernel
theorem dX9_lies_1 : decode cX9_lies 1 = .ok (.getfield 10, 3) := by decide +kernel
theorem dX9_lies_4 : decode cX9_lies 4 = .ok (.getfield 34, 3) := by decide +kernel
theorem dX9_lies_7 : decode cX9_lies 7 = .ok (.iload_n 1, 1) := by decide +kernel
theorem dX9_lies_8 : decode cX9_lies 8 = .ok (.iload_n 2, 1) := by decide +kernel
theorem dX9_lies_9 : decode cX9_lies 9 = .ok (.invokevirtual 176, 3) := by decide +kernel
theorem dX9_lies_12 : decode cX9_lies 12 = .ok (.ifCond .eq 17, 3) := by decide +kernel
theorem dX9_lies_15 : decode cX9_lies 15 = .ok (.aload_n 0, 1) := by decide +kernel
theorem dX9_lies_16 : decode cX9_lies 16 = .ok (.getfield 10, 3) := by decide +kernel
theorem dX9_lies_19 : decode cX9_lies 19 = .ok (.getfield 44, 3) := by decide +kernel
theorem dX9_lies_22 : decode cX9_lies 22 = .ok (.iload_n 3, 1) := by decide +kernel
theorem dX9_lies_23 : decode cX9_lies 23 = .ok (.invokevirtual 64, 3) := by decide +kernel
theorem dX9_lies_26 : decode cX9_lies 26 = .ok (.ifCond .ne 6, 3) := by decide +kernel
theorem dX9_lies_29 : decode cX9_lies 29 = .ok (.bipush (-2), 2) := by decide +kernel
theorem dX9_lies_31 : decode cX9_lies 31 = .ok (.ireturn, 1) := by decide +kernel
theorem dX9_lies_32 : decode cX9_lies 32 = .ok (.aload_n 0, 1) := by decide +kernel
theorem dX9_lies_33 : decode cX9_lies 33 = .ok (.getfield 10, 3) := by decide +kernel
theorem dX9_lies_36 : decode cX9_lies 36 = .ok (.getfield 102, 3) := by decide +kernel
theorem dX9_lies_39 : decode cX9_lies 39 = .ok (.iload_n 1, 1) := by decide +kernel
theorem dX9_lies_40 : decode cX9_lies 40 = .ok (.iload_n 2, 1) := by decide +kernel
theorem dX9_lies_41 : decode cX9_lies 41 = .ok (.iload_n 3, 1) := by decide +kernel
theorem dX9_lies_42 : decode cX9_lies 42 = .ok (.invokevirtual 179, 3) := by decide +kernel
theorem dX9_lies_45 : decode cX9_lies 45 = .ok (.ireturn, 1) := by decide +kernel
set_option maxRecDepth 20000 in
theorem ggX9_told_X5_isTold : GoodIn wsX9_told wsX5_isTold := goodIn_sub (gw_c (gw_X9_told_X9_told_r1 _ (gw_g 8 rfl)) (gw_a (gw_c (gw_X9_told_X9_told_r1 _ (gw_g 9 rfl)) gw_n) gw_X9_told_X50)) (by decide +kernel)
set_option maxRecDepth 20000 in
theorem gX9_told_X5_isTold : GoodIn wsX9_told (wsV RX9 83 RX5 yX5_isTold wsX5_isTold) := goodIn_app (goodIn_sub (gw_c (gw_X9_told_X9_told_r1 _ (gw_g 4 rfl)) (gw_c (gw_X9_told_X9_told_r1 _ (gw_g 5 rfl)) (gw_c (gw_X9_told_X9_told_r1 _ (gw_g 6 rfl)) (gw_c (gw_X9_told_X9_told_r1 _ (gw_g 7 rfl)) gw_n)))) (by decide +kernel)) ggX9_told_X5_isTold
set_option maxRecDepth 20000 in
theorem ggX9_told_X7_liveOf : GoodIn wsX9_told wsX7_liveOf := goodIn_sub (gw_c (gw_X9_told_X9_told_r1 _ (gw_g 14 rfl)) (gw_a (gw_c (gw_X9_told_X9_told_r1 _ (gw_g 15 rfl)) (gw_c (gw_X9_told_X9_told_r1 _ (gw_g 16 rfl)) (gw_c (gw_X9_told_X9_told_r1 _ (gw_g 17 rfl)) (gw_c (gw_X9_told_X9_told_r1 _ (gw_g 18 rfl)) (gw_c (gw_X9_told_X9_told_r1 _ (gw_g 13 rfl)) (gw_c (gw_X9_told_X9_told_r1 _ (gw_g 19 rfl)) (gw_c (gw_X9_told_X9_told_r1 _ (gw_g 20 rfl)) (gw_c (gw_X9_told_X9_told_r1 _ (gw_g 21 rfl)) gw_n)))))))) gw_X9_told_X70)) (by decide +kernel)
set_option maxRecDepth 20000 in
theorem gX9_told_X7_liveOf : GoodIn wsX9_told (wsV RX9 184 RX7 yX7_liveOf wsX7_liveOf) := goodIn_app (goodIn_sub (gw_c (gw_X9_told_X9_told_r1 _ (gw_g 10 rfl)) (gw_c (gw_X9_told_X9_told_r1 _ (gw_g 11 rfl)) (gw_c (gw_X9_told_X9_told_r1 _ (gw_g 12 rfl)) (gw_c (gw_X9_told_X9_told_r1 _ (gw_g 13 rfl)) gw_n)))) (by decide +kernel)) ggX9_told_X7_liveOf
set_option maxRecDepth 20000 in
theorem ggX9_told_X0_mostSold : GoodIn wsX9_told wsX0_mostSold := goodIn_sub (gw_c (gw_X9_told_X9_told_r2 _ (gw_g 2 rfl)) (gw_a (gw_a (gw_a (gw_c (gw_X9_told_X9_told_r2 _ (gw_g 3 rfl)) (gw_c (gw_X9_told_X9_told_r2 _ (gw_g 4 rfl)) (gw_c (gw_X9_told_X9_told_r2 _ (gw_g 5 rfl)) (gw_c (gw_X9_told_X9_told_r2 _ (gw_g 6 rfl)) (gw_c (gw_X9_told_X9_told_r2 _ (gw_g 7 rfl)) (gw_c (gw_X9_told_X9_told_r2 _ (gw_g 8 rfl)) (gw_c (gw_X9_told_X9_told_r2 _ (gw_g 9 rfl)) (gw_c (gw_X9_told_X9_told_r2 _ (gw_g 10 rfl)) (gw_c (gw_X9_told_X9_told_r2 _ (gw_g 11 rfl)) (gw_c (gw_X9_told_X9_told_r2 _ (gw_g 12 rfl)) (gw_c (gw_X9_told_X9_told_r1 _ (gw_g 7 rfl)) (gw_c (gw_X9_told_X9_told_r2 _ (gw_g 13 rfl)) (gw_c (gw_X9_told_X9_told_r1 _ (gw_g 9 rfl)) (gw_c (gw_X9_told_X9_told_r2 _ (gw_g 14 rfl)) (gw_c (gw_X9_told_X9_told_r2 _ (gw_g 15 rfl)) (gw_c (gw_X9_told_X9_told_r2 _ (gw_g 16 rfl)) (gw_c (gw_X9_told_X9_told_r2 _ (gw_g 17 rfl)) (gw_c (gw_X9_told_X9_told_r2 _ (gw_g 18 rfl)) (gw_c (gw_X9_told_X9_told_r2 _ (gw_g 19 rfl)) (gw_c (gw_X9_told_X9_told_r2 _ (gw_g 20 rfl)) (gw_c (gw_X9_told_X9_told_r2 _ (gw_g 21 rfl)) (gw_c (gw_X9_told_X9_told_r2 _ (gw_g 22 rfl)) gw_n)))))))))))))))))))))) gw_X9_told_X00) gw_X9_told_X40) gw_X9_told_X50)) (by decide +kernel)
set_option maxRecDepth 20000 in
theorem gX9_told_X0_mostSold : GoodIn wsX9_told (wsV RX9 187 RX0 yX0_mostSold wsX0_mostSold) := goodIn_app (goodIn_sub (gw_c (gw_X9_told_X9_told_r1 _ (gw_g 22 rfl)) (gw_c (gw_X9_told_X9_told_r1 _ (gw_g 23 rfl)) (gw_c (gw_X9_told_X9_told_r2 _ (gw_g 0 rfl)) (gw_c (gw_X9_told_X9_told_r2 _ (gw_g 1 rfl)) gw_n)))) (by decide +kernel)) ggX9_told_X0_mostSold
set_option maxRecDepth 20000 in
theorem ggX9_told_X0_legsSold : GoodIn wsX9_told wsX0_legsSold := goodIn_sub (gw_c (gw_X9_told_X9_told_r3 _ (gw_g 2 rfl)) (gw_a (gw_a (gw_a (gw_c (gw_X9_told_X9_told_r2 _ (gw_g 3 rfl)) (gw_c (gw_X9_told_X9_told_r2 _ (gw_g 4 rfl)) (gw_c (gw_X9_told_X9_told_r2 _ (gw_g 5 rfl)) (gw_c (gw_X9_told_X9_told_r2 _ (gw_g 10 rfl)) (gw_c (gw_X9_told_X9_told_r2 _ (gw_g 11 rfl)) (gw_c (gw_X9_told_X9_told_r2 _ (gw_g 12 rfl)) (gw_c (gw_X9_told_X9_told_r1 _ (gw_g 7 rfl)) (gw_c (gw_X9_told_X9_told_r2 _ (gw_g 13 rfl)) (gw_c (gw_X9_told_X9_told_r1 _ (gw_g 9 rfl)) (gw_c (gw_X9_told_X9_told_r2 _ (gw_g 14 rfl)) (gw_c (gw_X9_told_X9_told_r2 _ (gw_g 15 rfl)) (gw_c (gw_X9_told_X9_told_r2 _ (gw_g 16 rfl)) (gw_c (gw_X9_told_X9_told_r2 _ (gw_g 17 rfl)) (gw_c (gw_X9_told_X9_told_r2 _ (gw_g 18 rfl)) (gw_c (gw_X9_told_X9_told_r2 _ (gw_g 19 rfl)) (gw_c (gw_X9_told_X9_told_r2 _ (gw_g 20 rfl)) (gw_c (gw_X9_told_X9_told_r2 _ (gw_g 21 rfl)) (gw_c (gw_X9_told_X9_told_r2 _ (gw_g 22 rfl)) gw_n)))))))))))))))))) gw_X9_told_X00) gw_X9_told_X40) gw_X9_told_X50)) (by decide +kernel)
set_option maxRecDepth 20000 in
theorem gX9_told_X0_legsSold : GoodIn wsX9_told (wsV RX9 190 RX0 yX0_legsSold wsX0_legsSold) := goodIn_app (goodIn_sub (gw_c (gw_X9_told_X9_told_r2 _ (gw_g 23 rfl)) (gw_c (gw_X9_told_X9_told_r3 _ (gw_g 0 rfl)) (gw_c (gw_X9_told_X9_told_r3 _ (gw_g 1 rfl)) (gw_c (gw_X9_told_X9_told_r2 _ (gw_g 1 rfl)) gw_n)))) (by decide +kernel)) ggX9_told_X0_legsSold
set_option maxRecDepth 20000 in
theorem ggX9_told_X0_hasLeft : GoodIn wsX9_told wsX0_hasLeft := goodIn_sub (gw_c (gw_X9_told_X9_told_r3 _ (gw_g 6 rfl)) (gw_a (gw_a (gw_c (gw_X9_told_X9_told_r3 _ (gw_g 7 rfl)) (gw_c (gw_X9_told_X9_told_r2 _ (gw_g 3 rfl)) (gw_c (gw_X9_told_X9_told_r3 _ (gw_g 8 rfl)) (gw_c (gw_X9_told_X9_told_r3 _ (gw_g 9 rfl)) (gw_c (gw_X9_told_X9_told_r3 _ (gw_g 10 rfl)) (gw_c (gw_X9_told_X9_told_r3 _ (gw_g 11 rfl)) (gw_c (gw_X9_told_X9_told_r3 _ (gw_g 12 rfl)) (gw_c (gw_X9_told_X9_told_r3 _ (gw_g 13 rfl)) gw_n)))))))) gw_X9_told_X00) gw_X9_told_X40)) (by decide +kernel)
set_option maxRecDepth 20000 in
theorem gX9_told_X0_hasLeft : GoodIn wsX9_told (wsV RX9 86 RX0 yX0_hasLeft wsX0_hasLeft) := goodIn_app (goodIn_sub (gw_c (gw_X9_told_X9_told_r3 _ (gw_g 3 rfl)) (gw_c (gw_X9_told_X9_told_r3 _ (gw_g 4 rfl)) (gw_c (gw_X9_told_X9_told_r3 _ (gw_g 5 rfl)) (gw_c (gw_X9_told_X9_told_r2 _ (gw_g 1 rfl)) gw_n)))) (by decide +kernel)) ggX9_told_X0_hasLeft
set_option maxRecDepth 20000 in
theorem ggX9_told_X9_ownerOrNone : GoodIn wsX9_told wsX9_ownerOrNone := goodIn_sub (gw_c (gw_X9_told_X9_told_r3 _ (gw_g 18 rfl)) (gw_a (gw_a (gw_a (gw_c (gw_X9_told_X9_told_r1 _ (gw_g 0 rfl)) (gw_c (gw_X9_told_X9_told_r1 _ (gw_g 1 rfl)) (gw_c (gw_X9_told_X9_told_r3 _ (gw_g 19 rfl)) (gw_c (gw_X9_told_X9_told_r3 _ (gw_g 20 rfl)) (gw_c (gw_X9_told_X9_told_r3 _ (gw_g 21 rfl)) (gw_c (gw_X9_told_X9_told_r1 _ (gw_g 7 rfl)) (gw_c (gw_X9_told_X9_told_r3 _ (gw_g 22 rfl)) (gw_c (gw_X9_told_X9_told_r1 _ (gw_g 9 rfl)) (gw_c (gw_X9_told_X9_told_r3 _ (gw_g 23 rfl)) (gw_c (gw_X9_told_X9_told_r1 _ (gw_g 5 rfl)) (gw_c (gw_X9_told_X9_told_r1 _ (gw_g 6 rfl)) (gw_c (gw_X9_told_X9_told_r1 _ (gw_g 8 rfl)) (gw_c (gw_X9_told_X9_told_r4 _ (gw_g 0 rfl)) (gw_c (gw_X9_told_X9_told_r4 _ (gw_g 1 rfl)) (gw_c (gw_X9_told_X9_told_r4 _ (gw_g 2 rfl)) (gw_c (gw_X9_told_X9_told_r4 _ (gw_g 3 rfl)) (gw_c (gw_X9_told_X9_told_r4 _ (gw_g 4 rfl)) gw_n))))))))))))))))) gw_X9_told_X90) gw_X9_told_X00) gw_X9_told_X50)) (by decide +kernel)
set_option maxRecDepth 20000 in
theorem gX9_told_X9_ownerOrNone : GoodIn wsX9_told (wsV RX9 193 RX9 yX9_ownerOrNone wsX9_ownerOrNone) := goodIn_app (goodIn_sub (gw_c (gw_X9_told_X9_told_r3 _ (gw_g 14 rfl)) (gw_c (gw_X9_told_X9_told_r3 _ (gw_g 15 rfl)) (gw_c (gw_X9_told_X9_told_r3 _ (gw_g 16 rfl)) (gw_c (gw_X9_told_X9_told_r3 _ (gw_g 17 rfl)) gw_n)))) (by decide +kernel)) ggX9_told_X9_ownerOrNone
theorem dX9_told_0 : decode cX9_told 0 = .ok (.aload_n 0, 1) := by decide +kernel
theorem dX9_told_1 : decode cX9_told 1 = .ok (.getfield 10, 3) := by decide +kernel
theorem dX9_told_4 : decode cX9_told 4 = .ok (.getfield 34, 3) := by decide +kernel
theorem dX9_told_7 : decode cX9_told 7 = .ok (.iload_n 1, 1) := by decide +kernel
theorem dX9_told_8 : decode cX9_told 8 = .ok (.invokevirtual 83, 3) := by decide +kernel
theorem dX9_told_11 : decode cX9_told 11 = .ok (.ifCond .ne 5, 3) := by decide +kernel
theorem dX9_told_14 : decode cX9_told 14 = .ok (.iconst (-1), 1) := by decide +kernel
theorem dX9_told_15 : decode cX9_told 15 = .ok (.ireturn, 1) := by decide +kernel
theorem dX9_told_16 : decode cX9_told 16 = .ok (.iload_n 2, 1) := by decide +kernel
theorem dX9_told_17 : decode cX9_told 17 = .ok (.tableswitch 100 0 5 #[39, 52, 64, 73, 52, 82], 39) := by decide +kernel
theorem dX9_told_56 : decode cX9_told 56 = .ok (.aload_n 0, 1) := by decide +kernel
theorem dX9_told_57 : decode cX9_told 57 = .ok (.getfield 10, 3) := by decide +kernel
theorem dX9_told_60 : decode cX9_told 60 = .ok (.getfield 34, 3) := by decide +kernel
theorem dX9_told_63 : decode cX9_told 63 = .ok (.getfield 183, 3) := by decide +kernel
theorem dX9_told_66 : decode cX9_told 66 = .ok (.iload_n 1, 1) := by decide +kernel
theorem dX9_told_67 : decode cX9_told 67 = .ok (.iaload, 1) := by decide +kernel
theorem dX9_told_68 : decode cX9_told 68 = .ok (.ireturn, 1) := by decide +kernel
theorem dX9_told_69 : decode cX9_told 69 = .ok (.aload_n 0, 1) := by decide +kernel
theorem dX9_told_70 : decode cX9_told 70 = .ok (.getfield 10, 3) := by decide +kernel
theorem dX9_told_73 : decode cX9_told 73 = .ok (.getfield 102, 3) := by decide +kernel
theorem dX9_told_76 : decode cX9_told 76 = .ok (.iload_n 1, 1) := by decide +kernel
theorem dX9_told_77 : decode cX9_told 77 = .ok (.invokevirtual 184, 3) := by decide +kernel
theorem dX9_told_80 : decode cX9_told 80 = .ok (.ireturn, 1) := by decide +kernel
theorem dX9_told_81 : decode cX9_told 81 = .ok (.aload_n 0, 1) := by decide +kernel
theorem dX9_told_82 : decode cX9_told 82 = .ok (.getfield 10, 3) := by decide +kernel
theorem dX9_told_85 : decode cX9_told 85 = .ok (.iload_n 1, 1) := by decide +kernel
theorem dX9_told_86 : decode cX9_told 86 = .ok (.invokevirtual 187, 3) := by decide +kernel
theorem dX9_told_89 : decode cX9_told 89 = .ok (.ireturn, 1) := by decide +kernel
theorem dX9_told_90 : decode cX9_told 90 = .ok (.aload_n 0, 1) := by decide +kernel
theorem dX9_told_91 : decode cX9_told 91 = .ok (.getfield 10, 3) := by decide +kernel
theorem dX9_told_94 : decode cX9_told 94 = .ok (.iload_n 1, 1) := by decide +kernel
theorem dX9_told_95 : decode cX9_told 95 = .ok (.invokevirtual 190, 3) := by decide +kernel
theorem dX9_told_98 : decode cX9_told 98 = .ok (.ireturn, 1) := by decide +kernel
theorem dX9_told_99 : decode cX9_told 99 = .ok (.aload_n 0, 1) := by decide +kernel
theorem dX9_told_100 : decode cX9_told 100 = .ok (.getfield 10, 3) := by decide +kernel
theorem dX9_told_103 : decode cX9_told 103 = .ok (.iload_n 1, 1) := by decide +kernel
theorem dX9_told_104 : decode cX9_told 104 = .ok (.iconst 0, 1) := by decide +kernel
theorem dX9_told_105 : decode cX9_told 105 = .ok (.invokevirtual 86, 3) := by decide +kernel
theorem dX9_told_108 : decode cX9_told 108 = .ok (.ifCond .eq 7, 3) := by decide +kernel
theorem dX9_told_111 : decode cX9_told 111 = .ok (.iconst 1, 1) := by decide +kernel
theorem dX9_told_112 : decode cX9_told 112 = .ok (.goto 4, 3) := by decide +kernel
theorem dX9_told_115 : decode cX9_told 115 = .ok (.iconst 0, 1) := by decide +kernel
theorem dX9_told_116 : decode cX9_told 116 = .ok (.ireturn, 1) := by decide +kernel
theorem dX9_told_117 : decode cX9_told 117 = .ok (.aload_n 0, 1) := by decide +kernel
theorem dX9_told_118 : decode cX9_told 118 = .ok (.iload_n 1, 1) := by decide +kernel
theorem dX9_told_119 : decode cX9_told 119 = .ok (.iload_n 2, 1) := by decide +kernel
theorem dX9_told_120 : decode cX9_told 120 = .ok (.invokevirtual 193, 3) := by decide +kernel
theorem dX9_told_123 : decode cX9_told 123 = .ok (.ireturn, 1) := by decide +kernel
set_option maxRecDepth 20000 in
theorem ggX9_feed_X6_append : GoodIn wsX9_feed wsX6_append := goodIn_sub (gw_c (gw_t (gw_l (gw_l (gw_g 6 rfl)))) (gw_a (gw_c (gw_t (gw_l (gw_l (gw_g 7 rfl)))) (gw_c (gw_t (gw_l (gw_l (gw_g 8 rfl)))) gw_n)) gw_X9_feed_X60)) (by decide +kernel)
set_option maxRecDepth 20000 in
theorem gX9_feed_X6_append : GoodIn wsX9_feed (wsV RX9 197 RX6 yX6_append wsX6_append) := goodIn_app (goodIn_sub (gw_c (gw_t (gw_l (gw_l (gw_g 2 rfl)))) (gw_c (gw_t (gw_l (gw_l (gw_g 3 rfl)))) (gw_c (gw_t (gw_l (gw_l (gw_g 4 rfl)))) (gw_c (gw_t (gw_l (gw_l (gw_g 5 rfl)))) gw_n)))) (by decide +kernel)) ggX9_feed_X6_append
theorem dX9_feed_0 : decode cX9_feed 0 = .ok (.aload_n 0, 1) := by decide +kernel
theorem dX9_feed_1 : decode cX9_feed 1 = .ok (.getfield 23, 3) := by decide +kernel
theorem dX9_feed_4 : decode cX9_feed 4 = .ok (.getfield 196, 3) := by decide +kernel
theorem dX9_feed_7 : decode cX9_feed 7 = .ok (.bipush 20, 2) := by decide +kernel
theorem dX9_feed_9 : decode cX9_feed 9 = .ok (.iadd, 1) := by decide +kernel
theorem dX9_feed_10 : decode cX9_feed 10 = .ok (.sipush 400, 3) := by decide +kernel
theorem dX9_feed_13 : decode cX9_feed 13 = .ok (.if_icmp .le 5, 3) := by decide +kernel
theorem dX9_feed_16 : decode cX9_feed 16 = .ok (.iconst (-1), 1) := by decide +kernel
theorem dX9_feed_17 : decode cX9_feed 17 = .ok (.ireturn, 1) := by decide +kernel
theorem dX9_feed_18 : decode cX9_feed 18 = .ok (.aload_n 0, 1) := by decide +kernel
theorem dX9_feed_19 : decode cX9_feed 19 = .ok (.getfield 23, 3) := by decide +kernel
theorem dX9_feed_22 : decode cX9_feed 22 = .ok (.iload_n 1, 1) := by decide +kernel
theorem dX9_feed_23 : decode cX9_feed 23 = .ok (.invokevirtual 197, 3) := by decide +kernel
theorem dX9_feed_26 : decode cX9_feed 26 = .ok (.aload_n 0, 1) := by decide +kernel
theorem dX9_feed_27 : decode cX9_feed 27 = .ok (.getfield 23, 3) := by decide +kernel
theorem dX9_feed_30 : decode cX9_feed 30 = .ok (.iload_n 2, 1) := by decide +kernel
theorem dX9_feed_31 : decode cX9_feed 31 = .ok (.invokevirtual 197, 3) := by decide +kernel
theorem dX9_feed_34 : decode cX9_feed 34 = .ok (.aload_n 0, 1) := by decide +kernel
theorem dX9_feed_35 : decode cX9_feed 35 = .ok (.getfield 23, 3) := by decide +kernel
theorem dX9_feed_38 : decode cX9_feed 38 = .ok (.iload_n 3, 1) := by decide +kernel
theorem dX9_feed_39 : decode cX9_feed 39 = .ok (.invokevirtual 197, 3) := by decide +kernel
theorem dX9_feed_42 : decode cX9_feed 42 = .ok (.aload_n 0, 1) := by decide +kernel
theorem dX9_feed_43 : decode cX9_feed 43 = .ok (.getfield 23, 3) := by decide +kernel
theorem dX9_feed_46 : decode cX9_feed 46 = .ok (.iload 4, 2) := by decide +kernel
theorem dX9_feed_48 : decode cX9_feed 48 = .ok (.invokevirtual 197, 3) := by decide +kernel
theorem dX9_feed_51 : decode cX9_feed 51 = .ok (.aload_n 0, 1) := by decide +kernel
theorem dX9_feed_52 : decode cX9_feed 52 = .ok (.getfield 23, 3) := by decide +kernel
theorem dX9_feed_55 : decode cX9_feed 55 = .ok (.iload 5, 2) := by decide +kernel
theorem dX9_feed_57 : decode cX9_feed 57 = .ok (.invokevirtual 197, 3) := by decide +kernel
theorem dX9_feed_60 : decode cX9_feed 60 = .ok (.aload_n 0, 1) := by decide +kernel
theorem dX9_feed_61 : decode cX9_feed 61 = .ok (.getfield 23, 3) := by decide +kernel
theorem dX9_feed_64 : decode cX9_feed 64 = .ok (.getfield 196, 3) := by decide +kernel
theorem dX9_feed_67 : decode cX9_feed 67 = .ok (.ireturn, 1) := by decide +kernel
theorem dX9_end_0 : decode cX9_end 0 = .ok (.iload_n 1, 1) := by decide +kernel
theorem dX9_end_1 : decode cX9_end 1 = .ok (.ifCond .lt 14, 3) := by decide +kernel
theorem dX9_end_4 : decode cX9_end 4 = .ok (.iload_n 1, 1) := by decide +kernel
theorem dX9_end_5 : decode cX9_end 5 = .ok (.aload_n 0, 1) := by decide +kernel
theorem dX9_end_6 : decode cX9_end 6 = .ok (.getfield 23, 3) := by decide +kernel
theorem dX9_end_9 : decode cX9_end 9 = .ok (.getfield 196, 3) := by decide +kernel
theorem dX9_end_12 : decode cX9_end 12 = .ok (.if_icmp .le 5, 3) := by decide +kernel
theorem dX9_end_15 : decode cX9_end 15 = .ok (.iconst (-1), 1) := by decide +kernel
theorem dX9_end_16 : decode cX9_end 16 = .ok (.ireturn, 1) := by decide +kernel
theorem dX9_end_17 : decode cX9_end 17 = .ok (.aload_n 0, 1) := by decide +kernel
theorem dX9_end_18 : decode cX9_end 18 = .ok (.getfield 23, 3) := by decide +kernel
theorem dX9_end_21 : decode cX9_end 21 = .ok (.iload_n 1, 1) := by decide +kernel
theorem dX9_end_22 : decode cX9_end 22 = .ok (.putfield 196, 3) := by decide +kernel
theorem dX9_end_25 : decode cX9_end 25 = .ok (.iload_n 1, 1) := by decide +kernel
theorem dX9_end_26 : decode cX9_end 26 = .ok (.ireturn, 1) := by decide +kernel
set_option maxRecDepth 20000 in
theorem ggX9_contract_X3_read : GoodIn wsX9_contract wsX3_read := goodIn_sub (gw_c (gw_X9_contract_X9_contract_r1 _ (gw_g 12 rfl)) (gw_a (gw_a (gw_a (gw_a (gw_a (gw_c (gw_X9_contract_X9_contract_r1 _ (gw_g 13 rfl)) (gw_c (gw_X9_contract_X9_contract_r1 _ (gw_g 14 rfl)) (gw_c (gw_X9_contract_X9_contract_r1 _ (gw_g 15 rfl)) (gw_c (gw_X9_contract_X9_contract_r1 _ (gw_g 16 rfl)) (gw_c (gw_X9_contract_X9_contract_r1 _ (gw_g 17 rfl)) (gw_c (gw_X9_contract_X9_contract_r1 _ (gw_g 18 rfl)) (gw_c (gw_X9_contract_X9_contract_r1 _ (gw_g 19 rfl)) (gw_c (gw_X9_contract_X9_contract_r1 _ (gw_g 20 rfl)) (gw_c (gw_X9_contract_X9_contract_r1 _ (gw_g 21 rfl)) (gw_c (gw_X9_contract_X9_contract_r1 _ (gw_g 22 rfl)) (gw_c (gw_X9_contract_X9_contract_r1 _ (gw_g 23 rfl)) (gw_c (gw_X9_contract_X9_contract_r2 _ (gw_g 0 rfl)) (gw_c (gw_X9_contract_X9_contract_r2 _ (gw_g 1 rfl)) (gw_c (gw_X9_contract_X9_contract_r2 _ (gw_g 2 rfl)) (gw_c (gw_X9_contract_X9_contract_r2 _ (gw_g 3 rfl)) (gw_c (gw_X9_contract_X9_contract_r2 _ (gw_g 4 rfl)) (gw_c (gw_X9_contract_X9_contract_r2 _ (gw_g 5 rfl)) (gw_c (gw_X9_contract_X9_contract_r2 _ (gw_g 6 rfl)) (gw_c (gw_X9_contract_X9_contract_r2 _ (gw_g 7 rfl)) (gw_c (gw_X9_contract_X9_contract_r2 _ (gw_g 8 rfl)) (gw_c (gw_X9_contract_X9_contract_r2 _ (gw_g 9 rfl)) (gw_c (gw_X9_contract_X9_contract_r2 _ (gw_g 10 rfl)) (gw_c (gw_X9_contract_X9_contract_r2 _ (gw_g 11 rfl)) (gw_c (gw_X9_contract_X9_contract_r2 _ (gw_g 12 rfl)) gw_n)))))))))))))))))))))))) (gw_a (gw_c (gw_X9_contract_X9_contract_r2 _ (gw_g 13 rfl)) (gw_c (gw_X9_contract_X9_contract_r2 _ (gw_g 14 rfl)) (gw_c (gw_X9_contract_X9_contract_r2 _ (gw_g 15 rfl)) (gw_c (gw_X9_contract_X9_contract_r2 _ (gw_g 16 rfl)) (gw_c (gw_X9_contract_X9_contract_r2 _ (gw_g 17 rfl)) (gw_c (gw_X9_contract_X9_contract_r2 _ (gw_g 18 rfl)) (gw_c (gw_X9_contract_X9_contract_r2 _ (gw_g 19 rfl)) (gw_c (gw_X9_contract_X9_contract_r2 _ (gw_g 20 rfl)) (gw_c (gw_X9_contract_X9_contract_r2 _ (gw_g 21 rfl)) (gw_c (gw_X9_contract_X9_contract_r2 _ (gw_g 22 rfl)) (gw_c (gw_X9_contract_X9_contract_r2 _ (gw_g 23 rfl)) (gw_c (gw_X9_contract_X9_contract_r3 _ (gw_g 0 rfl)) (gw_c (gw_X9_contract_X9_contract_r3 _ (gw_g 1 rfl)) (gw_c (gw_X9_contract_X9_contract_r3 _ (gw_g 2 rfl)) (gw_c (gw_X9_contract_X9_contract_r3 _ (gw_g 3 rfl)) (gw_c (gw_X9_contract_X9_contract_r3 _ (gw_g 4 rfl)) (gw_c (gw_X9_contract_X9_contract_r3 _ (gw_g 5 rfl)) (gw_c (gw_X9_contract_X9_contract_r3 _ (gw_g 6 rfl)) (gw_c (gw_X9_contract_X9_contract_r3 _ (gw_g 7 rfl)) (gw_c (gw_X9_contract_X9_contract_r3 _ (gw_g 8 rfl)) (gw_c (gw_X9_contract_X9_contract_r3 _ (gw_g 9 rfl)) (gw_c (gw_X9_contract_X9_contract_r3 _ (gw_g 10 rfl)) (gw_c (gw_X9_contract_X9_contract_r3 _ (gw_g 11 rfl)) (gw_c (gw_X9_contract_X9_contract_r3 _ (gw_g 12 rfl)) gw_n)))))))))))))))))))))))) (gw_a (gw_c (gw_X9_contract_X9_contract_r3 _ (gw_g 13 rfl)) (gw_c (gw_X9_contract_X9_contract_r3 _ (gw_g 14 rfl)) (gw_c (gw_X9_contract_X9_contract_r3 _ (gw_g 15 rfl)) (gw_c (gw_X9_contract_X9_contract_r3 _ (gw_g 16 rfl)) (gw_c (gw_X9_contract_X9_contract_r3 _ (gw_g 17 rfl)) (gw_c (gw_X9_contract_X9_contract_r3 _ (gw_g 18 rfl)) (gw_c (gw_X9_contract_X9_contract_r3 _ (gw_g 19 rfl)) (gw_c (gw_X9_contract_X9_contract_r3 _ (gw_g 20 rfl)) (gw_c (gw_X9_contract_X9_contract_r3 _ (gw_g 21 rfl)) (gw_c (gw_X9_contract_X9_contract_r3 _ (gw_g 22 rfl)) (gw_c (gw_X9_contract_X9_contract_r3 _ (gw_g 23 rfl)) (gw_c (gw_X9_contract_X9_contract_r4 _ (gw_g 0 rfl)) (gw_c (gw_X9_contract_X9_contract_r4 _ (gw_g 1 rfl)) (gw_c (gw_X9_contract_X9_contract_r4 _ (gw_g 2 rfl)) (gw_c (gw_X9_contract_X9_contract_r4 _ (gw_g 3 rfl)) (gw_c (gw_X9_contract_X9_contract_r4 _ (gw_g 4 rfl)) (gw_c (gw_X9_contract_X9_contract_r4 _ (gw_g 5 rfl)) (gw_c (gw_X9_contract_X9_contract_r4 _ (gw_g 6 rfl)) (gw_c (gw_X9_contract_X9_contract_r4 _ (gw_g 7 rfl)) (gw_c (gw_X9_contract_X9_contract_r4 _ (gw_g 8 rfl)) (gw_c (gw_X9_contract_X9_contract_r4 _ (gw_g 9 rfl)) (gw_c (gw_X9_contract_X9_contract_r4 _ (gw_g 10 rfl)) (gw_c (gw_X9_contract_X9_contract_r4 _ (gw_g 11 rfl)) (gw_c (gw_X9_contract_X9_contract_r4 _ (gw_g 12 rfl)) gw_n)))))))))))))))))))))))) (gw_a (gw_c (gw_X9_contract_X9_contract_r4 _ (gw_g 13 rfl)) (gw_c (gw_X9_contract_X9_contract_r4 _ (gw_g 14 rfl)) (gw_c (gw_X9_contract_X9_contract_r4 _ (gw_g 15 rfl)) (gw_c (gw_X9_contract_X9_contract_r4 _ (gw_g 16 rfl)) (gw_c (gw_X9_contract_X9_contract_r4 _ (gw_g 17 rfl)) (gw_c (gw_X9_contract_X9_contract_r4 _ (gw_g 18 rfl)) (gw_c (gw_X9_contract_X9_contract_r4 _ (gw_g 19 rfl)) (gw_c (gw_X9_contract_X9_contract_r4 _ (gw_g 20 rfl)) (gw_c (gw_X9_contract_X9_contract_r4 _ (gw_g 21 rfl)) (gw_c (gw_X9_contract_X9_contract_r4 _ (gw_g 22 rfl)) (gw_c (gw_X9_contract_X9_contract_r4 _ (gw_g 23 rfl)) (gw_c (gw_X9_contract_X9_contract_r5 _ (gw_g 0 rfl)) (gw_c (gw_X9_contract_X9_contract_r5 _ (gw_g 1 rfl)) (gw_c (gw_X9_contract_X9_contract_r5 _ (gw_g 2 rfl)) (gw_c (gw_X9_contract_X9_contract_r5 _ (gw_g 3 rfl)) (gw_c (gw_X9_contract_X9_contract_r5 _ (gw_g 4 rfl)) (gw_c (gw_X9_contract_X9_contract_r5 _ (gw_g 5 rfl)) (gw_c (gw_X9_contract_X9_contract_r5 _ (gw_g 6 rfl)) (gw_c (gw_X9_contract_X9_contract_r5 _ (gw_g 7 rfl)) (gw_c (gw_X9_contract_X9_contract_r5 _ (gw_g 8 rfl)) (gw_c (gw_X9_contract_X9_contract_r5 _ (gw_g 9 rfl)) (gw_c (gw_X9_contract_X9_contract_r5 _ (gw_g 10 rfl)) (gw_c (gw_X9_contract_X9_contract_r5 _ (gw_g 11 rfl)) (gw_c (gw_X9_contract_X9_contract_r5 _ (gw_g 12 rfl)) gw_n)))))))))))))))))))))))) (gw_a (gw_c (gw_X9_contract_X9_contract_r5 _ (gw_g 13 rfl)) (gw_c (gw_X9_contract_X9_contract_r5 _ (gw_g 14 rfl)) (gw_c (gw_X9_contract_X9_contract_r5 _ (gw_g 15 rfl)) (gw_c (gw_X9_contract_X9_contract_r5 _ (gw_g 16 rfl)) (gw_c (gw_X9_contract_X9_contract_r5 _ (gw_g 17 rfl)) (gw_c (gw_X9_contract_X9_contract_r5 _ (gw_g 18 rfl)) (gw_c (gw_X9_contract_X9_contract_r5 _ (gw_g 19 rfl)) (gw_c (gw_X9_contract_X9_contract_r5 _ (gw_g 20 rfl)) (gw_c (gw_X9_contract_X9_contract_r5 _ (gw_g 21 rfl)) (gw_c (gw_X9_contract_X9_contract_r5 _ (gw_g 22 rfl)) (gw_c (gw_X9_contract_X9_contract_r5 _ (gw_g 23 rfl)) (gw_c (gw_X9_contract_X9_contract_r6 _ (gw_g 0 rfl)) (gw_c (gw_X9_contract_X9_contract_r6 _ (gw_g 1 rfl)) (gw_c (gw_X9_contract_X9_contract_r6 _ (gw_g 2 rfl)) (gw_c (gw_X9_contract_X9_contract_r6 _ (gw_g 3 rfl)) (gw_c (gw_X9_contract_X9_contract_r6 _ (gw_g 4 rfl)) (gw_c (gw_X9_contract_X9_contract_r6 _ (gw_g 5 rfl)) (gw_c (gw_X9_contract_X9_contract_r1 _ (gw_g 11 rfl)) (gw_c (gw_X9_contract_X9_contract_r6 _ (gw_g 6 rfl)) (gw_c (gw_X9_contract_X9_contract_r6 _ (gw_g 7 rfl)) (gw_c (gw_X9_contract_X9_contract_r6 _ (gw_g 8 rfl)) (gw_c (gw_X9_contract_X9_contract_r6 _ (gw_g 9 rfl)) (gw_c (gw_X9_contract_X9_contract_r6 _ (gw_g 10 rfl)) (gw_c (gw_X9_contract_X9_contract_r6 _ (gw_g 11 rfl)) gw_n)))))))))))))))))))))))) (gw_a (gw_c (gw_X9_contract_X9_contract_r6 _ (gw_g 12 rfl)) (gw_c (gw_X9_contract_X9_contract_r6 _ (gw_g 13 rfl)) (gw_c (gw_X9_contract_X9_contract_r6 _ (gw_g 14 rfl)) (gw_c (gw_X9_contract_X9_contract_r6 _ (gw_g 15 rfl)) (gw_c (gw_X9_contract_X9_contract_r6 _ (gw_g 16 rfl)) (gw_c (gw_X9_contract_X9_contract_r6 _ (gw_g 17 rfl)) (gw_c (gw_X9_contract_X9_contract_r6 _ (gw_g 18 rfl)) (gw_c (gw_X9_contract_X9_contract_r6 _ (gw_g 19 rfl)) (gw_c (gw_X9_contract_X9_contract_r6 _ (gw_g 20 rfl)) (gw_c (gw_X9_contract_X9_contract_r6 _ (gw_g 21 rfl)) (gw_c (gw_X9_contract_X9_contract_r6 _ (gw_g 22 rfl)) (gw_c (gw_X9_contract_X9_contract_r6 _ (gw_g 23 rfl)) (gw_c (gw_X9_contract_X9_contract_r7 _ (gw_g 0 rfl)) (gw_c (gw_X9_contract_X9_contract_r7 _ (gw_g 1 rfl)) (gw_c (gw_X9_contract_X9_contract_r7 _ (gw_g 2 rfl)) (gw_c (gw_X9_contract_X9_contract_r7 _ (gw_g 3 rfl)) (gw_c (gw_X9_contract_X9_contract_r7 _ (gw_g 4 rfl)) (gw_c (gw_X9_contract_X9_contract_r7 _ (gw_g 5 rfl)) (gw_c (gw_X9_contract_X9_contract_r7 _ (gw_g 6 rfl)) (gw_c (gw_X9_contract_X9_contract_r7 _ (gw_g 7 rfl)) (gw_c (gw_X9_contract_X9_contract_r7 _ (gw_g 8 rfl)) (gw_c (gw_X9_contract_X9_contract_r7 _ (gw_g 9 rfl)) (gw_c (gw_X9_contract_X9_contract_r7 _ (gw_g 10 rfl)) (gw_c (gw_X9_contract_X9_contract_r7 _ (gw_g 11 rfl)) gw_n)))))))))))))))))))))))) (gw_c (gw_X9_contract_X9_contract_r7 _ (gw_g 12 rfl)) (gw_c (gw_X9_contract_X9_contract_r7 _ (gw_g 13 rfl)) (gw_c (gw_X9_contract_X9_contract_r7 _ (gw_g 14 rfl)) (gw_c (gw_X9_contract_X9_contract_r7 _ (gw_g 15 rfl)) (gw_c (gw_X9_contract_X9_contract_r7 _ (gw_g 16 rfl)) (gw_c (gw_X9_contract_X9_contract_r7 _ (gw_g 17 rfl)) (gw_c (gw_X9_contract_X9_contract_r7 _ (gw_g 18 rfl)) (gw_c (gw_X9_contract_X9_contract_r7 _ (gw_g 19 rfl)) (gw_c (gw_X9_contract_X9_contract_r7 _ (gw_g 20 rfl)) (gw_c (gw_X9_contract_X9_contract_r7 _ (gw_g 21 rfl)) (gw_c (gw_X9_contract_X9_contract_r7 _ (gw_g 22 rfl)) (gw_c (gw_X9_contract_X9_contract_r7 _ (gw_g 23 rfl)) (gw_c (gw_X9_contract_X9_contract_r8 _ (gw_g 0 rfl)) (gw_c (gw_X9_contract_X9_contract_r8 _ (gw_g 1 rfl)) (gw_c (gw_X9_contract_X9_contract_r8 _ (gw_g 2 rfl)) (gw_c (gw_X9_contract_X9_contract_r8 _ (gw_g 3 rfl)) (gw_c (gw_X9_contract_X9_contract_r8 _ (gw_g 4 rfl)) (gw_c (gw_X9_contract_X9_contract_r8 _ (gw_g 5 rfl)) (gw_c (gw_X9_contract_X9_contract_r8 _ (gw_g 6 rfl)) (gw_c (gw_X9_contract_X9_contract_r8 _ (gw_g 7 rfl)) (gw_c (gw_X9_contract_X9_contract_r8 _ (gw_g 8 rfl)) gw_n))))))))))))))))))))))))))) gw_X9_contract_X30) gw_X9_contract_X20) gw_X9_contract_X80) gw_X9_contract_X60)) (by decide +kernel)
set_option maxRecDepth 20000 in
theorem gX9_contract_X3_read : GoodIn wsX9_contract (wsV RX9 200 RX3 yX3_read wsX3_read) := goodIn_app (goodIn_sub (gw_c (gw_X9_contract_X9_contract_r1 _ (gw_g 8 rfl)) (gw_c (gw_X9_contract_X9_contract_r1 _ (gw_g 9 rfl)) (gw_c (gw_X9_contract_X9_contract_r1 _ (gw_g 10 rfl)) (gw_c (gw_X9_contract_X9_contract_r1 _ (gw_g 11 rfl)) gw_n)))) (by decide +kernel)) ggX9_contract_X3_read
set_option maxRecDepth 20000 in
theorem ggX9_contract_X2_copyFrom : GoodIn wsX9_contract wsX2_copyFrom := goodIn_sub (gw_c (gw_X9_contract_X9_contract_r8 _ (gw_g 12 rfl)) (gw_a (gw_c (gw_X9_contract_X9_contract_r2 _ (gw_g 0 rfl)) (gw_c (gw_X9_contract_X9_contract_r8 _ (gw_g 7 rfl)) (gw_c (gw_X9_contract_X9_contract_r8 _ (gw_g 13 rfl)) (gw_c (gw_X9_contract_X9_contract_r8 _ (gw_g 14 rfl)) (gw_c (gw_X9_contract_X9_contract_r8 _ (gw_g 15 rfl)) (gw_c (gw_X9_contract_X9_contract_r8 _ (gw_g 16 rfl)) (gw_c (gw_X9_contract_X9_contract_r8 _ (gw_g 8 rfl)) (gw_c (gw_X9_contract_X9_contract_r2 _ (gw_g 1 rfl)) (gw_c (gw_X9_contract_X9_contract_r7 _ (gw_g 19 rfl)) (gw_c (gw_X9_contract_X9_contract_r7 _ (gw_g 20 rfl)) (gw_c (gw_X9_contract_X9_contract_r7 _ (gw_g 21 rfl)) (gw_c (gw_X9_contract_X9_contract_r7 _ (gw_g 22 rfl)) gw_n)))))))))))) gw_X9_contract_X20)) (by decide +kernel)
set_option maxRecDepth 20000 in
theorem gX9_contract_X2_copyFrom : GoodIn wsX9_contract (wsV RX9 214 RX2 yX2_copyFrom wsX2_copyFrom) := goodIn_app (goodIn_sub (gw_c (gw_X9_contract_X9_contract_r8 _ (gw_g 9 rfl)) (gw_c (gw_X9_contract_X9_contract_r8 _ (gw_g 10 rfl)) (gw_c (gw_X9_contract_X9_contract_r8 _ (gw_g 11 rfl)) (gw_c (gw_X9_contract_X9_contract_r1 _ (gw_g 22 rfl)) gw_n)))) (by decide +kernel)) ggX9_contract_X2_copyFrom
theorem dX9_contract_0 : decode cX9_contract 0 = .ok (.aload_n 0, 1) := by decide +kernel
theorem dX9_contract_1 : decode cX9_contract 1 = .ok (.getfield 30, 3) := by decide +kernel
theorem dX9_contract_4 : decode cX9_contract 4 = .ok (.aload_n 0, 1) := by decide +kernel
theorem dX9_contract_5 : decode cX9_contract 5 = .ok (.getfield 23, 3) := by decide +kernel
theorem dX9_contract_8 : decode cX9_contract 8 = .ok (.invokevirtual 200, 3) := by decide +kernel
theorem dX9_contract_11 : decode cX9_contract 11 = .ok (.aload_n 0, 1) := by decide +kernel
theorem dX9_contract_12 : decode cX9_contract 12 = .ok (.getfield 23, 3) := by decide +kernel
theorem dX9_contract_15 : decode cX9_contract 15 = .ok (.iconst 0, 1) := by decide +kernel
theorem dX9_contract_16 : decode cX9_contract 16 = .ok (.putfield 196, 3) := by decide +kernel
theorem dX9_contract_19 : decode cX9_contract 19 = .ok (.aload_n 0, 1) := by decide +kernel
theorem dX9_contract_20 : decode cX9_contract 20 = .ok (.getfield 30, 3) := by decide +kernel
theorem dX9_contract_23 : decode cX9_contract 23 = .ok (.getfield 204, 3) := by decide +kernel
theorem dX9_contract_26 : decode cX9_contract 26 = .ok (.ifCond .eq 5, 3) := by decide +kernel
theorem dX9_contract_29 : decode cX9_contract 29 = .ok (.iconst (-1), 1) := by decide +kernel
theorem dX9_contract_30 : decode cX9_contract 30 = .ok (.ireturn, 1) := by decide +kernel
theorem dX9_contract_31 : decode cX9_contract 31 = .ok (.aload_n 0, 1) := by decide +kernel
theorem dX9_contract_32 : decode cX9_contract 32 = .ok (.getfield 10, 3) := by decide +kernel
theorem dX9_contract_35 : decode cX9_contract 35 = .ok (.getfield 207, 3) := by decide +kernel
theorem dX9_contract_38 : decode cX9_contract 38 = .ok (.aload_n 0, 1) := by decide +kernel
theorem dX9_contract_39 : decode cX9_contract 39 = .ok (.getfield 30, 3) := by decide +kernel
theorem dX9_contract_42 : decode cX9_contract 42 = .ok (.getfield 211, 3) := by decide +kernel
theorem dX9_contract_45 : decode cX9_contract 45 = .ok (.invokevirtual 214, 3) := by decide +kernel
theorem dX9_contract_48 : decode cX9_contract 48 = .ok (.aload_n 0, 1) := by decide +kernel
theorem dX9_contract_49 : decode cX9_contract 49 = .ok (.getfield 10, 3) := by decide +kernel
theorem dX9_contract_52 : decode cX9_contract 52 = .ok (.getfield 207, 3) := by decide +kernel
theorem dX9_contract_55 : decode cX9_contract 55 = .ok (.getfield 220, 3) := by decide +kernel
theorem dX9_contract_58 : decode cX9_contract 58 = .ok (.ireturn, 1) := by decide +kernel
theorem dX9_fault_0 : decode cX9_fault 0 = .ok (.iload_n 1, 1) := by decide +kernel
theorem dX9_fault_1 : decode cX9_fault 1 = .ok (.lookupswitch 43 #[(0, 27), (1, 35)], 27) := by decide +kernel
theorem dX9_fault_28 : decode cX9_fault 28 = .ok (.aload_n 0, 1) := by decide +kernel
theorem dX9_fault_29 : decode cX9_fault 29 = .ok (.getfield 30, 3) := by decide +kernel
theorem dX9_fault_32 : decode cX9_fault 32 = .ok (.getfield 204, 3) := by decide +kernel
theorem dX9_fault_35 : decode cX9_fault 35 = .ok (.ireturn, 1) := by decide +kernel
theorem dX9_fault_36 : decode cX9_fault 36 = .ok (.aload_n 0, 1) := by decide +kernel
theorem dX9_fault_37 : decode cX9_fault 37 = .ok (.getfield 30, 3) := by decide +kernel
theorem dX9_fault_40 : decode cX9_fault 40 = .ok (.getfield 223, 3) := by decide +kernel
theorem dX9_fault_43 : decode cX9_fault 43 = .ok (.ireturn, 1) := by decide +kernel
theorem dX9_fault_44 : decode cX9_fault 44 = .ok (.iconst (-1), 1) := by decide +kernel
theorem dX9_fault_45 : decode cX9_fault 45 = .ok (.ireturn, 1) := by decide +kernel
set_option maxRecDepth 20000 in
theorem ggX9_cost_X5_isTold : GoodIn wsX9_cost wsX5_isTold := goodIn_sub (gw_c (gw_X9_cost_X9_cost_r1 _ (gw_g 7 rfl)) (gw_a (gw_c (gw_X9_cost_X9_cost_r1 _ (gw_g 8 rfl)) gw_n) gw_X9_cost_X50)) (by decide +kernel)
set_option maxRecDepth 20000 in
theorem gX9_cost_X5_isTold : GoodIn wsX9_cost (wsV RX9 83 RX5 yX5_isTold wsX5_isTold) := goodIn_app (goodIn_sub (gw_c (gw_X9_cost_X9_cost_r1 _ (gw_g 3 rfl)) (gw_c (gw_X9_cost_X9_cost_r1 _ (gw_g 4 rfl)) (gw_c (gw_X9_cost_X9_cost_r1 _ (gw_g 5 rfl)) (gw_c (gw_X9_cost_X9_cost_r1 _ (gw_g 6 rfl)) gw_n)))) (by decide +kernel)) ggX9_cost_X5_isTold
set_option maxRecDepth 20000 in
theorem ggX9_cost_X0_priceOfRun : GoodIn wsX9_cost wsX0_priceOfRun := goodIn_sub (gw_c (gw_X9_cost_X9_cost_r1 _ (gw_g 13 rfl)) (gw_a (gw_a (gw_a (gw_a (gw_a (gw_c (gw_X9_cost_X9_cost_r1 _ (gw_g 14 rfl)) (gw_c (gw_X9_cost_X9_cost_r1 _ (gw_g 15 rfl)) (gw_c (gw_X9_cost_X9_cost_r1 _ (gw_g 16 rfl)) (gw_c (gw_X9_cost_X9_cost_r1 _ (gw_g 17 rfl)) (gw_c (gw_X9_cost_X9_cost_r1 _ (gw_g 18 rfl)) (gw_c (gw_X9_cost_X9_cost_r1 _ (gw_g 12 rfl)) (gw_c (gw_X9_cost_X9_cost_r1 _ (gw_g 19 rfl)) (gw_c (gw_X9_cost_X9_cost_r1 _ (gw_g 20 rfl)) (gw_c (gw_X9_cost_X9_cost_r1 _ (gw_g 21 rfl)) (gw_c (gw_X9_cost_X9_cost_r1 _ (gw_g 22 rfl)) (gw_c (gw_X9_cost_X9_cost_r1 _ (gw_g 23 rfl)) (gw_c (gw_X9_cost_X9_cost_r2 _ (gw_g 0 rfl)) (gw_c (gw_X9_cost_X9_cost_r2 _ (gw_g 1 rfl)) (gw_c (gw_X9_cost_X9_cost_r2 _ (gw_g 2 rfl)) (gw_c (gw_X9_cost_X9_cost_r2 _ (gw_g 3 rfl)) (gw_c (gw_X9_cost_X9_cost_r2 _ (gw_g 4 rfl)) (gw_c (gw_X9_cost_X9_cost_r2 _ (gw_g 5 rfl)) (gw_c (gw_X9_cost_X9_cost_r2 _ (gw_g 6 rfl)) (gw_c (gw_X9_cost_X9_cost_r2 _ (gw_g 7 rfl)) (gw_c (gw_X9_cost_X9_cost_r2 _ (gw_g 8 rfl)) (gw_c (gw_X9_cost_X9_cost_r1 _ (gw_g 6 rfl)) (gw_c (gw_X9_cost_X9_cost_r2 _ (gw_g 9 rfl)) (gw_c (gw_X9_cost_X9_cost_r1 _ (gw_g 8 rfl)) (gw_c (gw_X9_cost_X9_cost_r2 _ (gw_g 10 rfl)) gw_n)))))))))))))))))))))))) (gw_a (gw_c (gw_X9_cost_X9_cost_r2 _ (gw_g 11 rfl)) (gw_c (gw_X9_cost_X9_cost_r2 _ (gw_g 12 rfl)) (gw_c (gw_X9_cost_X9_cost_r2 _ (gw_g 13 rfl)) (gw_c (gw_X9_cost_X9_cost_r2 _ (gw_g 14 rfl)) (gw_c (gw_X9_cost_X9_cost_r2 _ (gw_g 15 rfl)) (gw_c (gw_X9_cost_X9_cost_r2 _ (gw_g 16 rfl)) (gw_c (gw_X9_cost_X9_cost_r2 _ (gw_g 17 rfl)) (gw_c (gw_X9_cost_X9_cost_r2 _ (gw_g 18 rfl)) (gw_c (gw_X9_cost_X9_cost_r2 _ (gw_g 19 rfl)) (gw_c (gw_X9_cost_X9_cost_r2 _ (gw_g 20 rfl)) (gw_c (gw_X9_cost_X9_cost_r2 _ (gw_g 21 rfl)) (gw_c (gw_X9_cost_X9_cost_r2 _ (gw_g 22 rfl)) (gw_c (gw_X9_cost_X9_cost_r2 _ (gw_g 23 rfl)) (gw_c (gw_X9_cost_X9_cost_r3 _ (gw_g 0 rfl)) (gw_c (gw_X9_cost_X9_cost_r3 _ (gw_g 1 rfl)) (gw_c (gw_X9_cost_X9_cost_r3 _ (gw_g 2 rfl)) (gw_c (gw_X9_cost_X9_cost_r3 _ (gw_g 3 rfl)) (gw_c (gw_X9_cost_X9_cost_r3 _ (gw_g 4 rfl)) (gw_c (gw_X9_cost_X9_cost_r3 _ (gw_g 5 rfl)) (gw_c (gw_X9_cost_X9_cost_r3 _ (gw_g 6 rfl)) (gw_c (gw_X9_cost_X9_cost_r3 _ (gw_g 7 rfl)) (gw_c (gw_X9_cost_X9_cost_r3 _ (gw_g 8 rfl)) (gw_c (gw_X9_cost_X9_cost_r3 _ (gw_g 9 rfl)) (gw_c (gw_X9_cost_X9_cost_r3 _ (gw_g 10 rfl)) gw_n)))))))))))))))))))))))) (gw_c (gw_X9_cost_X9_cost_r3 _ (gw_g 11 rfl)) (gw_c (gw_X9_cost_X9_cost_r3 _ (gw_g 12 rfl)) (gw_c (gw_X9_cost_X9_cost_r3 _ (gw_g 13 rfl)) (gw_c (gw_X9_cost_X9_cost_r3 _ (gw_g 14 rfl)) (gw_c (gw_X9_cost_X9_cost_r3 _ (gw_g 15 rfl)) (gw_c (gw_X9_cost_X9_cost_r3 _ (gw_g 16 rfl)) (gw_c (gw_X9_cost_X9_cost_r3 _ (gw_g 17 rfl)) (gw_c (gw_X9_cost_X9_cost_r3 _ (gw_g 18 rfl)) (gw_c (gw_X9_cost_X9_cost_r3 _ (gw_g 19 rfl)) (gw_c (gw_X9_cost_X9_cost_r3 _ (gw_g 20 rfl)) (gw_c (gw_X9_cost_X9_cost_r3 _ (gw_g 21 rfl)) (gw_c (gw_X9_cost_X9_cost_r3 _ (gw_g 22 rfl)) (gw_c (gw_X9_cost_X9_cost_r3 _ (gw_g 23 rfl)) gw_n))))))))))))))) gw_X9_cost_X00) gw_X9_cost_X40) gw_X9_cost_X50) gw_X9_cost_X20)) (by decide +kernel)
set_option maxRecDepth 20000 in
theorem gX9_cost_X0_priceOfRun : GoodIn wsX9_cost (wsV RX9 226 RX0 yX0_priceOfRun wsX0_priceOfRun) := goodIn_app (goodIn_sub (gw_c (gw_X9_cost_X9_cost_r1 _ (gw_g 9 rfl)) (gw_c (gw_X9_cost_X9_cost_r1 _ (gw_g 10 rfl)) (gw_c (gw_X9_cost_X9_cost_r1 _ (gw_g 11 rfl)) (gw_c (gw_X9_cost_X9_cost_r1 _ (gw_g 12 rfl)) gw_n)))) (by decide +kernel)) ggX9_cost_X0_priceOfRun
set_option maxRecDepth 20000 in
theorem ggX9_cost_X4_hasLeg : GoodIn wsX9_cost wsX4_hasLeg := goodIn_sub (gw_c (gw_X9_cost_X9_cost_r4 _ (gw_g 3 rfl)) (gw_a (gw_c (gw_X9_cost_X9_cost_r4 _ (gw_g 4 rfl)) gw_n) gw_X9_cost_X40)) (by decide +kernel)
set_option maxRecDepth 20000 in
theorem gX9_cost_X4_hasLeg : GoodIn wsX9_cost (wsV RX9 64 RX4 yX4_hasLeg wsX4_hasLeg) := goodIn_app (goodIn_sub (gw_c (gw_X9_cost_X9_cost_r4 _ (gw_g 0 rfl)) (gw_c (gw_X9_cost_X9_cost_r4 _ (gw_g 1 rfl)) (gw_c (gw_X9_cost_X9_cost_r4 _ (gw_g 2 rfl)) (gw_c (gw_X9_cost_X9_cost_r2 _ (gw_g 3 rfl)) gw_n)))) (by decide +kernel)) ggX9_cost_X4_hasLeg
set_option maxRecDepth 20000 in
theorem ggX9_cost_X0_priceOfLeg : GoodIn wsX9_cost wsX0_priceOfLeg := goodIn_sub (gw_c (gw_X9_cost_X9_cost_r1 _ (gw_g 19 rfl)) (gw_a (gw_a (gw_a (gw_a (gw_a (gw_c (gw_X9_cost_X9_cost_r1 _ (gw_g 14 rfl)) (gw_c (gw_X9_cost_X9_cost_r1 _ (gw_g 20 rfl)) (gw_c (gw_X9_cost_X9_cost_r1 _ (gw_g 21 rfl)) (gw_c (gw_X9_cost_X9_cost_r1 _ (gw_g 22 rfl)) (gw_c (gw_X9_cost_X9_cost_r1 _ (gw_g 23 rfl)) (gw_c (gw_X9_cost_X9_cost_r2 _ (gw_g 0 rfl)) (gw_c (gw_X9_cost_X9_cost_r2 _ (gw_g 1 rfl)) (gw_c (gw_X9_cost_X9_cost_r2 _ (gw_g 2 rfl)) (gw_c (gw_X9_cost_X9_cost_r2 _ (gw_g 3 rfl)) (gw_c (gw_X9_cost_X9_cost_r2 _ (gw_g 4 rfl)) (gw_c (gw_X9_cost_X9_cost_r2 _ (gw_g 5 rfl)) (gw_c (gw_X9_cost_X9_cost_r2 _ (gw_g 6 rfl)) (gw_c (gw_X9_cost_X9_cost_r2 _ (gw_g 7 rfl)) (gw_c (gw_X9_cost_X9_cost_r2 _ (gw_g 8 rfl)) (gw_c (gw_X9_cost_X9_cost_r1 _ (gw_g 6 rfl)) (gw_c (gw_X9_cost_X9_cost_r2 _ (gw_g 9 rfl)) (gw_c (gw_X9_cost_X9_cost_r1 _ (gw_g 8 rfl)) (gw_c (gw_X9_cost_X9_cost_r2 _ (gw_g 10 rfl)) (gw_c (gw_X9_cost_X9_cost_r2 _ (gw_g 11 rfl)) (gw_c (gw_X9_cost_X9_cost_r2 _ (gw_g 12 rfl)) (gw_c (gw_X9_cost_X9_cost_r2 _ (gw_g 13 rfl)) (gw_c (gw_X9_cost_X9_cost_r2 _ (gw_g 14 rfl)) (gw_c (gw_X9_cost_X9_cost_r2 _ (gw_g 15 rfl)) (gw_c (gw_X9_cost_X9_cost_r2 _ (gw_g 16 rfl)) gw_n)))))))))))))))))))))))) (gw_a (gw_c (gw_X9_cost_X9_cost_r2 _ (gw_g 17 rfl)) (gw_c (gw_X9_cost_X9_cost_r2 _ (gw_g 18 rfl)) (gw_c (gw_X9_cost_X9_cost_r2 _ (gw_g 19 rfl)) (gw_c (gw_X9_cost_X9_cost_r2 _ (gw_g 20 rfl)) (gw_c (gw_X9_cost_X9_cost_r2 _ (gw_g 21 rfl)) (gw_c (gw_X9_cost_X9_cost_r2 _ (gw_g 22 rfl)) (gw_c (gw_X9_cost_X9_cost_r2 _ (gw_g 23 rfl)) (gw_c (gw_X9_cost_X9_cost_r3 _ (gw_g 0 rfl)) (gw_c (gw_X9_cost_X9_cost_r3 _ (gw_g 1 rfl)) (gw_c (gw_X9_cost_X9_cost_r3 _ (gw_g 2 rfl)) (gw_c (gw_X9_cost_X9_cost_r3 _ (gw_g 3 rfl)) (gw_c (gw_X9_cost_X9_cost_r3 _ (gw_g 4 rfl)) (gw_c (gw_X9_cost_X9_cost_r3 _ (gw_g 5 rfl)) (gw_c (gw_X9_cost_X9_cost_r3 _ (gw_g 6 rfl)) (gw_c (gw_X9_cost_X9_cost_r3 _ (gw_g 7 rfl)) (gw_c (gw_X9_cost_X9_cost_r3 _ (gw_g 8 rfl)) (gw_c (gw_X9_cost_X9_cost_r3 _ (gw_g 9 rfl)) (gw_c (gw_X9_cost_X9_cost_r3 _ (gw_g 10 rfl)) (gw_c (gw_X9_cost_X9_cost_r3 _ (gw_g 11 rfl)) (gw_c (gw_X9_cost_X9_cost_r3 _ (gw_g 12 rfl)) (gw_c (gw_X9_cost_X9_cost_r3 _ (gw_g 13 rfl)) (gw_c (gw_X9_cost_X9_cost_r3 _ (gw_g 14 rfl)) (gw_c (gw_X9_cost_X9_cost_r3 _ (gw_g 15 rfl)) (gw_c (gw_X9_cost_X9_cost_r3 _ (gw_g 16 rfl)) gw_n)))))))))))))))))))))))) (gw_c (gw_X9_cost_X9_cost_r3 _ (gw_g 17 rfl)) (gw_c (gw_X9_cost_X9_cost_r3 _ (gw_g 18 rfl)) (gw_c (gw_X9_cost_X9_cost_r3 _ (gw_g 19 rfl)) (gw_c (gw_X9_cost_X9_cost_r3 _ (gw_g 20 rfl)) (gw_c (gw_X9_cost_X9_cost_r3 _ (gw_g 21 rfl)) (gw_c (gw_X9_cost_X9_cost_r3 _ (gw_g 22 rfl)) (gw_c (gw_X9_cost_X9_cost_r3 _ (gw_g 23 rfl)) gw_n))))))))) gw_X9_cost_X00) gw_X9_cost_X40) gw_X9_cost_X50) gw_X9_cost_X20)) (by decide +kernel)
set_option maxRecDepth 20000 in
theorem gX9_cost_X0_priceOfLeg : GoodIn wsX9_cost (wsV RX9 230 RX0 yX0_priceOfLeg wsX0_priceOfLeg) := goodIn_app (goodIn_sub (gw_c (gw_X9_cost_X9_cost_r4 _ (gw_g 5 rfl)) (gw_c (gw_X9_cost_X9_cost_r1 _ (gw_g 17 rfl)) (gw_c (gw_X9_cost_X9_cost_r1 _ (gw_g 18 rfl)) (gw_c (gw_X9_cost_X9_cost_r1 _ (gw_g 12 rfl)) gw_n)))) (by decide +kernel)) ggX9_cost_X0_priceOfLeg
theorem dX9_cost_0 : decode cX9_cost 0 = .ok (.aload_n 0, 1) := by decide +kernel
theorem dX9_cost_1 : decode cX9_cost 1 = .ok (.getfield 10, 3) := by decide +kernel
theorem dX9_cost_4 : decode cX9_cost 4 = .ok (.getfield 34, 3) := by decide +kernel
theorem dX9_cost_7 : decode cX9_cost 7 = .ok (.iload_n 1, 1) := by decide +kernel
theorem dX9_cost_8 : decode cX9_cost 8 = .ok (.invokevirtual 83, 3) := by decide +kernel
theorem dX9_cost_11 : decode cX9_cost 11 = .ok (.ifCond .ne 5, 3) := by decide +kernel
theorem dX9_cost_14 : decode cX9_cost 14 = .ok (.lconst 0, 1) := by decide +kernel
theorem dX9_cost_15 : decode cX9_cost 15 = .ok (.lreturn, 1) := by decide +kernel
theorem dX9_cost_16 : decode cX9_cost 16 = .ok (.iload_n 2, 1) := by decide +kernel
theorem dX9_cost_17 : decode cX9_cost 17 = .ok (.iconst (-1), 1) := by decide +kernel
theorem dX9_cost_18 : decode cX9_cost 18 = .ok (.if_icmp .ne 12, 3) := by decide +kernel
theorem dX9_cost_21 : decode cX9_cost 21 = .ok (.aload_n 0, 1) := by decide +kernel
theorem dX9_cost_22 : decode cX9_cost 22 = .ok (.getfield 10, 3) := by decide +kernel
theorem dX9_cost_25 : decode cX9_cost 25 = .ok (.iload_n 1, 1) := by decide +kernel
theorem dX9_cost_26 : decode cX9_cost 26 = .ok (.invokevirtual 226, 3) := by decide +kernel
theorem dX9_cost_29 : decode cX9_cost 29 = .ok (.lreturn, 1) := by decide +kernel
theorem dX9_cost_30 : decode cX9_cost 30 = .ok (.aload_n 0, 1) := by decide +kernel
theorem dX9_cost_31 : decode cX9_cost 31 = .ok (.getfield 10, 3) := by decide +kernel
theorem dX9_cost_34 : decode cX9_cost 34 = .ok (.getfield 44, 3) := by decide +kernel
theorem dX9_cost_37 : decode cX9_cost 37 = .ok (.iload_n 2, 1) := by decide +kernel
theorem dX9_cost_38 : decode cX9_cost 38 = .ok (.invokevirtual 64, 3) := by decide +kernel
theorem dX9_cost_41 : decode cX9_cost 41 = .ok (.ifCond .eq 15, 3) := by decide +kernel
theorem dX9_cost_44 : decode cX9_cost 44 = .ok (.aload_n 0, 1) := by decide +kernel
theorem dX9_cost_45 : decode cX9_cost 45 = .ok (.getfield 10, 3) := by decide +kernel
theorem dX9_cost_48 : decode cX9_cost 48 = .ok (.iload_n 1, 1) := by decide +kernel
theorem dX9_cost_49 : decode cX9_cost 49 = .ok (.iload_n 2, 1) := by decide +kernel
theorem dX9_cost_50 : decode cX9_cost 50 = .ok (.invokevirtual 230, 3) := by decide +kernel
theorem dX9_cost_53 : decode cX9_cost 53 = .ok (.goto 4, 3) := by decide +kernel
theorem dX9_cost_56 : decode cX9_cost 56 = .ok (.lconst 0, 1) := by decide +kernel
theorem dX9_cost_57 : decode cX9_cost 57 = .ok (.lreturn, 1) := by decide +kernel
set_option maxRecDepth 20000 in
theorem ggX9_cars_X4_allHours : GoodIn wsX9_cars wsX4_allHours := goodIn_sub (gw_c (gw_t (gw_l (gw_l (gw_l (gw_g 10 rfl))))) (gw_a (gw_c (gw_t (gw_l (gw_l (gw_l (gw_g 11 rfl))))) (gw_c (gw_t (gw_l (gw_l (gw_l (gw_g 12 rfl))))) (gw_c (gw_t (gw_l (gw_l (gw_l (gw_g 13 rfl))))) (gw_c (gw_t (gw_l (gw_l (gw_l (gw_g 14 rfl))))) (gw_c (gw_t (gw_l (gw_l (gw_l (gw_g 9 rfl))))) (gw_c (gw_t (gw_l (gw_l (gw_l (gw_g 15 rfl))))) (gw_c (gw_t (gw_l (gw_l (gw_l (gw_g 16 rfl))))) gw_n))))))) gw_X9_cars_X40)) (by decide +kernel)
set_option maxRecDepth 20000 in
theorem gX9_cars_X4_allHours : GoodIn wsX9_cars (wsV RX9 234 RX4 yX4_allHours wsX4_allHours) := goodIn_app (goodIn_sub (gw_c (gw_t (gw_l (gw_l (gw_l (gw_g 6 rfl))))) (gw_c (gw_t (gw_l (gw_l (gw_l (gw_g 7 rfl))))) (gw_c (gw_t (gw_l (gw_l (gw_l (gw_g 8 rfl))))) (gw_c (gw_t (gw_l (gw_l (gw_l (gw_g 9 rfl))))) gw_n)))) (by decide +kernel)) ggX9_cars_X4_allHours
set_option maxRecDepth 20000 in
theorem ggX9_cars_X9_isInSet : GoodIn wsX9_cars wsX9_isInSet := goodIn_sub (gw_c (gw_t (gw_l (gw_l (gw_l (gw_g 20 rfl))))) gw_n) (by decide +kernel)
set_option maxRecDepth 20000 in
theorem gX9_cars_X9_isInSet : GoodIn wsX9_cars (va_wsS RX9 238 yX9_isInSet wsX9_isInSet) := goodIn_app (goodIn_sub (gw_c (gw_t (gw_l (gw_l (gw_l (gw_g 17 rfl))))) (gw_c (gw_t (gw_l (gw_l (gw_l (gw_g 18 rfl))))) (gw_c (gw_t (gw_l (gw_l (gw_l (gw_g 19 rfl))))) gw_n))) (by decide +kernel)) ggX9_cars_X9_isInSet
set_option maxRecDepth 20000 in
theorem ggX9_cars_X9_carsOut : GoodIn wsX9_cars wsX9_carsOut := goodIn_sub (gw_c (gw_t (gw_l (gw_l (gw_l (gw_g 23 rfl))))) (gw_c (gw_t (gw_l (gw_l (gw_l (gw_g 17 rfl))))) (gw_c (gw_t (gw_l (gw_l (gw_l (gw_g 18 rfl))))) (gw_c (gw_t (gw_l (gw_l (gw_l (gw_g 19 rfl))))) (gw_c (gw_t (gw_l (gw_l (gw_l (gw_g 20 rfl))))) gw_n))))) (by decide +kernel)
set_option maxRecDepth 20000 in
theorem gX9_cars_X9_carsOut : GoodIn wsX9_cars (va_wsS RX9 241 yX9_carsOut wsX9_carsOut) := goodIn_app (goodIn_sub (gw_c (gw_t (gw_l (gw_l (gw_l (gw_g 21 rfl))))) (gw_c (gw_t (gw_l (gw_l (gw_l (gw_g 22 rfl))))) (gw_c (gw_t (gw_l (gw_l (gw_l (gw_g 19 rfl))))) gw_n))) (by decide +kernel)) ggX9_cars_X9_carsOut
theorem dX9_cars_0 : decode cX9_cars 0 = .ok (.iload_n 1, 1) := by decide +kernel
theorem dX9_cars_1 : decode cX9_cars 1 = .ok (.ifCond .lt 13, 3) := by decide +kernel
theorem dX9_cars_4 : decode cX9_cars 4 = .ok (.iload_n 2, 1) := by decide +kernel
theorem dX9_cars_5 : decode cX9_cars 5 = .ok (.ifCond .lt 9, 3) := by decide +kernel
theorem dX9_cars_8 : decode cX9_cars 8 = .ok (.iload_n 2, 1) := by decide +kernel
theorem dX9_cars_9 : decode cX9_cars 9 = .ok (.bipush 48, 2) := by decide +kernel
theorem dX9_cars_11 : decode cX9_cars 11 = .ok (.if_icmp .le 5, 3) := by decide +kernel
theorem dX9_cars_14 : decode cX9_cars 14 = .ok (.iconst (-1), 1) := by decide +kernel
theorem dX9_cars_15 : decode cX9_cars 15 = .ok (.ireturn, 1) := by decide +kernel
theorem dX9_cars_16 : decode cX9_cars 16 = .ok (.iconst 2, 1) := by decide +kernel
theorem dX9_cars_17 : decode cX9_cars 17 = .ok (.aload_n 0, 1) := by decide +kernel
theorem dX9_cars_18 : decode cX9_cars 18 = .ok (.getfield 10, 3) := by decide +kernel
theorem dX9_cars_21 : decode cX9_cars 21 = .ok (.getfield 44, 3) := by decide +kernel
theorem dX9_cars_24 : decode cX9_cars 24 = .ok (.invokevirtual 234, 3) := by decide +kernel
theorem dX9_cars_27 : decode cX9_cars 27 = .ok (.iload_n 2, 1) := by decide +kernel
theorem dX9_cars_28 : decode cX9_cars 28 = .ok (.iadd, 1) := by decide +kernel
theorem dX9_cars_29 : decode cX9_cars 29 = .ok (.imul, 1) := by decide +kernel
theorem dX9_cars_30 : decode cX9_cars 30 = .ok (.istore_n 3, 1) := by decide +kernel
theorem dX9_cars_31 : decode cX9_cars 31 = .ok (.iconst 0, 1) := by decide +kernel
theorem dX9_cars_32 : decode cX9_cars 32 = .ok (.istore 4, 2) := by decide +kernel
theorem dX9_cars_34 : decode cX9_cars 34 = .ok (.iconst 0, 1) := by decide +kernel
theorem dX9_cars_35 : decode cX9_cars 35 = .ok (.istore 5, 2) := by decide +kernel
theorem dX9_cars_37 : decode cX9_cars 37 = .ok (.iload 5, 2) := by decide +kernel
theorem dX9_cars_39 : decode cX9_cars 39 = .ok (.bipush 30, 2) := by decide +kernel
theorem dX9_cars_41 : decode cX9_cars 41 = .ok (.if_icmp .ge 32, 3) := by decide +kernel
theorem dX9_cars_44 : decode cX9_cars 44 = .ok (.iload_n 1, 1) := by decide +kernel
theorem dX9_cars_45 : decode cX9_cars 45 = .ok (.iload 5, 2) := by decide +kernel
theorem dX9_cars_47 : decode cX9_cars 47 = .ok (.invokestatic 238, 3) := by decide +kernel
theorem dX9_cars_50 : decode cX9_cars 50 = .ok (.ifCond .eq 17, 3) := by decide +kernel
theorem dX9_cars_53 : decode cX9_cars 53 = .ok (.iload 4, 2) := by decide +kernel
theorem dX9_cars_55 : decode cX9_cars 55 = .ok (.iload_n 1, 1) := by decide +kernel
theorem dX9_cars_56 : decode cX9_cars 56 = .ok (.iload 5, 2) := by decide +kernel
theorem dX9_cars_58 : decode cX9_cars 58 = .ok (.iload_n 3, 1) := by decide +kernel
theorem dX9_cars_59 : decode cX9_cars 59 = .ok (.invokestatic 241, 3) := by decide +kernel
theorem dX9_cars_62 : decode cX9_cars 62 = .ok (.invokestatic 244, 3) := by decide +kernel
theorem dX9_cars_65 : decode cX9_cars 65 = .ok (.istore 4, 2) := by decide +kernel
theorem dX9_cars_67 : decode cX9_cars 67 = .ok (.iinc 5 1, 3) := by decide +kernel
theorem dX9_cars_70 : decode cX9_cars 70 = .ok (.goto (-33), 3) := by decide +kernel
theorem dX9_cars_73 : decode cX9_cars 73 = .ok (.iload 4, 2) := by decide +kernel
theorem dX9_cars_75 : decode cX9_cars 75 = .ok (.ireturn, 1) := by decide +kernel
set_option maxRecDepth 20000 in
theorem ggX9_count_X4_allHours : GoodIn wsX9_count wsX4_allHours := goodIn_sub (gw_c (gw_X9_count_X9_count_r1 _ (gw_g 16 rfl)) (gw_a (gw_c (gw_X9_count_X9_count_r1 _ (gw_g 17 rfl)) (gw_c (gw_X9_count_X9_count_r1 _ (gw_g 18 rfl)) (gw_c (gw_X9_count_X9_count_r1 _ (gw_g 19 rfl)) (gw_c (gw_X9_count_X9_count_r1 _ (gw_g 20 rfl)) (gw_c (gw_X9_count_X9_count_r1 _ (gw_g 15 rfl)) (gw_c (gw_X9_count_X9_count_r1 _ (gw_g 21 rfl)) (gw_c (gw_X9_count_X9_count_r1 _ (gw_g 22 rfl)) gw_n))))))) gw_X9_count_X40)) (by decide +kernel)
set_option maxRecDepth 20000 in
theorem gX9_count_X4_allHours : GoodIn wsX9_count (wsV RX9 234 RX4 yX4_allHours wsX4_allHours) := goodIn_app (goodIn_sub (gw_c (gw_X9_count_X9_count_r1 _ (gw_g 12 rfl)) (gw_c (gw_X9_count_X9_count_r1 _ (gw_g 13 rfl)) (gw_c (gw_X9_count_X9_count_r1 _ (gw_g 14 rfl)) (gw_c (gw_X9_count_X9_count_r1 _ (gw_g 15 rfl)) gw_n)))) (by decide +kernel)) ggX9_count_X4_allHours
set_option maxRecDepth 20000 in
theorem ggX9_count_X4_allKm : GoodIn wsX9_count wsX4_allKm := goodIn_sub (gw_c (gw_X9_count_X9_count_r2 _ (gw_g 2 rfl)) (gw_a (gw_c (gw_X9_count_X9_count_r1 _ (gw_g 17 rfl)) (gw_c (gw_X9_count_X9_count_r2 _ (gw_g 3 rfl)) gw_n)) gw_X9_count_X40)) (by decide +kernel)
set_option maxRecDepth 20000 in
theorem gX9_count_X4_allKm : GoodIn wsX9_count (wsV RX9 254 RX4 yX4_allKm wsX4_allKm) := goodIn_app (goodIn_sub (gw_c (gw_X9_count_X9_count_r1 _ (gw_g 23 rfl)) (gw_c (gw_X9_count_X9_count_r2 _ (gw_g 0 rfl)) (gw_c (gw_X9_count_X9_count_r2 _ (gw_g 1 rfl)) (gw_c (gw_X9_count_X9_count_r1 _ (gw_g 15 rfl)) gw_n)))) (by decide +kernel)) ggX9_count_X4_allKm
theorem dX9_count_0 : decode cX9_count 0 = .ok (.iload_n 1, 1) := by decide +kernel
theorem dX9_count_1 : decode cX9_count 1 = .ok (.tableswitch 132 0 7 #[47, 58, 69, 80, 91, 99, 110, 121], 47) := by decide +kernel
theorem dX9_count_48 : decode cX9_count 48 = .ok (.aload_n 0, 1) := by decide +kernel
theorem dX9_count_49 : decode cX9_count 49 = .ok (.getfield 10, 3) := by decide +kernel
theorem dX9_count_52 : decode cX9_count 52 = .ok (.getfield 44, 3) := by decide +kernel
theorem dX9_count_55 : decode cX9_count 55 = .ok (.getfield 249, 3) := by decide +kernel
theorem dX9_count_58 : decode cX9_count 58 = .ok (.ireturn, 1) := by decide +kernel
theorem dX9_count_59 : decode cX9_count 59 = .ok (.aload_n 0, 1) := by decide +kernel
theorem dX9_count_60 : decode cX9_count 60 = .ok (.getfield 10, 3) := by decide +kernel
theorem dX9_count_63 : decode cX9_count 63 = .ok (.getfield 34, 3) := by decide +kernel
theorem dX9_count_66 : decode cX9_count 66 = .ok (.getfield 38, 3) := by decide +kernel
theorem dX9_count_69 : decode cX9_count 69 = .ok (.ireturn, 1) := by decide +kernel
theorem dX9_count_70 : decode cX9_count 70 = .ok (.aload_n 0, 1) := by decide +kernel
theorem dX9_count_71 : decode cX9_count 71 = .ok (.getfield 10, 3) := by decide +kernel
theorem dX9_count_74 : decode cX9_count 74 = .ok (.getfield 102, 3) := by decide +kernel
theorem dX9_count_77 : decode cX9_count 77 = .ok (.getfield 252, 3) := by decide +kernel
theorem dX9_count_80 : decode cX9_count 80 = .ok (.ireturn, 1) := by decide +kernel
theorem dX9_count_81 : decode cX9_count 81 = .ok (.aload_n 0, 1) := by decide +kernel
theorem dX9_count_82 : decode cX9_count 82 = .ok (.getfield 10, 3) := by decide +kernel
theorem dX9_count_85 : decode cX9_count 85 = .ok (.getfield 122, 3) := by decide +kernel
theorem dX9_count_88 : decode cX9_count 88 = .ok (.getfield 253, 3) := by decide +kernel
theorem dX9_count_91 : decode cX9_count 91 = .ok (.ireturn, 1) := by decide +kernel
theorem dX9_count_92 : decode cX9_count 92 = .ok (.aload_n 0, 1) := by decide +kernel
theorem dX9_count_93 : decode cX9_count 93 = .ok (.getfield 10, 3) := by decide +kernel
theorem dX9_count_96 : decode cX9_count 96 = .ok (.getfield 126, 3) := by decide +kernel
theorem dX9_count_99 : decode cX9_count 99 = .ok (.ireturn, 1) := by decide +kernel
theorem dX9_count_100 : decode cX9_count 100 = .ok (.aload_n 0, 1) := by decide +kernel
theorem dX9_count_101 : decode cX9_count 101 = .ok (.getfield 10, 3) := by decide +kernel
theorem dX9_count_104 : decode cX9_count 104 = .ok (.getfield 207, 3) := by decide +kernel
theorem dX9_count_107 : decode cX9_count 107 = .ok (.getfield 220, 3) := by decide +kernel
theorem dX9_count_110 : decode cX9_count 110 = .ok (.ireturn, 1) := by decide +kernel
theorem dX9_count_111 : decode cX9_count 111 = .ok (.aload_n 0, 1) := by decide +kernel
theorem dX9_count_112 : decode cX9_count 112 = .ok (.getfield 10, 3) := by decide +kernel
theorem dX9_count_115 : decode cX9_count 115 = .ok (.getfield 44, 3) := by decide +kernel
theorem dX9_count_118 : decode cX9_count 118 = .ok (.invokevirtual 234, 3) := by decide +kernel
theorem dX9_count_121 : decode cX9_count 121 = .ok (.ireturn, 1) := by decide +kernel
theorem dX9_count_122 : decode cX9_count 122 = .ok (.aload_n 0, 1) := by decide +kernel
theorem dX9_count_123 : decode cX9_count 123 = .ok (.getfield 10, 3) := by decide +kernel
theorem dX9_count_126 : decode cX9_count 126 = .ok (.getfield 44, 3) := by decide +kernel
theorem dX9_count_129 : decode cX9_count 129 = .ok (.invokevirtual 254, 3) := by decide +kernel
theorem dX9_count_132 : decode cX9_count 132 = .ok (.ireturn, 1) := by decide +kernel
theorem dX9_count_133 : decode cX9_count 133 = .ok (.iconst (-1), 1) := by decide +kernel
theorem dX9_count_134 : decode cX9_count 134 = .ok (.ireturn, 1) := by decide +kernel
set_option maxRecDepth 20000 in
theorem ggX9_image_X0_init : GoodIn wsX9_image wsX0_init := goodIn_sub (gw_c (gw_X9_image_X9_image_r1 _ (gw_g 6 rfl)) (gw_a (gw_a (gw_a (gw_a (gw_a (gw_a (gw_a (gw_c (gw_X9_image_X9_image_r1 _ (gw_g 7 rfl)) (gw_c (gw_X9_image_X9_image_r1 _ (gw_g 8 rfl)) (gw_c (gw_X9_image_X9_image_r1 _ (gw_g 9 rfl)) (gw_c (gw_X9_image_X9_image_r1 _ (gw_g 10 rfl)) (gw_c (gw_X9_image_X9_image_r1 _ (gw_g 11 rfl)) (gw_c (gw_X9_image_X9_image_r1 _ (gw_g 12 rfl)) (gw_c (gw_X9_image_X9_image_r1 _ (gw_g 13 rfl)) (gw_c (gw_X9_image_X9_image_r1 _ (gw_g 14 rfl)) (gw_c (gw_X9_image_X9_image_r1 _ (gw_g 15 rfl)) (gw_c (gw_X9_image_X9_image_r1 _ (gw_g 16 rfl)) (gw_c (gw_X9_image_X9_image_r1 _ (gw_g 17 rfl)) (gw_c (gw_X9_image_X9_image_r1 _ (gw_g 18 rfl)) (gw_c (gw_X9_image_X9_image_r1 _ (gw_g 19 rfl)) (gw_c (gw_X9_image_X9_image_r1 _ (gw_g 20 rfl)) (gw_c (gw_X9_image_X9_image_r1 _ (gw_g 21 rfl)) (gw_c (gw_X9_image_X9_image_r1 _ (gw_g 22 rfl)) (gw_c (gw_X9_image_X9_image_r1 _ (gw_g 23 rfl)) (gw_c (gw_X9_image_X9_image_r2 _ (gw_g 0 rfl)) (gw_c (gw_X9_image_X9_image_r2 _ (gw_g 1 rfl)) (gw_c (gw_X9_image_X9_image_r2 _ (gw_g 2 rfl)) (gw_c (gw_X9_image_X9_image_r2 _ (gw_g 3 rfl)) (gw_c (gw_X9_image_X9_image_r2 _ (gw_g 4 rfl)) (gw_c (gw_X9_image_X9_image_r2 _ (gw_g 5 rfl)) (gw_c (gw_X9_image_X9_image_r2 _ (gw_g 6 rfl)) gw_n)))))))))))))))))))))))) (gw_a (gw_c (gw_X9_image_X9_image_r2 _ (gw_g 7 rfl)) (gw_c (gw_X9_image_X9_image_r2 _ (gw_g 8 rfl)) (gw_c (gw_X9_image_X9_image_r2 _ (gw_g 9 rfl)) (gw_c (gw_X9_image_X9_image_r2 _ (gw_g 10 rfl)) (gw_c (gw_X9_image_X9_image_r2 _ (gw_g 11 rfl)) (gw_c (gw_X9_image_X9_image_r2 _ (gw_g 12 rfl)) (gw_c (gw_X9_image_X9_image_r2 _ (gw_g 13 rfl)) (gw_c (gw_X9_image_X9_image_r2 _ (gw_g 14 rfl)) (gw_c (gw_X9_image_X9_image_r2 _ (gw_g 15 rfl)) (gw_c (gw_X9_image_X9_image_r2 _ (gw_g 16 rfl)) (gw_c (gw_X9_image_X9_image_r2 _ (gw_g 17 rfl)) (gw_c (gw_X9_image_X9_image_r2 _ (gw_g 18 rfl)) (gw_c (gw_X9_image_X9_image_r2 _ (gw_g 19 rfl)) (gw_c (gw_X9_image_X9_image_r2 _ (gw_g 20 rfl)) (gw_c (gw_X9_image_X9_image_r2 _ (gw_g 21 rfl)) (gw_c (gw_X9_image_X9_image_r2 _ (gw_g 22 rfl)) (gw_c (gw_X9_image_X9_image_r2 _ (gw_g 23 rfl)) (gw_c (gw_X9_image_X9_image_r3 _ (gw_g 0 rfl)) (gw_c (gw_X9_image_X9_image_r3 _ (gw_g 1 rfl)) (gw_c (gw_X9_image_X9_image_r3 _ (gw_g 2 rfl)) (gw_c (gw_X9_image_X9_image_r3 _ (gw_g 3 rfl)) (gw_c (gw_X9_image_X9_image_r3 _ (gw_g 4 rfl)) (gw_c (gw_X9_image_X9_image_r3 _ (gw_g 5 rfl)) (gw_c (gw_X9_image_X9_image_r3 _ (gw_g 6 rfl)) gw_n)))))))))))))))))))))))) (gw_a (gw_c (gw_X9_image_X9_image_r3 _ (gw_g 7 rfl)) (gw_c (gw_X9_image_X9_image_r3 _ (gw_g 8 rfl)) (gw_c (gw_X9_image_X9_image_r3 _ (gw_g 9 rfl)) (gw_c (gw_X9_image_X9_image_r3 _ (gw_g 10 rfl)) (gw_c (gw_X9_image_X9_image_r3 _ (gw_g 11 rfl)) (gw_c (gw_X9_image_X9_image_r3 _ (gw_g 12 rfl)) (gw_c (gw_X9_image_X9_image_r3 _ (gw_g 13 rfl)) (gw_c (gw_X9_image_X9_image_r3 _ (gw_g 14 rfl)) (gw_c (gw_X9_image_X9_image_r3 _ (gw_g 15 rfl)) (gw_c (gw_X9_image_X9_image_r3 _ (gw_g 16 rfl)) (gw_c (gw_X9_image_X9_image_r3 _ (gw_g 17 rfl)) (gw_c (gw_X9_image_X9_image_r3 _ (gw_g 18 rfl)) (gw_c (gw_X9_image_X9_image_r3 _ (gw_g 19 rfl)) (gw_c (gw_X9_image_X9_image_r3 _ (gw_g 20 rfl)) (gw_c (gw_X9_image_X9_image_r3 _ (gw_g 21 rfl)) (gw_c (gw_X9_image_X9_image_r3 _ (gw_g 22 rfl)) (gw_c (gw_X9_image_X9_image_r3 _ (gw_g 23 rfl)) (gw_c (gw_X9_image_X9_image_r4 _ (gw_g 0 rfl)) (gw_c (gw_X9_image_X9_image_r4 _ (gw_g 1 rfl)) (gw_c (gw_X9_image_X9_image_r4 _ (gw_g 2 rfl)) (gw_c (gw_X9_image_X9_image_r4 _ (gw_g 3 rfl)) (gw_c (gw_X9_image_X9_image_r4 _ (gw_g 4 rfl)) (gw_c (gw_X9_image_X9_image_r4 _ (gw_g 5 rfl)) (gw_c (gw_X9_image_X9_image_r4 _ (gw_g 6 rfl)) gw_n)))))))))))))))))))))))) (gw_c (gw_X9_image_X9_image_r4 _ (gw_g 7 rfl)) (gw_c (gw_X9_image_X9_image_r4 _ (gw_g 8 rfl)) (gw_c (gw_X9_image_X9_image_r4 _ (gw_g 9 rfl)) (gw_c (gw_X9_image_X9_image_r4 _ (gw_g 10 rfl)) (gw_c (gw_X9_image_X9_image_r4 _ (gw_g 11 rfl)) (gw_c (gw_X9_image_X9_image_r4 _ (gw_g 12 rfl)) gw_n))))))))) gw_X9_image_X40) gw_X9_image_X00) gw_X9_image_X50) gw_X9_image_X70) gw_X9_image_X10) gw_X9_image_X20)) (by decide +kernel)
set_option maxRecDepth 20000 in
theorem gX9_image_X0_init_n9 : GoodIn wsX9_image (wsX0_init) := ggX9_image_X0_init
set_option maxRecDepth 20000 in
theorem ggX9_image_X0_copyFrom : GoodIn wsX9_image wsX0_copyFrom := goodIn_sub (gw_c (gw_X9_image_X9_image_r4 _ (gw_g 16 rfl)) (gw_a (gw_a (gw_a (gw_a (gw_a (gw_a (gw_a (gw_c (gw_X9_image_X9_image_r4 _ (gw_g 17 rfl)) (gw_c (gw_X9_image_X9_image_r1 _ (gw_g 13 rfl)) (gw_c (gw_X9_image_X9_image_r1 _ (gw_g 17 rfl)) (gw_c (gw_X9_image_X9_image_r1 _ (gw_g 21 rfl)) (gw_c (gw_X9_image_X9_image_r2 _ (gw_g 1 rfl)) (gw_c (gw_X9_image_X9_image_r2 _ (gw_g 5 rfl)) (gw_c (gw_X9_image_X9_image_r2 _ (gw_g 7 rfl)) (gw_c (gw_X9_image_X9_image_r4 _ (gw_g 18 rfl)) (gw_c (gw_X9_image_X9_image_r4 _ (gw_g 19 rfl)) (gw_c (gw_X9_image_X9_image_r4 _ (gw_g 20 rfl)) (gw_c (gw_X9_image_X9_image_r4 _ (gw_g 21 rfl)) (gw_c (gw_X9_image_X9_image_r2 _ (gw_g 8 rfl)) (gw_c (gw_X9_image_X9_image_r4 _ (gw_g 22 rfl)) (gw_c (gw_X9_image_X9_image_r4 _ (gw_g 23 rfl)) (gw_c (gw_X9_image_X9_image_r5 _ (gw_g 0 rfl)) (gw_c (gw_X9_image_X9_image_r1 _ (gw_g 12 rfl)) (gw_c (gw_X9_image_X9_image_r5 _ (gw_g 1 rfl)) (gw_c (gw_X9_image_X9_image_r2 _ (gw_g 21 rfl)) (gw_c (gw_X9_image_X9_image_r2 _ (gw_g 15 rfl)) (gw_c (gw_X9_image_X9_image_r5 _ (gw_g 2 rfl)) (gw_c (gw_X9_image_X9_image_r2 _ (gw_g 16 rfl)) (gw_c (gw_X9_image_X9_image_r5 _ (gw_g 3 rfl)) (gw_c (gw_X9_image_X9_image_r5 _ (gw_g 4 rfl)) (gw_c (gw_X9_image_X9_image_r5 _ (gw_g 5 rfl)) gw_n)))))))))))))))))))))))) (gw_a (gw_c (gw_X9_image_X9_image_r1 _ (gw_g 16 rfl)) (gw_c (gw_X9_image_X9_image_r5 _ (gw_g 6 rfl)) (gw_c (gw_X9_image_X9_image_r5 _ (gw_g 7 rfl)) (gw_c (gw_X9_image_X9_image_r3 _ (gw_g 5 rfl)) (gw_c (gw_X9_image_X9_image_r5 _ (gw_g 8 rfl)) (gw_c (gw_X9_image_X9_image_r3 _ (gw_g 6 rfl)) (gw_c (gw_X9_image_X9_image_r3 _ (gw_g 7 rfl)) (gw_c (gw_X9_image_X9_image_r5 _ (gw_g 9 rfl)) (gw_c (gw_X9_image_X9_image_r5 _ (gw_g 10 rfl)) (gw_c (gw_X9_image_X9_image_r5 _ (gw_g 11 rfl)) (gw_c (gw_X9_image_X9_image_r1 _ (gw_g 20 rfl)) (gw_c (gw_X9_image_X9_image_r5 _ (gw_g 12 rfl)) (gw_c (gw_X9_image_X9_image_r5 _ (gw_g 13 rfl)) (gw_c (gw_X9_image_X9_image_r3 _ (gw_g 11 rfl)) (gw_c (gw_X9_image_X9_image_r5 _ (gw_g 14 rfl)) (gw_c (gw_X9_image_X9_image_r3 _ (gw_g 12 rfl)) (gw_c (gw_X9_image_X9_image_r3 _ (gw_g 13 rfl)) (gw_c (gw_X9_image_X9_image_r3 _ (gw_g 14 rfl)) (gw_c (gw_X9_image_X9_image_r3 _ (gw_g 15 rfl)) (gw_c (gw_X9_image_X9_image_r3 _ (gw_g 16 rfl)) (gw_c (gw_X9_image_X9_image_r5 _ (gw_g 15 rfl)) (gw_c (gw_X9_image_X9_image_r5 _ (gw_g 16 rfl)) (gw_c (gw_X9_image_X9_image_r5 _ (gw_g 17 rfl)) (gw_c (gw_X9_image_X9_image_r2 _ (gw_g 0 rfl)) gw_n)))))))))))))))))))))))) (gw_c (gw_X9_image_X9_image_r5 _ (gw_g 18 rfl)) (gw_c (gw_X9_image_X9_image_r5 _ (gw_g 19 rfl)) (gw_c (gw_X9_image_X9_image_r3 _ (gw_g 20 rfl)) (gw_c (gw_X9_image_X9_image_r5 _ (gw_g 20 rfl)) (gw_c (gw_X9_image_X9_image_r3 _ (gw_g 21 rfl)) (gw_c (gw_X9_image_X9_image_r3 _ (gw_g 22 rfl)) (gw_c (gw_X9_image_X9_image_r3 _ (gw_g 23 rfl)) (gw_c (gw_X9_image_X9_image_r4 _ (gw_g 0 rfl)) (gw_c (gw_X9_image_X9_image_r4 _ (gw_g 1 rfl)) (gw_c (gw_X9_image_X9_image_r4 _ (gw_g 2 rfl)) (gw_c (gw_X9_image_X9_image_r5 _ (gw_g 21 rfl)) (gw_c (gw_X9_image_X9_image_r5 _ (gw_g 22 rfl)) (gw_c (gw_X9_image_X9_image_r5 _ (gw_g 23 rfl)) (gw_c (gw_X9_image_X9_image_r2 _ (gw_g 4 rfl)) (gw_c (gw_X9_image_X9_image_r6 _ (gw_g 0 rfl)) (gw_c (gw_X9_image_X9_image_r6 _ (gw_g 1 rfl)) (gw_c (gw_X9_image_X9_image_r4 _ (gw_g 6 rfl)) (gw_c (gw_X9_image_X9_image_r6 _ (gw_g 2 rfl)) (gw_c (gw_X9_image_X9_image_r4 _ (gw_g 7 rfl)) (gw_c (gw_X9_image_X9_image_r4 _ (gw_g 8 rfl)) (gw_c (gw_X9_image_X9_image_r4 _ (gw_g 9 rfl)) (gw_c (gw_X9_image_X9_image_r4 _ (gw_g 10 rfl)) (gw_c (gw_X9_image_X9_image_r4 _ (gw_g 11 rfl)) (gw_c (gw_X9_image_X9_image_r4 _ (gw_g 12 rfl)) gw_n)))))))))))))))))))))))))) gw_X9_image_X00) gw_X9_image_X40) gw_X9_image_X50) gw_X9_image_X70) gw_X9_image_X10) gw_X9_image_X20)) (by decide +kernel)
set_option maxRecDepth 20000 in
theorem gX9_image_X0_copyFrom : GoodIn wsX9_image (wsV RX9 257 RX0 yX0_copyFrom wsX0_copyFrom) := goodIn_app (goodIn_sub (gw_c (gw_X9_image_X9_image_r4 _ (gw_g 13 rfl)) (gw_c (gw_X9_image_X9_image_r4 _ (gw_g 14 rfl)) (gw_c (gw_X9_image_X9_image_r4 _ (gw_g 15 rfl)) (gw_c (gw_X9_image_X9_image_r1 _ (gw_g 3 rfl)) gw_n)))) (by decide +kernel)) ggX9_image_X0_copyFrom
theorem dX9_image_0 : decode cX9_image 0 = .ok (.iload_n 1, 1) := by decide +kernel
theorem dX9_image_1 : decode cX9_image 1 = .ok (.ifCond .lt 8, 3) := by decide +kernel
theorem dX9_image_4 : decode cX9_image 4 = .ok (.iload_n 1, 1) := by decide +kernel
theorem dX9_image_5 : decode cX9_image 5 = .ok (.iconst 3, 1) := by decide +kernel
theorem dX9_image_6 : decode cX9_image 6 = .ok (.if_icmp .lt 5, 3) := by decide +kernel
theorem dX9_image_9 : decode cX9_image 9 = .ok (.iconst 0, 1) := by decide +kernel
theorem dX9_image_10 : decode cX9_image 10 = .ok (.ireturn, 1) := by decide +kernel
theorem dX9_image_11 : decode cX9_image 11 = .ok (.aload_n 0, 1) := by decide +kernel
theorem dX9_image_12 : decode cX9_image 12 = .ok (.getfield 16, 3) := by decide +kernel
theorem dX9_image_15 : decode cX9_image 15 = .ok (.iload_n 1, 1) := by decide +kernel
theorem dX9_image_16 : decode cX9_image 16 = .ok (.aaload, 1) := by decide +kernel
theorem dX9_image_17 : decode cX9_image 17 = .ok (.ifnonnull 16, 3) := by decide +kernel
theorem dX9_image_20 : decode cX9_image 20 = .ok (.aload_n 0, 1) := by decide +kernel
theorem dX9_image_21 : decode cX9_image 21 = .ok (.getfield 16, 3) := by decide +kernel
theorem dX9_image_24 : decode cX9_image 24 = .ok (.iload_n 1, 1) := by decide +kernel
theorem dX9_image_25 : decode cX9_image 25 = .ok (.new 7, 3) := by decide +kernel
theorem dX9_image_28 : decode cX9_image 28 = .ok (.dup, 1) := by decide +kernel
theorem dX9_image_29 : decode cX9_image 29 = .ok (.invokespecial 9, 3) := by decide +kernel
theorem dX9_image_32 : decode cX9_image 32 = .ok (.aastore, 1) := by decide +kernel
theorem dX9_image_33 : decode cX9_image 33 = .ok (.aload_n 0, 1) := by decide +kernel
theorem dX9_image_34 : decode cX9_image 34 = .ok (.getfield 16, 3) := by decide +kernel
theorem dX9_image_37 : decode cX9_image 37 = .ok (.iload_n 1, 1) := by decide +kernel
theorem dX9_image_38 : decode cX9_image 38 = .ok (.aaload, 1) := by decide +kernel
theorem dX9_image_39 : decode cX9_image 39 = .ok (.aload_n 0, 1) := by decide +kernel
theorem dX9_image_40 : decode cX9_image 40 = .ok (.getfield 10, 3) := by decide +kernel
theorem dX9_image_43 : decode cX9_image 43 = .ok (.invokevirtual 257, 3) := by decide +kernel
theorem dX9_image_46 : decode cX9_image 46 = .ok (.iconst 1, 1) := by decide +kernel
theorem dX9_image_47 : decode cX9_image 47 = .ok (.ireturn, 1) := by decide +kernel
set_option maxRecDepth 20000 in
theorem ggX9_again_X0_copyFrom : GoodIn wsX9_again wsX0_copyFrom := goodIn_sub (gw_c (gw_X9_again_X9_again_r1 _ (gw_g 6 rfl)) (gw_a (gw_a (gw_a (gw_a (gw_a (gw_a (gw_a (gw_c (gw_X9_again_X9_again_r1 _ (gw_g 7 rfl)) (gw_c (gw_X9_again_X9_again_r1 _ (gw_g 8 rfl)) (gw_c (gw_X9_again_X9_again_r1 _ (gw_g 9 rfl)) (gw_c (gw_X9_again_X9_again_r1 _ (gw_g 10 rfl)) (gw_c (gw_X9_again_X9_again_r1 _ (gw_g 11 rfl)) (gw_c (gw_X9_again_X9_again_r1 _ (gw_g 12 rfl)) (gw_c (gw_X9_again_X9_again_r1 _ (gw_g 13 rfl)) (gw_c (gw_X9_again_X9_again_r1 _ (gw_g 14 rfl)) (gw_c (gw_X9_again_X9_again_r1 _ (gw_g 15 rfl)) (gw_c (gw_X9_again_X9_again_r1 _ (gw_g 16 rfl)) (gw_c (gw_X9_again_X9_again_r1 _ (gw_g 17 rfl)) (gw_c (gw_X9_again_X9_again_r1 _ (gw_g 18 rfl)) (gw_c (gw_X9_again_X9_again_r1 _ (gw_g 19 rfl)) (gw_c (gw_X9_again_X9_again_r1 _ (gw_g 20 rfl)) (gw_c (gw_X9_again_X9_again_r1 _ (gw_g 21 rfl)) (gw_c (gw_X9_again_X9_again_r1 _ (gw_g 22 rfl)) (gw_c (gw_X9_again_X9_again_r1 _ (gw_g 23 rfl)) (gw_c (gw_X9_again_X9_again_r2 _ (gw_g 0 rfl)) (gw_c (gw_X9_again_X9_again_r2 _ (gw_g 1 rfl)) (gw_c (gw_X9_again_X9_again_r2 _ (gw_g 2 rfl)) (gw_c (gw_X9_again_X9_again_r2 _ (gw_g 3 rfl)) (gw_c (gw_X9_again_X9_again_r2 _ (gw_g 4 rfl)) (gw_c (gw_X9_again_X9_again_r2 _ (gw_g 5 rfl)) (gw_c (gw_X9_again_X9_again_r2 _ (gw_g 6 rfl)) gw_n)))))))))))))))))))))))) (gw_a (gw_c (gw_X9_again_X9_again_r2 _ (gw_g 7 rfl)) (gw_c (gw_X9_again_X9_again_r2 _ (gw_g 8 rfl)) (gw_c (gw_X9_again_X9_again_r2 _ (gw_g 9 rfl)) (gw_c (gw_X9_again_X9_again_r2 _ (gw_g 10 rfl)) (gw_c (gw_X9_again_X9_again_r2 _ (gw_g 11 rfl)) (gw_c (gw_X9_again_X9_again_r2 _ (gw_g 12 rfl)) (gw_c (gw_X9_again_X9_again_r2 _ (gw_g 13 rfl)) (gw_c (gw_X9_again_X9_again_r2 _ (gw_g 14 rfl)) (gw_c (gw_X9_again_X9_again_r2 _ (gw_g 15 rfl)) (gw_c (gw_X9_again_X9_again_r2 _ (gw_g 16 rfl)) (gw_c (gw_X9_again_X9_again_r2 _ (gw_g 17 rfl)) (gw_c (gw_X9_again_X9_again_r2 _ (gw_g 18 rfl)) (gw_c (gw_X9_again_X9_again_r2 _ (gw_g 19 rfl)) (gw_c (gw_X9_again_X9_again_r2 _ (gw_g 20 rfl)) (gw_c (gw_X9_again_X9_again_r2 _ (gw_g 21 rfl)) (gw_c (gw_X9_again_X9_again_r2 _ (gw_g 22 rfl)) (gw_c (gw_X9_again_X9_again_r2 _ (gw_g 23 rfl)) (gw_c (gw_X9_again_X9_again_r3 _ (gw_g 0 rfl)) (gw_c (gw_X9_again_X9_again_r3 _ (gw_g 1 rfl)) (gw_c (gw_X9_again_X9_again_r3 _ (gw_g 2 rfl)) (gw_c (gw_X9_again_X9_again_r3 _ (gw_g 3 rfl)) (gw_c (gw_X9_again_X9_again_r3 _ (gw_g 4 rfl)) (gw_c (gw_X9_again_X9_again_r3 _ (gw_g 5 rfl)) (gw_c (gw_X9_again_X9_again_r3 _ (gw_g 6 rfl)) gw_n)))))))))))))))))))))))) (gw_c (gw_X9_again_X9_again_r3 _ (gw_g 7 rfl)) (gw_c (gw_X9_again_X9_again_r3 _ (gw_g 8 rfl)) (gw_c (gw_X9_again_X9_again_r3 _ (gw_g 9 rfl)) (gw_c (gw_X9_again_X9_again_r3 _ (gw_g 10 rfl)) (gw_c (gw_X9_again_X9_again_r3 _ (gw_g 11 rfl)) (gw_c (gw_X9_again_X9_again_r3 _ (gw_g 12 rfl)) (gw_c (gw_X9_again_X9_again_r3 _ (gw_g 13 rfl)) (gw_c (gw_X9_again_X9_again_r3 _ (gw_g 14 rfl)) (gw_c (gw_X9_again_X9_again_r3 _ (gw_g 15 rfl)) (gw_c (gw_X9_again_X9_again_r3 _ (gw_g 16 rfl)) (gw_c (gw_X9_again_X9_again_r3 _ (gw_g 17 rfl)) (gw_c (gw_X9_again_X9_again_r3 _ (gw_g 18 rfl)) (gw_c (gw_X9_again_X9_again_r3 _ (gw_g 19 rfl)) (gw_c (gw_X9_again_X9_again_r3 _ (gw_g 20 rfl)) (gw_c (gw_X9_again_X9_again_r3 _ (gw_g 21 rfl)) (gw_c (gw_X9_again_X9_again_r3 _ (gw_g 22 rfl)) (gw_c (gw_X9_again_X9_again_r3 _ (gw_g 23 rfl)) (gw_c (gw_X9_again_X9_again_r4 _ (gw_g 0 rfl)) (gw_c (gw_X9_again_X9_again_r4 _ (gw_g 1 rfl)) (gw_c (gw_X9_again_X9_again_r4 _ (gw_g 2 rfl)) (gw_c (gw_X9_again_X9_again_r4 _ (gw_g 3 rfl)) (gw_c (gw_X9_again_X9_again_r4 _ (gw_g 4 rfl)) (gw_c (gw_X9_again_X9_again_r4 _ (gw_g 5 rfl)) (gw_c (gw_X9_again_X9_again_r4 _ (gw_g 6 rfl)) gw_n)))))))))))))))))))))))))) gw_X9_again_X00) gw_X9_again_X40) gw_X9_again_X50) gw_X9_again_X70) gw_X9_again_X10) gw_X9_again_X20)) (by decide +kernel)
set_option maxRecDepth 20000 in
theorem gX9_again_X0_copyFrom : GoodIn wsX9_again (wsV RX9 257 RX0 yX0_copyFrom wsX0_copyFrom) := goodIn_app (goodIn_sub (gw_c (gw_X9_again_X9_again_r1 _ (gw_g 2 rfl)) (gw_c (gw_X9_again_X9_again_r1 _ (gw_g 3 rfl)) (gw_c (gw_X9_again_X9_again_r1 _ (gw_g 4 rfl)) (gw_c (gw_X9_again_X9_again_r1 _ (gw_g 5 rfl)) gw_n)))) (by decide +kernel)) ggX9_again_X0_copyFrom
theorem dX9_again_0 : decode cX9_again 0 = .ok (.iload_n 1, 1) := by decide +kernel
theorem dX9_again_1 : decode cX9_again 1 = .ok (.ifCond .lt 17, 3) := by decide +kernel
theorem dX9_again_4 : decode cX9_again 4 = .ok (.iload_n 1, 1) := by decide +kernel
theorem dX9_again_5 : decode cX9_again 5 = .ok (.iconst 3, 1) := by decide +kernel
theorem dX9_again_6 : decode cX9_again 6 = .ok (.if_icmp .ge 12, 3) := by decide +kernel
theorem dX9_again_9 : decode cX9_again 9 = .ok (.aload_n 0, 1) := by decide +kernel
theorem dX9_again_10 : decode cX9_again 10 = .ok (.getfield 16, 3) := by decide +kernel
theorem dX9_again_13 : decode cX9_again 13 = .ok (.iload_n 1, 1) := by decide +kernel
theorem dX9_again_14 : decode cX9_again 14 = .ok (.aaload, 1) := by decide +kernel
theorem dX9_again_15 : decode cX9_again 15 = .ok (.ifnonnull 5, 3) := by decide +kernel
theorem dX9_again_18 : decode cX9_again 18 = .ok (.iconst 0, 1) := by decide +kernel
theorem dX9_again_19 : decode cX9_again 19 = .ok (.ireturn, 1) := by decide +kernel
theorem dX9_again_20 : decode cX9_again 20 = .ok (.aload_n 0, 1) := by decide +kernel
theorem dX9_again_21 : decode cX9_again 21 = .ok (.getfield 10, 3) := by decide +kernel
theorem dX9_again_24 : decode cX9_again 24 = .ok (.aload_n 0, 1) := by decide +kernel
theorem dX9_again_25 : decode cX9_again 25 = .ok (.getfield 16, 3) := by decide +kernel
theorem dX9_again_28 : decode cX9_again 28 = .ok (.iload_n 1, 1) := by decide +kernel
theorem dX9_again_29 : decode cX9_again 29 = .ok (.aaload, 1) := by decide +kernel
theorem dX9_again_30 : decode cX9_again 30 = .ok (.invokevirtual 257, 3) := by decide +kernel
theorem dX9_again_33 : decode cX9_again 33 = .ok (.iconst 1, 1) := by decide +kernel
theorem dX9_again_34 : decode cX9_again 34 = .ok (.ireturn, 1) := by decide +kernel
theorem dX9_isOffice_0 : decode cX9_isOffice 0 = .ok (.iload_n 0, 1) := by decide +kernel
theorem dX9_isOffice_1 : decode cX9_isOffice 1 = .ok (.ifCond .lt 13, 3) := by decide +kernel
theorem dX9_isOffice_4 : decode cX9_isOffice 4 = .ok (.iload_n 0, 1) := by decide +kernel
theorem dX9_isOffice_5 : decode cX9_isOffice 5 = .ok (.bipush 6, 2) := by decide +kernel
theorem dX9_isOffice_7 : decode cX9_isOffice 7 = .ok (.if_icmp .ge 7, 3) := by decide +kernel
theorem dX9_isOffice_10 : decode cX9_isOffice 10 = .ok (.iconst 1, 1) := by decide +kernel
theorem dX9_isOffice_11 : decode cX9_isOffice 11 = .ok (.goto 4, 3) := by decide +kernel
theorem dX9_isOffice_14 : decode cX9_isOffice 14 = .ok (.iconst 0, 1) := by decide +kernel
theorem dX9_isOffice_15 : decode cX9_isOffice 15 = .ok (.ireturn, 1) := by decide +kernel
set_option maxRecDepth 20000 in
theorem ggX9_ownerOrNone_X5_hasBerth : GoodIn wsX9_ownerOrNone wsX5_hasBerth := goodIn_sub (gw_c (gw_t (gw_l (gw_l (gw_l (gw_g 6 rfl))))) (gw_a (gw_c (gw_t (gw_l (gw_l (gw_l (gw_g 7 rfl))))) (gw_c (gw_t (gw_l (gw_l (gw_l (gw_g 8 rfl))))) (gw_c (gw_t (gw_l (gw_l (gw_l (gw_g 9 rfl))))) (gw_c (gw_t (gw_l (gw_l (gw_l (gw_g 10 rfl))))) (gw_c (gw_t (gw_l (gw_l (gw_l (gw_g 5 rfl))))) (gw_c (gw_t (gw_l (gw_l (gw_l (gw_g 11 rfl))))) gw_n)))))) gw_X9_ownerOrNone_X50)) (by decide +kernel)
set_option maxRecDepth 20000 in
theorem gX9_ownerOrNone_X5_hasBerth : GoodIn wsX9_ownerOrNone (wsV RX9 176 RX5 yX5_hasBerth wsX5_hasBerth) := goodIn_app (goodIn_sub (gw_c (gw_t (gw_l (gw_l (gw_l (gw_g 2 rfl))))) (gw_c (gw_t (gw_l (gw_l (gw_l (gw_g 3 rfl))))) (gw_c (gw_t (gw_l (gw_l (gw_l (gw_g 4 rfl))))) (gw_c (gw_t (gw_l (gw_l (gw_l (gw_g 5 rfl))))) gw_n)))) (by decide +kernel)) ggX9_ownerOrNone_X5_hasBerth
set_option maxRecDepth 20000 in
theorem ggX9_ownerOrNone_X5_owner : GoodIn wsX9_ownerOrNone wsX5_owner := goodIn_sub (gw_c (gw_t (gw_l (gw_l (gw_l (gw_g 15 rfl))))) (gw_a (gw_c (gw_t (gw_l (gw_l (gw_l (gw_g 16 rfl))))) gw_n) gw_X9_ownerOrNone_X50)) (by decide +kernel)
set_option maxRecDepth 20000 in
theorem gX9_ownerOrNone_X5_owner : GoodIn wsX9_ownerOrNone (wsV RX9 260 RX5 yX5_owner wsX5_owner) := goodIn_app (goodIn_sub (gw_c (gw_t (gw_l (gw_l (gw_l (gw_g 12 rfl))))) (gw_c (gw_t (gw_l (gw_l (gw_l (gw_g 13 rfl))))) (gw_c (gw_t (gw_l (gw_l (gw_l (gw_g 14 rfl))))) (gw_c (gw_t (gw_l (gw_l (gw_l (gw_g 5 rfl))))) gw_n)))) (by decide +kernel)) ggX9_ownerOrNone_X5_owner
theorem dX9_ownerOrNone_0 : decode cX9_ownerOrNone 0 = .ok (.iload_n 2, 1) := by decide +kernel
theorem dX9_ownerOrNone_1 : decode cX9_ownerOrNone 1 = .ok (.bipush 10, 2) := by decide +kernel
theorem dX9_ownerOrNone_3 : decode cX9_ownerOrNone 3 = .ok (.if_icmp .lt 21, 3) := by decide +kernel
theorem dX9_ownerOrNone_6 : decode cX9_ownerOrNone 6 = .ok (.aload_n 0, 1) := by decide +kernel
theorem dX9_ownerOrNone_7 : decode cX9_ownerOrNone 7 = .ok (.getfield 10, 3) := by decide +kernel
theorem dX9_ownerOrNone_10 : decode cX9_ownerOrNone 10 = .ok (.getfield 34, 3) := by decide +kernel
theorem dX9_ownerOrNone_13 : decode cX9_ownerOrNone 13 = .ok (.iload_n 1, 1) := by decide +kernel
theorem dX9_ownerOrNone_14 : decode cX9_ownerOrNone 14 = .ok (.iload_n 2, 1) := by decide +kernel
theorem dX9_ownerOrNone_15 : decode cX9_ownerOrNone 15 = .ok (.bipush 10, 2) := by decide +kernel
theorem dX9_ownerOrNone_17 : decode cX9_ownerOrNone 17 = .ok (.isub, 1) := by decide +kernel
theorem dX9_ownerOrNone_18 : decode cX9_ownerOrNone 18 = .ok (.invokevirtual 176, 3) := by decide +kernel
theorem dX9_ownerOrNone_21 : decode cX9_ownerOrNone 21 = .ok (.ifCond .ne 5, 3) := by decide +kernel
theorem dX9_ownerOrNone_24 : decode cX9_ownerOrNone 24 = .ok (.iconst (-1), 1) := by decide +kernel
theorem dX9_ownerOrNone_25 : decode cX9_ownerOrNone 25 = .ok (.ireturn, 1) := by decide +kernel
theorem dX9_ownerOrNone_26 : decode cX9_ownerOrNone 26 = .ok (.aload_n 0, 1) := by decide +kernel
theorem dX9_ownerOrNone_27 : decode cX9_ownerOrNone 27 = .ok (.getfield 10, 3) := by decide +kernel
theorem dX9_ownerOrNone_30 : decode cX9_ownerOrNone 30 = .ok (.getfield 34, 3) := by decide +kernel
theorem dX9_ownerOrNone_33 : decode cX9_ownerOrNone 33 = .ok (.iload_n 1, 1) := by decide +kernel
theorem dX9_ownerOrNone_34 : decode cX9_ownerOrNone 34 = .ok (.iload_n 2, 1) := by decide +kernel
theorem dX9_ownerOrNone_35 : decode cX9_ownerOrNone 35 = .ok (.bipush 10, 2) := by decide +kernel
theorem dX9_ownerOrNone_37 : decode cX9_ownerOrNone 37 = .ok (.isub, 1) := by decide +kernel
theorem dX9_ownerOrNone_38 : decode cX9_ownerOrNone 38 = .ok (.invokevirtual 260, 3) := by decide +kernel
theorem dX9_ownerOrNone_41 : decode cX9_ownerOrNone 41 = .ok (.ireturn, 1) := by decide +kernel
theorem dX9_isInSet_0 : decode cX9_isInSet 0 = .ok (.iload_n 0, 1) := by decide +kernel
theorem dX9_isInSet_1 : decode cX9_isInSet 1 = .ok (.iload_n 1, 1) := by decide +kernel
theorem dX9_isInSet_2 : decode cX9_isInSet 2 = .ok (.ishr, 1) := by decide +kernel
theorem dX9_isInSet_3 : decode cX9_isInSet 3 = .ok (.iconst 1, 1) := by decide +kernel
theorem dX9_isInSet_4 : decode cX9_isInSet 4 = .ok (.iand, 1) := by decide +kernel
theorem dX9_isInSet_5 : decode cX9_isInSet 5 = .ok (.iconst 1, 1) := by decide +kernel
theorem dX9_isInSet_6 : decode cX9_isInSet 6 = .ok (.if_icmp .ne 7, 3) := by decide +kernel
theorem dX9_isInSet_9 : decode cX9_isInSet 9 = .ok (.iconst 1, 1) := by decide +kernel
theorem dX9_isInSet_10 : decode cX9_isInSet 10 = .ok (.goto 4, 3) := by decide +kernel
theorem dX9_isInSet_13 : decode cX9_isInSet 13 = .ok (.iconst 0, 1) := by decide +kernel
theorem dX9_isInSet_14 : decode cX9_isInSet 14 = .ok (.ireturn, 1) := by decide +kernel
set_option maxRecDepth 20000 in
theorem ggX9_carsOut_X9_isInSet : GoodIn wsX9_carsOut wsX9_isInSet := goodIn_sub (gw_c (gw_t (gw_g 3 rfl)) gw_n) (by decide +kernel)
set_option maxRecDepth 20000 in
theorem gX9_carsOut_X9_isInSet : GoodIn wsX9_carsOut (va_wsS RX9 238 yX9_isInSet wsX9_isInSet) := goodIn_app (goodIn_sub (gw_c (gw_t (gw_g 0 rfl)) (gw_c (gw_t (gw_g 1 rfl)) (gw_c (gw_t (gw_g 2 rfl)) gw_n))) (by decide +kernel)) ggX9_carsOut_X9_isInSet
theorem dX9_carsOut_0 : decode cX9_carsOut 0 = .ok (.iconst 0, 1) := by decide +kernel
theorem dX9_carsOut_1 : decode cX9_carsOut 1 = .ok (.istore_n 3, 1) := by decide +kernel
theorem dX9_carsOut_2 : decode cX9_carsOut 2 = .ok (.iconst 0, 1) := by decide +kernel
theorem dX9_carsOut_3 : decode cX9_carsOut 3 = .ok (.istore 4, 2) := by decide +kernel
theorem dX9_carsOut_5 : decode cX9_carsOut 5 = .ok (.iload 4, 2) := by decide +kernel
theorem dX9_carsOut_7 : decode cX9_carsOut 7 = .ok (.iload_n 1, 1) := by decide +kernel
theorem dX9_carsOut_8 : decode cX9_carsOut 8 = .ok (.if_icmp .gt 32, 3) := by decide +kernel
theorem dX9_carsOut_11 : decode cX9_carsOut 11 = .ok (.iload_n 0, 1) := by decide +kernel
theorem dX9_carsOut_12 : decode cX9_carsOut 12 = .ok (.iload 4, 2) := by decide +kernel
theorem dX9_carsOut_14 : decode cX9_carsOut 14 = .ok (.invokestatic 238, 3) := by decide +kernel
theorem dX9_carsOut_17 : decode cX9_carsOut 17 = .ok (.ifCond .eq 17, 3) := by decide +kernel
theorem dX9_carsOut_20 : decode cX9_carsOut 20 = .ok (.bipush 24, 2) := by decide +kernel
theorem dX9_carsOut_22 : decode cX9_carsOut 22 = .ok (.iload_n 1, 1) := by decide +kernel
theorem dX9_carsOut_23 : decode cX9_carsOut 23 = .ok (.iload 4, 2) := by decide +kernel
theorem dX9_carsOut_25 : decode cX9_carsOut 25 = .ok (.isub, 1) := by decide +kernel
theorem dX9_carsOut_26 : decode cX9_carsOut 26 = .ok (.imul, 1) := by decide +kernel
theorem dX9_carsOut_27 : decode cX9_carsOut 27 = .ok (.iload_n 2, 1) := by decide +kernel
theorem dX9_carsOut_28 : decode cX9_carsOut 28 = .ok (.if_icmp .ge 6, 3) := by decide +kernel
theorem dX9_carsOut_31 : decode cX9_carsOut 31 = .ok (.iinc 3 1, 3) := by decide +kernel
theorem dX9_carsOut_34 : decode cX9_carsOut 34 = .ok (.iinc 4 1, 3) := by decide +kernel
theorem dX9_carsOut_37 : decode cX9_carsOut 37 = .ok (.goto (-32), 3) := by decide +kernel
theorem dX9_carsOut_40 : decode cX9_carsOut 40 = .ok (.iload_n 3, 1) := by decide +kernel
theorem dX9_carsOut_41 : decode cX9_carsOut 41 = .ok (.ireturn, 1) := by decide +kernel
theorem dX9_legsBetween_0 : decode cX9_legsBetween 0 = .ok (.iconst 1, 1) := by decide +kernel
theorem dX9_legsBetween_1 : decode cX9_legsBetween 1 = .ok (.iload_n 1, 1) := by decide +kernel
theorem dX9_legsBetween_2 : decode cX9_legsBetween 2 = .ok (.ishl, 1) := by decide +kernel
theorem dX9_legsBetween_3 : decode cX9_legsBetween 3 = .ok (.iconst 1, 1) := by decide +kernel
theorem dX9_legsBetween_4 : decode cX9_legsBetween 4 = .ok (.iload_n 0, 1) := by decide +kernel
theorem dX9_legsBetween_5 : decode cX9_legsBetween 5 = .ok (.ishl, 1) := by decide +kernel
theorem dX9_legsBetween_6 : decode cX9_legsBetween 6 = .ok (.isub, 1) := by decide +kernel
theorem dX9_legsBetween_7 : decode cX9_legsBetween 7 = .ok (.ireturn, 1) := by decide +kernel
theorem dJ9_abs_0f7a4_0 : decode cJ9_abs_0f7a4 0 = .ok (.iload_n 0, 1) := by decide +kernel
theorem dJ9_abs_0f7a4_1 : decode cJ9_abs_0f7a4 1 = .ok (.ifCond .ge 8, 3) := by decide +kernel
theorem dJ9_abs_0f7a4_4 : decode cJ9_abs_0f7a4 4 = .ok (.iload_n 0, 1) := by decide +kernel
theorem dJ9_abs_0f7a4_5 : decode cJ9_abs_0f7a4 5 = .ok (.ineg, 1) := by decide +kernel
theorem dJ9_abs_0f7a4_6 : decode cJ9_abs_0f7a4 6 = .ok (.goto 4, 3) := by decide +kernel
theorem dJ9_abs_0f7a4_9 : decode cJ9_abs_0f7a4 9 = .ok (.iload_n 0, 1) := by decide +kernel
theorem dJ9_abs_0f7a4_10 : decode cJ9_abs_0f7a4 10 = .ok (.ireturn, 1) := by decide +kernel
theorem dJ9_max_7cf53_0 : decode cJ9_max_7cf53 0 = .ok (.iload_n 0, 1) := by decide +kernel
theorem dJ9_max_7cf53_1 : decode cJ9_max_7cf53 1 = .ok (.iload_n 1, 1) := by decide +kernel
theorem dJ9_max_7cf53_2 : decode cJ9_max_7cf53 2 = .ok (.if_icmp .lt 7, 3) := by decide +kernel
theorem dJ9_max_7cf53_5 : decode cJ9_max_7cf53 5 = .ok (.iload_n 0, 1) := by decide +kernel
theorem dJ9_max_7cf53_6 : decode cJ9_max_7cf53 6 = .ok (.goto 4, 3) := by decide +kernel
theorem dJ9_max_7cf53_9 : decode cJ9_max_7cf53 9 = .ok (.iload_n 1, 1) := by decide +kernel
theorem dJ9_max_7cf53_10 : decode cJ9_max_7cf53 10 = .ok (.ireturn, 1) := by decide +kernel
set_option maxRecDepth 20000 in
theorem ggJ0_length_8abf5_J0_coder_7d493 : GoodIn wsJ0_length_8abf5 wsJ0_coder_7d493 := goodIn_sub (gw_c (gw_t (gw_g 5 rfl)) (gw_c (gw_t (gw_g 6 rfl)) (gw_c (gw_t (gw_g 7 rfl)) gw_n))) (by decide +kernel)
set_option maxRecDepth 20000 in
theorem gJ0_length_8abf5_J0_coder_7d493 : GoodIn wsJ0_length_8abf5 (wsV RJ0 335 RJ0 yJ0_coder_7d493 wsJ0_coder_7d493) := goodIn_app (goodIn_sub (gw_c (gw_t (gw_g 1 rfl)) (gw_c (gw_t (gw_g 2 rfl)) (gw_c (gw_t (gw_g 3 rfl)) (gw_c (gw_t (gw_g 4 rfl)) gw_n)))) (by decide +kernel)) ggJ0_length_8abf5_J0_coder_7d493
theorem dJ0_length_8abf5_0 : decode cJ0_length_8abf5 0 = .ok (.aload_n 0, 1) := by decide +kernel
theorem dJ0_length_8abf5_1 : decode cJ0_length_8abf5 1 = .ok (.getfield 9, 3) := by decide +kernel
theorem dJ0_length_8abf5_4 : decode cJ0_length_8abf5 4 = .ok (.arraylength, 1) := by decide +kernel
theorem dJ0_length_8abf5_5 : decode cJ0_length_8abf5 5 = .ok (.aload_n 0, 1) := by decide +kernel
theorem dJ0_length_8abf5_6 : decode cJ0_length_8abf5 6 = .ok (.invokevirtual 335, 3) := by decide +kernel
theorem dJ0_length_8abf5_9 : decode cJ0_length_8abf5 9 = .ok (.ishr, 1) := by decide +kernel
theorem dJ0_length_8abf5_10 : decode cJ0_length_8abf5 10 = .ok (.ireturn, 1) := by decide +kernel
set_option maxRecDepth 20000 in
theorem ggJ0_charAt_5068e_J0_isLatin1_aae02 : GoodIn wsJ0_charAt_5068e wsJ0_isLatin1_aae02 := goodIn_sub (gw_c (gw_J0_charAt_5068e_J0_charAt_5068e_r1 _ (gw_g 5 rfl)) (gw_c (gw_J0_charAt_5068e_J0_charAt_5068e_r1 _ (gw_g 6 rfl)) (gw_c (gw_J0_charAt_5068e_J0_charAt_5068e_r1 _ (gw_g 7 rfl)) gw_n))) (by decide +kernel)
set_option maxRecDepth 20000 in
theorem gJ0_charAt_5068e_J0_isLatin1_aae02 : GoodIn wsJ0_charAt_5068e (wsV RJ0 492 RJ0 yJ0_isLatin1_aae02 wsJ0_isLatin1_aae02) := goodIn_app (goodIn_sub (gw_c (gw_J0_charAt_5068e_J0_charAt_5068e_r1 _ (gw_g 1 rfl)) (gw_c (gw_J0_charAt_5068e_J0_charAt_5068e_r1 _ (gw_g 2 rfl)) (gw_c (gw_J0_charAt_5068e_J0_charAt_5068e_r1 _ (gw_g 3 rfl)) (gw_c (gw_J0_charAt_5068e_J0_charAt_5068e_r1 _ (gw_g 4 rfl)) gw_n)))) (by decide +kernel)) ggJ0_charAt_5068e_J0_isLatin1_aae02
set_option maxRecDepth 20000 in
theorem ggJ0_charAt_5068e_J1_charAt_3b067 : GoodIn wsJ0_charAt_5068e wsJ1_charAt_3b067 := goodIn_sub (gw_c (gw_J0_charAt_5068e_J0_charAt_5068e_r1 _ (gw_g 11 rfl)) (gw_c (gw_J0_charAt_5068e_J0_charAt_5068e_r1 _ (gw_g 12 rfl)) (gw_c (gw_J0_charAt_5068e_J0_charAt_5068e_r1 _ (gw_g 13 rfl)) (gw_c (gw_J0_charAt_5068e_J0_charAt_5068e_r1 _ (gw_g 4 rfl)) (gw_c (gw_J0_charAt_5068e_J0_charAt_5068e_r1 _ (gw_g 14 rfl)) (gw_c (gw_J0_charAt_5068e_J0_charAt_5068e_r1 _ (gw_g 15 rfl)) (gw_c (gw_J0_charAt_5068e_J0_charAt_5068e_r1 _ (gw_g 16 rfl)) (gw_c (gw_J0_charAt_5068e_J0_charAt_5068e_r1 _ (gw_g 17 rfl)) (gw_c (gw_J0_charAt_5068e_J0_charAt_5068e_r1 _ (gw_g 18 rfl)) (gw_c (gw_J0_charAt_5068e_J0_charAt_5068e_r1 _ (gw_g 19 rfl)) gw_n)))))))))) (by decide +kernel)
