set_option maxRecDepth 20000 in
theorem ggX0_init_X4_init : GoodIn wsX0_init wsX4_init := goodIn_sub (gw_c (gw_X0_init_X0_init_r2 _ (gw_g 6 rfl)) (gw_a (gw_c (gw_X0_init_X0_init_r2 _ (gw_g 7 rfl)) (gw_c (gw_X0_init_X0_init_r1 _ (gw_g 1 rfl)) (gw_c (gw_X0_init_X0_init_r1 _ (gw_g 2 rfl)) (gw_c (gw_X0_init_X0_init_r1 _ (gw_g 23 rfl)) (gw_c (gw_X0_init_X0_init_r2 _ (gw_g 8 rfl)) (gw_c (gw_X0_init_X0_init_r2 _ (gw_g 9 rfl)) (gw_c (gw_X0_init_X0_init_r2 _ (gw_g 10 rfl)) (gw_c (gw_X0_init_X0_init_r2 _ (gw_g 11 rfl)) (gw_c (gw_X0_init_X0_init_r2 _ (gw_g 12 rfl)) (gw_c (gw_X0_init_X0_init_r1 _ (gw_g 5 rfl)) (gw_c (gw_X0_init_X0_init_r2 _ (gw_g 13 rfl)) (gw_c (gw_X0_init_X0_init_r2 _ (gw_g 14 rfl)) (gw_c (gw_X0_init_X0_init_r2 _ (gw_g 15 rfl)) (gw_c (gw_X0_init_X0_init_r2 _ (gw_g 16 rfl)) (gw_c (gw_X0_init_X0_init_r2 _ (gw_g 17 rfl)) (gw_c (gw_X0_init_X0_init_r2 _ (gw_g 18 rfl)) gw_n)))))))))))))))) gw_X0_init_X40)) (by decide +kernel)
set_option maxRecDepth 20000 in
theorem gX0_init_X4_init : GoodIn wsX0_init (wsX4_init) := ggX0_init_X4_init
set_option maxRecDepth 20000 in
theorem ggX0_init_X5_init : GoodIn wsX0_init wsX5_init := goodIn_sub (gw_c (gw_X0_init_X0_init_r2 _ (gw_g 20 rfl)) (gw_a (gw_c (gw_X0_init_X0_init_r2 _ (gw_g 21 rfl)) (gw_c (gw_X0_init_X0_init_r1 _ (gw_g 1 rfl)) (gw_c (gw_X0_init_X0_init_r1 _ (gw_g 2 rfl)) (gw_c (gw_X0_init_X0_init_r1 _ (gw_g 23 rfl)) (gw_c (gw_X0_init_X0_init_r2 _ (gw_g 22 rfl)) (gw_c (gw_X0_init_X0_init_r2 _ (gw_g 23 rfl)) (gw_c (gw_X0_init_X0_init_r3 _ (gw_g 0 rfl)) gw_n))))))) gw_X0_init_X50)) (by decide +kernel)
set_option maxRecDepth 20000 in
theorem gX0_init_X5_init_n20 : GoodIn wsX0_init (wsX5_init) := ggX0_init_X5_init
set_option maxRecDepth 20000 in
theorem ggX0_init_X7_init : GoodIn wsX0_init wsX7_init := goodIn_sub (gw_c (gw_X0_init_X0_init_r3 _ (gw_g 2 rfl)) (gw_a (gw_c (gw_X0_init_X0_init_r3 _ (gw_g 3 rfl)) (gw_c (gw_X0_init_X0_init_r1 _ (gw_g 1 rfl)) (gw_c (gw_X0_init_X0_init_r1 _ (gw_g 2 rfl)) (gw_c (gw_X0_init_X0_init_r1 _ (gw_g 23 rfl)) (gw_c (gw_X0_init_X0_init_r3 _ (gw_g 4 rfl)) (gw_c (gw_X0_init_X0_init_r3 _ (gw_g 5 rfl)) (gw_c (gw_X0_init_X0_init_r3 _ (gw_g 6 rfl)) (gw_c (gw_X0_init_X0_init_r3 _ (gw_g 7 rfl)) (gw_c (gw_X0_init_X0_init_r3 _ (gw_g 8 rfl)) (gw_c (gw_X0_init_X0_init_r3 _ (gw_g 9 rfl)) gw_n)))))))))) gw_X0_init_X70)) (by decide +kernel)
set_option maxRecDepth 20000 in
theorem gX0_init_X7_init_n27 : GoodIn wsX0_init (wsX7_init) := ggX0_init_X7_init
set_option maxRecDepth 20000 in
theorem ggX0_init_X1_init : GoodIn wsX0_init wsX1_init := goodIn_sub (gw_c (gw_X0_init_X0_init_r3 _ (gw_g 11 rfl)) (gw_a (gw_c (gw_X0_init_X0_init_r3 _ (gw_g 12 rfl)) (gw_c (gw_X0_init_X0_init_r1 _ (gw_g 1 rfl)) (gw_c (gw_X0_init_X0_init_r1 _ (gw_g 2 rfl)) (gw_c (gw_X0_init_X0_init_r1 _ (gw_g 23 rfl)) (gw_c (gw_X0_init_X0_init_r3 _ (gw_g 13 rfl)) (gw_c (gw_X0_init_X0_init_r3 _ (gw_g 14 rfl)) (gw_c (gw_X0_init_X0_init_r3 _ (gw_g 15 rfl)) (gw_c (gw_X0_init_X0_init_r3 _ (gw_g 16 rfl)) (gw_c (gw_X0_init_X0_init_r3 _ (gw_g 17 rfl)) (gw_c (gw_X0_init_X0_init_r3 _ (gw_g 18 rfl)) (gw_c (gw_X0_init_X0_init_r3 _ (gw_g 19 rfl)) gw_n))))))))))) gw_X0_init_X10)) (by decide +kernel)
set_option maxRecDepth 20000 in
theorem gX0_init_X1_init_n34 : GoodIn wsX0_init (wsX1_init) := ggX0_init_X1_init
set_option maxRecDepth 20000 in
theorem ggX0_init_X2_init : GoodIn wsX0_init wsX2_init := goodIn_sub (gw_c (gw_X0_init_X0_init_r3 _ (gw_g 21 rfl)) (gw_a (gw_c (gw_X0_init_X0_init_r3 _ (gw_g 22 rfl)) (gw_c (gw_X0_init_X0_init_r1 _ (gw_g 1 rfl)) (gw_c (gw_X0_init_X0_init_r1 _ (gw_g 2 rfl)) (gw_c (gw_X0_init_X0_init_r1 _ (gw_g 23 rfl)) (gw_c (gw_X0_init_X0_init_r3 _ (gw_g 23 rfl)) (gw_c (gw_X0_init_X0_init_r4 _ (gw_g 0 rfl)) (gw_c (gw_X0_init_X0_init_r4 _ (gw_g 1 rfl)) (gw_c (gw_X0_init_X0_init_r4 _ (gw_g 2 rfl)) (gw_c (gw_X0_init_X0_init_r4 _ (gw_g 3 rfl)) (gw_c (gw_X0_init_X0_init_r4 _ (gw_g 4 rfl)) (gw_c (gw_X0_init_X0_init_r4 _ (gw_g 5 rfl)) gw_n))))))))))) gw_X0_init_X20)) (by decide +kernel)
set_option maxRecDepth 20000 in
theorem gX0_init_X2_init_n41 : GoodIn wsX0_init (wsX2_init) := ggX0_init_X2_init
theorem dX0_init_0 : decode cX0_init 0 = .ok (.aload_n 0, 1) := by decide +kernel
theorem dX0_init_1 : decode cX0_init 1 = .ok (.invokespecial 3, 3) := by decide +kernel
theorem dX0_init_4 : decode cX0_init 4 = .ok (.aload_n 0, 1) := by decide +kernel
theorem dX0_init_5 : decode cX0_init 5 = .ok (.new 9, 3) := by decide +kernel
theorem dX0_init_8 : decode cX0_init 8 = .ok (.dup, 1) := by decide +kernel
theorem dX0_init_9 : decode cX0_init 9 = .ok (.invokespecial 11, 3) := by decide +kernel
theorem dX0_init_12 : decode cX0_init 12 = .ok (.putfield 12, 3) := by decide +kernel
theorem dX0_init_15 : decode cX0_init 15 = .ok (.aload_n 0, 1) := by decide +kernel
theorem dX0_init_16 : decode cX0_init 16 = .ok (.new 18, 3) := by decide +kernel
theorem dX0_init_19 : decode cX0_init 19 = .ok (.dup, 1) := by decide +kernel
theorem dX0_init_20 : decode cX0_init 20 = .ok (.invokespecial 20, 3) := by decide +kernel
theorem dX0_init_23 : decode cX0_init 23 = .ok (.putfield 21, 3) := by decide +kernel
theorem dX0_init_26 : decode cX0_init 26 = .ok (.aload_n 0, 1) := by decide +kernel
theorem dX0_init_27 : decode cX0_init 27 = .ok (.new 25, 3) := by decide +kernel
theorem dX0_init_30 : decode cX0_init 30 = .ok (.dup, 1) := by decide +kernel
theorem dX0_init_31 : decode cX0_init 31 = .ok (.invokespecial 27, 3) := by decide +kernel
theorem dX0_init_34 : decode cX0_init 34 = .ok (.putfield 28, 3) := by decide +kernel
theorem dX0_init_37 : decode cX0_init 37 = .ok (.aload_n 0, 1) := by decide +kernel
theorem dX0_init_38 : decode cX0_init 38 = .ok (.new 32, 3) := by decide +kernel
theorem dX0_init_41 : decode cX0_init 41 = .ok (.dup, 1) := by decide +kernel
theorem dX0_init_42 : decode cX0_init 42 = .ok (.invokespecial 34, 3) := by decide +kernel
theorem dX0_init_45 : decode cX0_init 45 = .ok (.putfield 35, 3) := by decide +kernel
theorem dX0_init_48 : decode cX0_init 48 = .ok (.aload_n 0, 1) := by decide +kernel
theorem dX0_init_49 : decode cX0_init 49 = .ok (.new 39, 3) := by decide +kernel
theorem dX0_init_52 : decode cX0_init 52 = .ok (.dup, 1) := by decide +kernel
theorem dX0_init_53 : decode cX0_init 53 = .ok (.invokespecial 41, 3) := by decide +kernel
theorem dX0_init_56 : decode cX0_init 56 = .ok (.putfield 42, 3) := by decide +kernel
theorem dX0_init_59 : decode cX0_init 59 = .ok (.aload_n 0, 1) := by decide +kernel
theorem dX0_init_60 : decode cX0_init 60 = .ok (.bipush 6, 2) := by decide +kernel
theorem dX0_init_62 : decode cX0_init 62 = .ok (.newarray .int, 2) := by decide +kernel
theorem dX0_init_64 : decode cX0_init 64 = .ok (.putfield 46, 3) := by decide +kernel
theorem dX0_init_67 : decode cX0_init 67 = .ok (.aload_n 0, 1) := by decide +kernel
theorem dX0_init_68 : decode cX0_init 68 = .ok (.bipush 10, 2) := by decide +kernel
theorem dX0_init_70 : decode cX0_init 70 = .ok (.newarray .int, 2) := by decide +kernel
theorem dX0_init_72 : decode cX0_init 72 = .ok (.putfield 50, 3) := by decide +kernel
theorem dX0_init_75 : decode cX0_init 75 = .ok (.aload_n 0, 1) := by decide +kernel
theorem dX0_init_76 : decode cX0_init 76 = .ok (.bipush 10, 2) := by decide +kernel
theorem dX0_init_78 : decode cX0_init 78 = .ok (.newarray .int, 2) := by decide +kernel
theorem dX0_init_80 : decode cX0_init 80 = .ok (.putfield 53, 3) := by decide +kernel
theorem dX0_init_83 : decode cX0_init 83 = .ok (.aload_n 0, 1) := by decide +kernel
theorem dX0_init_84 : decode cX0_init 84 = .ok (.iconst 5, 1) := by decide +kernel
theorem dX0_init_85 : decode cX0_init 85 = .ok (.newarray .int, 2) := by decide +kernel
theorem dX0_init_87 : decode cX0_init 87 = .ok (.putfield 56, 3) := by decide +kernel
theorem dX0_init_90 : decode cX0_init 90 = .ok (.return_, 1) := by decide +kernel
set_option maxRecDepth 20000 in
theorem ggX0_isRunStretch_X5_isTold : GoodIn wsX0_isRunStretch wsX5_isTold := goodIn_sub (gw_c (gw_t (gw_l (gw_l (gw_l (gw_g 6 rfl))))) (gw_a (gw_c (gw_t (gw_l (gw_l (gw_l (gw_g 7 rfl))))) gw_n) gw_X0_isRunStretch_X50)) (by decide +kernel)
set_option maxRecDepth 20000 in
theorem gX0_isRunStretch_X5_isTold : GoodIn wsX0_isRunStretch (wsV RX0 59 RX5 yX5_isTold wsX5_isTold) := goodIn_app (goodIn_sub (gw_c (gw_t (gw_l (gw_l (gw_l (gw_g 2 rfl))))) (gw_c (gw_t (gw_l (gw_l (gw_l (gw_g 3 rfl))))) (gw_c (gw_t (gw_l (gw_l (gw_l (gw_g 4 rfl))))) (gw_c (gw_t (gw_l (gw_l (gw_l (gw_g 5 rfl))))) gw_n)))) (by decide +kernel)) ggX0_isRunStretch_X5_isTold
set_option maxRecDepth 20000 in
theorem ggX0_isRunStretch_X4_isStretch : GoodIn wsX0_isRunStretch wsX4_isStretch := goodIn_sub (gw_c (gw_t (gw_l (gw_l (gw_l (gw_g 12 rfl))))) (gw_a (gw_c (gw_t (gw_l (gw_l (gw_l (gw_g 13 rfl))))) gw_n) gw_X0_isRunStretch_X40)) (by decide +kernel)
set_option maxRecDepth 20000 in
theorem gX0_isRunStretch_X4_isStretch : GoodIn wsX0_isRunStretch (wsV RX0 63 RX4 yX4_isStretch wsX4_isStretch) := goodIn_app (goodIn_sub (gw_c (gw_t (gw_l (gw_l (gw_l (gw_g 8 rfl))))) (gw_c (gw_t (gw_l (gw_l (gw_l (gw_g 9 rfl))))) (gw_c (gw_t (gw_l (gw_l (gw_l (gw_g 10 rfl))))) (gw_c (gw_t (gw_l (gw_l (gw_l (gw_g 11 rfl))))) gw_n)))) (by decide +kernel)) ggX0_isRunStretch_X4_isStretch
theorem dX0_isRunStretch_0 : decode cX0_isRunStretch 0 = .ok (.aload_n 0, 1) := by decide +kernel
theorem dX0_isRunStretch_1 : decode cX0_isRunStretch 1 = .ok (.getfield 21, 3) := by decide +kernel
theorem dX0_isRunStretch_4 : decode cX0_isRunStretch 4 = .ok (.iload_n 1, 1) := by decide +kernel
theorem dX0_isRunStretch_5 : decode cX0_isRunStretch 5 = .ok (.invokevirtual 59, 3) := by decide +kernel
theorem dX0_isRunStretch_8 : decode cX0_isRunStretch 8 = .ok (.ifCond .eq 19, 3) := by decide +kernel
theorem dX0_isRunStretch_11 : decode cX0_isRunStretch 11 = .ok (.aload_n 0, 1) := by decide +kernel
theorem dX0_isRunStretch_12 : decode cX0_isRunStretch 12 = .ok (.getfield 12, 3) := by decide +kernel
theorem dX0_isRunStretch_15 : decode cX0_isRunStretch 15 = .ok (.iload_n 2, 1) := by decide +kernel
theorem dX0_isRunStretch_16 : decode cX0_isRunStretch 16 = .ok (.iload_n 3, 1) := by decide +kernel
theorem dX0_isRunStretch_17 : decode cX0_isRunStretch 17 = .ok (.invokevirtual 63, 3) := by decide +kernel
theorem dX0_isRunStretch_20 : decode cX0_isRunStretch 20 = .ok (.ifCond .eq 7, 3) := by decide +kernel
theorem dX0_isRunStretch_23 : decode cX0_isRunStretch 23 = .ok (.iconst 1, 1) := by decide +kernel
theorem dX0_isRunStretch_24 : decode cX0_isRunStretch 24 = .ok (.goto 4, 3) := by decide +kernel
theorem dX0_isRunStretch_27 : decode cX0_isRunStretch 27 = .ok (.iconst 0, 1) := by decide +kernel
theorem dX0_isRunStretch_28 : decode cX0_isRunStretch 28 = .ok (.ireturn, 1) := by decide +kernel
set_option maxRecDepth 20000 in
theorem ggX0_hasLeft_X4_hoursTo : GoodIn wsX0_hasLeft wsX4_hoursTo := goodIn_sub (gw_c (gw_t (gw_l (gw_l (gw_g 6 rfl)))) (gw_a (gw_c (gw_t (gw_l (gw_l (gw_g 7 rfl)))) gw_n) gw_X0_hasLeft_X40)) (by decide +kernel)
set_option maxRecDepth 20000 in
theorem gX0_hasLeft_X4_hoursTo : GoodIn wsX0_hasLeft (wsV RX0 71 RX4 yX4_hoursTo wsX4_hoursTo) := goodIn_app (goodIn_sub (gw_c (gw_t (gw_l (gw_l (gw_g 2 rfl)))) (gw_c (gw_t (gw_l (gw_l (gw_g 3 rfl)))) (gw_c (gw_t (gw_l (gw_l (gw_g 4 rfl)))) (gw_c (gw_t (gw_l (gw_l (gw_g 5 rfl)))) gw_n)))) (by decide +kernel)) ggX0_hasLeft_X4_hoursTo
theorem dX0_hasLeft_0 : decode cX0_hasLeft 0 = .ok (.aload_n 0, 1) := by decide +kernel
theorem dX0_hasLeft_1 : decode cX0_hasLeft 1 = .ok (.getfield 67, 3) := by decide +kernel
theorem dX0_hasLeft_4 : decode cX0_hasLeft 4 = .ok (.bipush 24, 2) := by decide +kernel
theorem dX0_hasLeft_6 : decode cX0_hasLeft 6 = .ok (.iload_n 1, 1) := by decide +kernel
theorem dX0_hasLeft_7 : decode cX0_hasLeft 7 = .ok (.imul, 1) := by decide +kernel
theorem dX0_hasLeft_8 : decode cX0_hasLeft 8 = .ok (.aload_n 0, 1) := by decide +kernel
theorem dX0_hasLeft_9 : decode cX0_hasLeft 9 = .ok (.getfield 12, 3) := by decide +kernel
theorem dX0_hasLeft_12 : decode cX0_hasLeft 12 = .ok (.iload_n 2, 1) := by decide +kernel
theorem dX0_hasLeft_13 : decode cX0_hasLeft 13 = .ok (.invokevirtual 71, 3) := by decide +kernel
theorem dX0_hasLeft_16 : decode cX0_hasLeft 16 = .ok (.iadd, 1) := by decide +kernel
theorem dX0_hasLeft_17 : decode cX0_hasLeft 17 = .ok (.if_icmp .lt 7, 3) := by decide +kernel
theorem dX0_hasLeft_20 : decode cX0_hasLeft 20 = .ok (.iconst 1, 1) := by decide +kernel
theorem dX0_hasLeft_21 : decode cX0_hasLeft 21 = .ok (.goto 4, 3) := by decide +kernel
theorem dX0_hasLeft_24 : decode cX0_hasLeft 24 = .ok (.iconst 0, 1) := by decide +kernel
theorem dX0_hasLeft_25 : decode cX0_hasLeft 25 = .ok (.ireturn, 1) := by decide +kernel
set_option maxRecDepth 20000 in
theorem ggX0_isOnChart_X5_owner : GoodIn wsX0_isOnChart wsX5_owner := goodIn_sub (gw_c (gw_t (gw_l (gw_l (gw_g 6 rfl)))) (gw_a (gw_c (gw_t (gw_l (gw_l (gw_g 7 rfl)))) gw_n) gw_X0_isOnChart_X50)) (by decide +kernel)
set_option maxRecDepth 20000 in
theorem gX0_isOnChart_X5_owner : GoodIn wsX0_isOnChart (wsV RX0 75 RX5 yX5_owner wsX5_owner) := goodIn_app (goodIn_sub (gw_c (gw_t (gw_l (gw_l (gw_g 2 rfl)))) (gw_c (gw_t (gw_l (gw_l (gw_g 3 rfl)))) (gw_c (gw_t (gw_l (gw_l (gw_g 4 rfl)))) (gw_c (gw_t (gw_l (gw_l (gw_g 5 rfl)))) gw_n)))) (by decide +kernel)) ggX0_isOnChart_X5_owner
theorem dX0_isOnChart_0 : decode cX0_isOnChart 0 = .ok (.aload_n 0, 1) := by decide +kernel
theorem dX0_isOnChart_1 : decode cX0_isOnChart 1 = .ok (.getfield 67, 3) := by decide +kernel
theorem dX0_isOnChart_4 : decode cX0_isOnChart 4 = .ok (.bipush 24, 2) := by decide +kernel
theorem dX0_isOnChart_6 : decode cX0_isOnChart 6 = .ok (.iload_n 2, 1) := by decide +kernel
theorem dX0_isOnChart_7 : decode cX0_isOnChart 7 = .ok (.imul, 1) := by decide +kernel
theorem dX0_isOnChart_8 : decode cX0_isOnChart 8 = .ok (.bipush 12, 2) := by decide +kernel
theorem dX0_isOnChart_10 : decode cX0_isOnChart 10 = .ok (.isub, 1) := by decide +kernel
theorem dX0_isOnChart_11 : decode cX0_isOnChart 11 = .ok (.if_icmp .ge 16, 3) := by decide +kernel
theorem dX0_isOnChart_14 : decode cX0_isOnChart 14 = .ok (.aload_n 0, 1) := by decide +kernel
theorem dX0_isOnChart_15 : decode cX0_isOnChart 15 = .ok (.getfield 21, 3) := by decide +kernel
theorem dX0_isOnChart_18 : decode cX0_isOnChart 18 = .ok (.iload_n 2, 1) := by decide +kernel
theorem dX0_isOnChart_19 : decode cX0_isOnChart 19 = .ok (.iload_n 3, 1) := by decide +kernel
theorem dX0_isOnChart_20 : decode cX0_isOnChart 20 = .ok (.invokevirtual 75, 3) := by decide +kernel
theorem dX0_isOnChart_23 : decode cX0_isOnChart 23 = .ok (.iload_n 1, 1) := by decide +kernel
theorem dX0_isOnChart_24 : decode cX0_isOnChart 24 = .ok (.if_icmp .ne 7, 3) := by decide +kernel
theorem dX0_isOnChart_27 : decode cX0_isOnChart 27 = .ok (.iconst 1, 1) := by decide +kernel
theorem dX0_isOnChart_28 : decode cX0_isOnChart 28 = .ok (.goto 4, 3) := by decide +kernel
theorem dX0_isOnChart_31 : decode cX0_isOnChart 31 = .ok (.iconst 0, 1) := by decide +kernel
theorem dX0_isOnChart_32 : decode cX0_isOnChart 32 = .ok (.ireturn, 1) := by decide +kernel
set_option maxRecDepth 20000 in
theorem ggX0_sellStretch_X7_isFull : GoodIn wsX0_sellStretch wsX7_isFull := goodIn_sub (gw_c (gw_X0_sellStretch_X0_sellStretch_r1 _ (gw_g 6 rfl)) (gw_a (gw_c (gw_X0_sellStretch_X0_sellStretch_r1 _ (gw_g 7 rfl)) gw_n) gw_X0_sellStretch_X70)) (by decide +kernel)
set_option maxRecDepth 20000 in
theorem gX0_sellStretch_X7_isFull : GoodIn wsX0_sellStretch (wsV RX0 79 RX7 yX7_isFull wsX7_isFull) := goodIn_app (goodIn_sub (gw_c (gw_X0_sellStretch_X0_sellStretch_r1 _ (gw_g 2 rfl)) (gw_c (gw_X0_sellStretch_X0_sellStretch_r1 _ (gw_g 3 rfl)) (gw_c (gw_X0_sellStretch_X0_sellStretch_r1 _ (gw_g 4 rfl)) (gw_c (gw_X0_sellStretch_X0_sellStretch_r1 _ (gw_g 5 rfl)) gw_n)))) (by decide +kernel)) ggX0_sellStretch_X7_isFull
set_option maxRecDepth 20000 in
theorem ggX0_sellStretch_X0_hasLeft : GoodIn wsX0_sellStretch wsX0_hasLeft := goodIn_sub (gw_c (gw_X0_sellStretch_X0_sellStretch_r1 _ (gw_g 12 rfl)) (gw_a (gw_a (gw_c (gw_X0_sellStretch_X0_sellStretch_r1 _ (gw_g 13 rfl)) (gw_c (gw_X0_sellStretch_X0_sellStretch_r1 _ (gw_g 14 rfl)) (gw_c (gw_X0_sellStretch_X0_sellStretch_r1 _ (gw_g 15 rfl)) (gw_c (gw_X0_sellStretch_X0_sellStretch_r1 _ (gw_g 16 rfl)) (gw_c (gw_X0_sellStretch_X0_sellStretch_r1 _ (gw_g 17 rfl)) (gw_c (gw_X0_sellStretch_X0_sellStretch_r1 _ (gw_g 18 rfl)) (gw_c (gw_X0_sellStretch_X0_sellStretch_r1 _ (gw_g 19 rfl)) (gw_c (gw_X0_sellStretch_X0_sellStretch_r1 _ (gw_g 20 rfl)) gw_n)))))))) gw_X0_sellStretch_X00) gw_X0_sellStretch_X40)) (by decide +kernel)
set_option maxRecDepth 20000 in
theorem gX0_sellStretch_X0_hasLeft : GoodIn wsX0_sellStretch (wsV RX0 83 RX0 yX0_hasLeft wsX0_hasLeft) := goodIn_app (goodIn_sub (gw_c (gw_X0_sellStretch_X0_sellStretch_r1 _ (gw_g 8 rfl)) (gw_c (gw_X0_sellStretch_X0_sellStretch_r1 _ (gw_g 9 rfl)) (gw_c (gw_X0_sellStretch_X0_sellStretch_r1 _ (gw_g 10 rfl)) (gw_c (gw_X0_sellStretch_X0_sellStretch_r1 _ (gw_g 11 rfl)) gw_n)))) (by decide +kernel)) ggX0_sellStretch_X0_hasLeft
set_option maxRecDepth 20000 in
theorem ggX0_sellStretch_X0_tightestBerth : GoodIn wsX0_sellStretch wsX0_tightestBerth := goodIn_sub (gw_c (gw_X0_sellStretch_X0_sellStretch_r2 _ (gw_g 0 rfl)) (gw_a (gw_a (gw_a (gw_a (gw_c (gw_X0_sellStretch_X0_sellStretch_r1 _ (gw_g 1 rfl)) (gw_c (gw_X0_sellStretch_X0_sellStretch_r2 _ (gw_g 1 rfl)) (gw_c (gw_X0_sellStretch_X0_sellStretch_r1 _ (gw_g 14 rfl)) (gw_c (gw_X0_sellStretch_X0_sellStretch_r2 _ (gw_g 2 rfl)) (gw_c (gw_X0_sellStretch_X0_sellStretch_r2 _ (gw_g 3 rfl)) (gw_c (gw_X0_sellStretch_X0_sellStretch_r2 _ (gw_g 4 rfl)) (gw_c (gw_X0_sellStretch_X0_sellStretch_r2 _ (gw_g 5 rfl)) (gw_c (gw_X0_sellStretch_X0_sellStretch_r2 _ (gw_g 6 rfl)) (gw_c (gw_X0_sellStretch_X0_sellStretch_r2 _ (gw_g 7 rfl)) (gw_c (gw_X0_sellStretch_X0_sellStretch_r2 _ (gw_g 8 rfl)) (gw_c (gw_X0_sellStretch_X0_sellStretch_r2 _ (gw_g 9 rfl)) (gw_c (gw_X0_sellStretch_X0_sellStretch_r2 _ (gw_g 10 rfl)) (gw_c (gw_X0_sellStretch_X0_sellStretch_r2 _ (gw_g 11 rfl)) (gw_c (gw_X0_sellStretch_X0_sellStretch_r2 _ (gw_g 12 rfl)) (gw_c (gw_X0_sellStretch_X0_sellStretch_r2 _ (gw_g 13 rfl)) (gw_c (gw_X0_sellStretch_X0_sellStretch_r2 _ (gw_g 14 rfl)) (gw_c (gw_X0_sellStretch_X0_sellStretch_r1 _ (gw_g 11 rfl)) (gw_c (gw_X0_sellStretch_X0_sellStretch_r2 _ (gw_g 15 rfl)) (gw_c (gw_X0_sellStretch_X0_sellStretch_r1 _ (gw_g 13 rfl)) (gw_c (gw_X0_sellStretch_X0_sellStretch_r2 _ (gw_g 16 rfl)) (gw_c (gw_X0_sellStretch_X0_sellStretch_r2 _ (gw_g 17 rfl)) (gw_c (gw_X0_sellStretch_X0_sellStretch_r2 _ (gw_g 18 rfl)) (gw_c (gw_X0_sellStretch_X0_sellStretch_r2 _ (gw_g 19 rfl)) (gw_c (gw_X0_sellStretch_X0_sellStretch_r2 _ (gw_g 20 rfl)) gw_n)))))))))))))))))))))))) (gw_c (gw_X0_sellStretch_X0_sellStretch_r2 _ (gw_g 21 rfl)) (gw_c (gw_X0_sellStretch_X0_sellStretch_r2 _ (gw_g 22 rfl)) (gw_c (gw_X0_sellStretch_X0_sellStretch_r2 _ (gw_g 23 rfl)) (gw_c (gw_X0_sellStretch_X0_sellStretch_r3 _ (gw_g 0 rfl)) (gw_c (gw_X0_sellStretch_X0_sellStretch_r3 _ (gw_g 1 rfl)) (gw_c (gw_X0_sellStretch_X0_sellStretch_r3 _ (gw_g 2 rfl)) (gw_c (gw_X0_sellStretch_X0_sellStretch_r3 _ (gw_g 3 rfl)) (gw_c (gw_X0_sellStretch_X0_sellStretch_r3 _ (gw_g 4 rfl)) (gw_c (gw_X0_sellStretch_X0_sellStretch_r3 _ (gw_g 5 rfl)) gw_n)))))))))) gw_X0_sellStretch_X00) gw_X0_sellStretch_X50) gw_X0_sellStretch_X40)) (by decide +kernel)
set_option maxRecDepth 20000 in
theorem gX0_sellStretch_X0_tightestBerth : GoodIn wsX0_sellStretch (wsV RX0 86 RX0 yX0_tightestBerth wsX0_tightestBerth) := goodIn_app (goodIn_sub (gw_c (gw_X0_sellStretch_X0_sellStretch_r1 _ (gw_g 21 rfl)) (gw_c (gw_X0_sellStretch_X0_sellStretch_r1 _ (gw_g 22 rfl)) (gw_c (gw_X0_sellStretch_X0_sellStretch_r1 _ (gw_g 23 rfl)) (gw_c (gw_X0_sellStretch_X0_sellStretch_r1 _ (gw_g 11 rfl)) gw_n)))) (by decide +kernel)) ggX0_sellStretch_X0_tightestBerth
set_option maxRecDepth 20000 in
theorem ggX0_sellStretch_X5_legsOf : GoodIn wsX0_sellStretch wsX5_legsOf := goodIn_sub (gw_c (gw_X0_sellStretch_X0_sellStretch_r2 _ (gw_g 7 rfl)) (gw_a (gw_c (gw_X0_sellStretch_X0_sellStretch_r2 _ (gw_g 8 rfl)) gw_n) gw_X0_sellStretch_X50)) (by decide +kernel)
set_option maxRecDepth 20000 in
theorem gX0_sellStretch_X5_legsOf : GoodIn wsX0_sellStretch (wsV RX0 90 RX5 yX5_legsOf wsX5_legsOf) := goodIn_app (goodIn_sub (gw_c (gw_X0_sellStretch_X0_sellStretch_r2 _ (gw_g 3 rfl)) (gw_c (gw_X0_sellStretch_X0_sellStretch_r2 _ (gw_g 4 rfl)) (gw_c (gw_X0_sellStretch_X0_sellStretch_r2 _ (gw_g 5 rfl)) (gw_c (gw_X0_sellStretch_X0_sellStretch_r2 _ (gw_g 6 rfl)) gw_n)))) (by decide +kernel)) ggX0_sellStretch_X5_legsOf
set_option maxRecDepth 20000 in
theorem ggX0_sellStretch_X9_legsBetween : GoodIn wsX0_sellStretch wsX9_legsBetween := goodIn_sub (gw_c (gw_X0_sellStretch_X0_sellStretch_r2 _ (gw_g 11 rfl)) gw_n) (by decide +kernel)
set_option maxRecDepth 20000 in
theorem gX0_sellStretch_X9_legsBetween_n93 : GoodIn wsX0_sellStretch (wsX9_legsBetween) := ggX0_sellStretch_X9_legsBetween
set_option maxRecDepth 20000 in
theorem ggX0_sellStretch_X5_setLegs : GoodIn wsX0_sellStretch wsX5_setLegs := goodIn_sub (gw_c (gw_X0_sellStretch_X0_sellStretch_r3 _ (gw_g 9 rfl)) (gw_a (gw_c (gw_X0_sellStretch_X0_sellStretch_r2 _ (gw_g 8 rfl)) gw_n) gw_X0_sellStretch_X50)) (by decide +kernel)
set_option maxRecDepth 20000 in
theorem gX0_sellStretch_X5_setLegs : GoodIn wsX0_sellStretch (wsV RX0 96 RX5 yX5_setLegs wsX5_setLegs) := goodIn_app (goodIn_sub (gw_c (gw_X0_sellStretch_X0_sellStretch_r3 _ (gw_g 6 rfl)) (gw_c (gw_X0_sellStretch_X0_sellStretch_r3 _ (gw_g 7 rfl)) (gw_c (gw_X0_sellStretch_X0_sellStretch_r3 _ (gw_g 8 rfl)) (gw_c (gw_X0_sellStretch_X0_sellStretch_r2 _ (gw_g 6 rfl)) gw_n)))) (by decide +kernel)) ggX0_sellStretch_X5_setLegs
set_option maxRecDepth 20000 in
theorem ggX0_sellStretch_X7_add : GoodIn wsX0_sellStretch wsX7_add := goodIn_sub (gw_c (gw_X0_sellStretch_X0_sellStretch_r3 _ (gw_g 13 rfl)) (gw_a (gw_c (gw_X0_sellStretch_X0_sellStretch_r3 _ (gw_g 14 rfl)) (gw_c (gw_X0_sellStretch_X0_sellStretch_r1 _ (gw_g 7 rfl)) (gw_c (gw_X0_sellStretch_X0_sellStretch_r3 _ (gw_g 15 rfl)) (gw_c (gw_X0_sellStretch_X0_sellStretch_r3 _ (gw_g 16 rfl)) (gw_c (gw_X0_sellStretch_X0_sellStretch_r3 _ (gw_g 17 rfl)) (gw_c (gw_X0_sellStretch_X0_sellStretch_r3 _ (gw_g 18 rfl)) (gw_c (gw_X0_sellStretch_X0_sellStretch_r3 _ (gw_g 19 rfl)) (gw_c (gw_X0_sellStretch_X0_sellStretch_r3 _ (gw_g 20 rfl)) (gw_c (gw_X0_sellStretch_X0_sellStretch_r1 _ (gw_g 3 rfl)) (gw_c (gw_X0_sellStretch_X0_sellStretch_r1 _ (gw_g 4 rfl)) (gw_c (gw_X0_sellStretch_X0_sellStretch_r1 _ (gw_g 5 rfl)) (gw_c (gw_X0_sellStretch_X0_sellStretch_r1 _ (gw_g 6 rfl)) gw_n)))))))))))) gw_X0_sellStretch_X70)) (by decide +kernel)
set_option maxRecDepth 20000 in
theorem gX0_sellStretch_X7_add : GoodIn wsX0_sellStretch (wsV RX0 100 RX7 yX7_add wsX7_add) := goodIn_app (goodIn_sub (gw_c (gw_X0_sellStretch_X0_sellStretch_r3 _ (gw_g 10 rfl)) (gw_c (gw_X0_sellStretch_X0_sellStretch_r3 _ (gw_g 11 rfl)) (gw_c (gw_X0_sellStretch_X0_sellStretch_r3 _ (gw_g 12 rfl)) (gw_c (gw_X0_sellStretch_X0_sellStretch_r1 _ (gw_g 5 rfl)) gw_n)))) (by decide +kernel)) ggX0_sellStretch_X7_add
theorem dX0_sellStretch_0 : decode cX0_sellStretch 0 = .ok (.aload_n 0, 1) := by decide +kernel
theorem dX0_sellStretch_1 : decode cX0_sellStretch 1 = .ok (.getfield 28, 3) := by decide +kernel
theorem dX0_sellStretch_4 : decode cX0_sellStretch 4 = .ok (.invokevirtual 79, 3) := by decide +kernel
theorem dX0_sellStretch_7 : decode cX0_sellStretch 7 = .ok (.ifCond .ne 12, 3) := by decide +kernel
theorem dX0_sellStretch_10 : decode cX0_sellStretch 10 = .ok (.aload_n 0, 1) := by decide +kernel
theorem dX0_sellStretch_11 : decode cX0_sellStretch 11 = .ok (.iload_n 2, 1) := by decide +kernel
theorem dX0_sellStretch_12 : decode cX0_sellStretch 12 = .ok (.iload_n 3, 1) := by decide +kernel
theorem dX0_sellStretch_13 : decode cX0_sellStretch 13 = .ok (.invokevirtual 83, 3) := by decide +kernel
theorem dX0_sellStretch_16 : decode cX0_sellStretch 16 = .ok (.ifCond .eq 5, 3) := by decide +kernel
theorem dX0_sellStretch_19 : decode cX0_sellStretch 19 = .ok (.iconst (-1), 1) := by decide +kernel
theorem dX0_sellStretch_20 : decode cX0_sellStretch 20 = .ok (.ireturn, 1) := by decide +kernel
theorem dX0_sellStretch_21 : decode cX0_sellStretch 21 = .ok (.aload_n 0, 1) := by decide +kernel
theorem dX0_sellStretch_22 : decode cX0_sellStretch 22 = .ok (.iload_n 1, 1) := by decide +kernel
theorem dX0_sellStretch_23 : decode cX0_sellStretch 23 = .ok (.iload_n 2, 1) := by decide +kernel
theorem dX0_sellStretch_24 : decode cX0_sellStretch 24 = .ok (.iload_n 3, 1) := by decide +kernel
theorem dX0_sellStretch_25 : decode cX0_sellStretch 25 = .ok (.iload 4, 2) := by decide +kernel
theorem dX0_sellStretch_27 : decode cX0_sellStretch 27 = .ok (.invokevirtual 86, 3) := by decide +kernel
theorem dX0_sellStretch_30 : decode cX0_sellStretch 30 = .ok (.istore 5, 2) := by decide +kernel
theorem dX0_sellStretch_32 : decode cX0_sellStretch 32 = .ok (.iload 5, 2) := by decide +kernel
theorem dX0_sellStretch_34 : decode cX0_sellStretch 34 = .ok (.iconst (-1), 1) := by decide +kernel
theorem dX0_sellStretch_35 : decode cX0_sellStretch 35 = .ok (.if_icmp .ne 5, 3) := by decide +kernel
theorem dX0_sellStretch_38 : decode cX0_sellStretch 38 = .ok (.iconst (-1), 1) := by decide +kernel
theorem dX0_sellStretch_39 : decode cX0_sellStretch 39 = .ok (.ireturn, 1) := by decide +kernel
theorem dX0_sellStretch_40 : decode cX0_sellStretch 40 = .ok (.aload_n 0, 1) := by decide +kernel
theorem dX0_sellStretch_41 : decode cX0_sellStretch 41 = .ok (.getfield 21, 3) := by decide +kernel
theorem dX0_sellStretch_44 : decode cX0_sellStretch 44 = .ok (.iload_n 2, 1) := by decide +kernel
theorem dX0_sellStretch_45 : decode cX0_sellStretch 45 = .ok (.iload 5, 2) := by decide +kernel
theorem dX0_sellStretch_47 : decode cX0_sellStretch 47 = .ok (.aload_n 0, 1) := by decide +kernel
theorem dX0_sellStretch_48 : decode cX0_sellStretch 48 = .ok (.getfield 21, 3) := by decide +kernel
theorem dX0_sellStretch_51 : decode cX0_sellStretch 51 = .ok (.iload_n 2, 1) := by decide +kernel
theorem dX0_sellStretch_52 : decode cX0_sellStretch 52 = .ok (.iload 5, 2) := by decide +kernel
theorem dX0_sellStretch_54 : decode cX0_sellStretch 54 = .ok (.invokevirtual 90, 3) := by decide +kernel
theorem dX0_sellStretch_57 : decode cX0_sellStretch 57 = .ok (.iload_n 3, 1) := by decide +kernel
theorem dX0_sellStretch_58 : decode cX0_sellStretch 58 = .ok (.iload 4, 2) := by decide +kernel
theorem dX0_sellStretch_60 : decode cX0_sellStretch 60 = .ok (.invokestatic 93, 3) := by decide +kernel
theorem dX0_sellStretch_63 : decode cX0_sellStretch 63 = .ok (.ior, 1) := by decide +kernel
theorem dX0_sellStretch_64 : decode cX0_sellStretch 64 = .ok (.invokevirtual 96, 3) := by decide +kernel
theorem dX0_sellStretch_67 : decode cX0_sellStretch 67 = .ok (.aload_n 0, 1) := by decide +kernel
theorem dX0_sellStretch_68 : decode cX0_sellStretch 68 = .ok (.getfield 28, 3) := by decide +kernel
theorem dX0_sellStretch_71 : decode cX0_sellStretch 71 = .ok (.iload_n 1, 1) := by decide +kernel
theorem dX0_sellStretch_72 : decode cX0_sellStretch 72 = .ok (.iload_n 2, 1) := by decide +kernel
theorem dX0_sellStretch_73 : decode cX0_sellStretch 73 = .ok (.iload 5, 2) := by decide +kernel
theorem dX0_sellStretch_75 : decode cX0_sellStretch 75 = .ok (.iload_n 3, 1) := by decide +kernel
theorem dX0_sellStretch_76 : decode cX0_sellStretch 76 = .ok (.iload 4, 2) := by decide +kernel
theorem dX0_sellStretch_78 : decode cX0_sellStretch 78 = .ok (.invokevirtual 100, 3) := by decide +kernel
theorem dX0_sellStretch_81 : decode cX0_sellStretch 81 = .ok (.ireturn, 1) := by decide +kernel
set_option maxRecDepth 20000 in
theorem ggX0_tightestBerth_X5_legsOf : GoodIn wsX0_tightestBerth wsX5_legsOf := goodIn_sub (gw_c (gw_X0_tightestBerth_X0_tightestBerth_r1 _ (gw_g 8 rfl)) (gw_a (gw_c (gw_X0_tightestBerth_X0_tightestBerth_r1 _ (gw_g 9 rfl)) gw_n) gw_X0_tightestBerth_X50)) (by decide +kernel)
set_option maxRecDepth 20000 in
theorem gX0_tightestBerth_X5_legsOf : GoodIn wsX0_tightestBerth (wsV RX0 90 RX5 yX5_legsOf wsX5_legsOf) := goodIn_app (goodIn_sub (gw_c (gw_X0_tightestBerth_X0_tightestBerth_r1 _ (gw_g 4 rfl)) (gw_c (gw_X0_tightestBerth_X0_tightestBerth_r1 _ (gw_g 5 rfl)) (gw_c (gw_X0_tightestBerth_X0_tightestBerth_r1 _ (gw_g 6 rfl)) (gw_c (gw_X0_tightestBerth_X0_tightestBerth_r1 _ (gw_g 7 rfl)) gw_n)))) (by decide +kernel)) ggX0_tightestBerth_X5_legsOf
set_option maxRecDepth 20000 in
theorem ggX0_tightestBerth_X9_legsBetween : GoodIn wsX0_tightestBerth wsX9_legsBetween := goodIn_sub (gw_c (gw_X0_tightestBerth_X0_tightestBerth_r1 _ (gw_g 12 rfl)) gw_n) (by decide +kernel)
set_option maxRecDepth 20000 in
theorem gX0_tightestBerth_X9_legsBetween_n93 : GoodIn wsX0_tightestBerth (wsX9_legsBetween) := ggX0_tightestBerth_X9_legsBetween
set_option maxRecDepth 20000 in
theorem ggX0_tightestBerth_X0_isOnChart : GoodIn wsX0_tightestBerth wsX0_isOnChart := goodIn_sub (gw_c (gw_X0_tightestBerth_X0_tightestBerth_r1 _ (gw_g 17 rfl)) (gw_a (gw_a (gw_c (gw_X0_tightestBerth_X0_tightestBerth_r1 _ (gw_g 18 rfl)) (gw_c (gw_X0_tightestBerth_X0_tightestBerth_r1 _ (gw_g 0 rfl)) (gw_c (gw_X0_tightestBerth_X0_tightestBerth_r1 _ (gw_g 19 rfl)) (gw_c (gw_X0_tightestBerth_X0_tightestBerth_r1 _ (gw_g 20 rfl)) (gw_c (gw_X0_tightestBerth_X0_tightestBerth_r1 _ (gw_g 21 rfl)) (gw_c (gw_X0_tightestBerth_X0_tightestBerth_r1 _ (gw_g 7 rfl)) (gw_c (gw_X0_tightestBerth_X0_tightestBerth_r1 _ (gw_g 22 rfl)) (gw_c (gw_X0_tightestBerth_X0_tightestBerth_r1 _ (gw_g 23 rfl)) gw_n)))))))) gw_X0_tightestBerth_X00) gw_X0_tightestBerth_X50)) (by decide +kernel)
set_option maxRecDepth 20000 in
theorem gX0_tightestBerth_X0_isOnChart : GoodIn wsX0_tightestBerth (wsV RX0 107 RX0 yX0_isOnChart wsX0_isOnChart) := goodIn_app (goodIn_sub (gw_c (gw_X0_tightestBerth_X0_tightestBerth_r1 _ (gw_g 13 rfl)) (gw_c (gw_X0_tightestBerth_X0_tightestBerth_r1 _ (gw_g 14 rfl)) (gw_c (gw_X0_tightestBerth_X0_tightestBerth_r1 _ (gw_g 15 rfl)) (gw_c (gw_X0_tightestBerth_X0_tightestBerth_r1 _ (gw_g 16 rfl)) gw_n)))) (by decide +kernel)) ggX0_tightestBerth_X0_isOnChart
set_option maxRecDepth 20000 in
theorem ggX0_tightestBerth_X5_gap : GoodIn wsX0_tightestBerth wsX5_gap := goodIn_sub (gw_c (gw_X0_tightestBerth_X0_tightestBerth_r2 _ (gw_g 3 rfl)) (gw_a (gw_c (gw_X0_tightestBerth_X0_tightestBerth_r2 _ (gw_g 4 rfl)) (gw_c (gw_X0_tightestBerth_X0_tightestBerth_r2 _ (gw_g 5 rfl)) (gw_c (gw_X0_tightestBerth_X0_tightestBerth_r2 _ (gw_g 6 rfl)) (gw_c (gw_X0_tightestBerth_X0_tightestBerth_r1 _ (gw_g 7 rfl)) (gw_c (gw_X0_tightestBerth_X0_tightestBerth_r2 _ (gw_g 7 rfl)) (gw_c (gw_X0_tightestBerth_X0_tightestBerth_r2 _ (gw_g 8 rfl)) (gw_c (gw_X0_tightestBerth_X0_tightestBerth_r1 _ (gw_g 5 rfl)) (gw_c (gw_X0_tightestBerth_X0_tightestBerth_r1 _ (gw_g 6 rfl)) (gw_c (gw_X0_tightestBerth_X0_tightestBerth_r1 _ (gw_g 8 rfl)) (gw_c (gw_X0_tightestBerth_X0_tightestBerth_r1 _ (gw_g 9 rfl)) gw_n)))))))))) gw_X0_tightestBerth_X50)) (by decide +kernel)
set_option maxRecDepth 20000 in
theorem gX0_tightestBerth_X5_gap : GoodIn wsX0_tightestBerth (wsV RX0 114 RX5 yX5_gap wsX5_gap) := goodIn_app (goodIn_sub (gw_c (gw_X0_tightestBerth_X0_tightestBerth_r2 _ (gw_g 0 rfl)) (gw_c (gw_X0_tightestBerth_X0_tightestBerth_r2 _ (gw_g 1 rfl)) (gw_c (gw_X0_tightestBerth_X0_tightestBerth_r2 _ (gw_g 2 rfl)) (gw_c (gw_X0_tightestBerth_X0_tightestBerth_r1 _ (gw_g 7 rfl)) gw_n)))) (by decide +kernel)) ggX0_tightestBerth_X5_gap
theorem dX0_tightestBerth_0 : decode cX0_tightestBerth 0 = .ok (.iconst (-1), 1) := by decide +kernel
theorem dX0_tightestBerth_1 : decode cX0_tightestBerth 1 = .ok (.istore 5, 2) := by decide +kernel
theorem dX0_tightestBerth_3 : decode cX0_tightestBerth 3 = .ok (.bipush 10, 2) := by decide +kernel
theorem dX0_tightestBerth_5 : decode cX0_tightestBerth 5 = .ok (.istore 6, 2) := by decide +kernel
theorem dX0_tightestBerth_7 : decode cX0_tightestBerth 7 = .ok (.iconst 0, 1) := by decide +kernel
theorem dX0_tightestBerth_8 : decode cX0_tightestBerth 8 = .ok (.istore 7, 2) := by decide +kernel
theorem dX0_tightestBerth_10 : decode cX0_tightestBerth 10 = .ok (.iload 7, 2) := by decide +kernel
theorem dX0_tightestBerth_12 : decode cX0_tightestBerth 12 = .ok (.aload_n 0, 1) := by decide +kernel
theorem dX0_tightestBerth_13 : decode cX0_tightestBerth 13 = .ok (.getfield 21, 3) := by decide +kernel
theorem dX0_tightestBerth_16 : decode cX0_tightestBerth 16 = .ok (.getfield 104, 3) := by decide +kernel
theorem dX0_tightestBerth_19 : decode cX0_tightestBerth 19 = .ok (.iload_n 2, 1) := by decide +kernel
theorem dX0_tightestBerth_20 : decode cX0_tightestBerth 20 = .ok (.iaload, 1) := by decide +kernel
theorem dX0_tightestBerth_21 : decode cX0_tightestBerth 21 = .ok (.if_icmp .ge 91, 3) := by decide +kernel
theorem dX0_tightestBerth_24 : decode cX0_tightestBerth 24 = .ok (.aload_n 0, 1) := by decide +kernel
theorem dX0_tightestBerth_25 : decode cX0_tightestBerth 25 = .ok (.getfield 21, 3) := by decide +kernel
theorem dX0_tightestBerth_28 : decode cX0_tightestBerth 28 = .ok (.iload_n 2, 1) := by decide +kernel
theorem dX0_tightestBerth_29 : decode cX0_tightestBerth 29 = .ok (.iload 7, 2) := by decide +kernel
theorem dX0_tightestBerth_31 : decode cX0_tightestBerth 31 = .ok (.invokevirtual 90, 3) := by decide +kernel
theorem dX0_tightestBerth_34 : decode cX0_tightestBerth 34 = .ok (.iload_n 3, 1) := by decide +kernel
theorem dX0_tightestBerth_35 : decode cX0_tightestBerth 35 = .ok (.iload 4, 2) := by decide +kernel
theorem dX0_tightestBerth_37 : decode cX0_tightestBerth 37 = .ok (.invokestatic 93, 3) := by decide +kernel
theorem dX0_tightestBerth_40 : decode cX0_tightestBerth 40 = .ok (.iand, 1) := by decide +kernel
theorem dX0_tightestBerth_41 : decode cX0_tightestBerth 41 = .ok (.ifCond .ne 7, 3) := by decide +kernel
theorem dX0_tightestBerth_44 : decode cX0_tightestBerth 44 = .ok (.iconst 1, 1) := by decide +kernel
theorem dX0_tightestBerth_45 : decode cX0_tightestBerth 45 = .ok (.goto 4, 3) := by decide +kernel
theorem dX0_tightestBerth_48 : decode cX0_tightestBerth 48 = .ok (.iconst 0, 1) := by decide +kernel
theorem dX0_tightestBerth_49 : decode cX0_tightestBerth 49 = .ok (.istore 8, 2) := by decide +kernel
theorem dX0_tightestBerth_51 : decode cX0_tightestBerth 51 = .ok (.iload 8, 2) := by decide +kernel
theorem dX0_tightestBerth_53 : decode cX0_tightestBerth 53 = .ok (.ifCond .eq 53, 3) := by decide +kernel
theorem dX0_tightestBerth_56 : decode cX0_tightestBerth 56 = .ok (.aload_n 0, 1) := by decide +kernel
theorem dX0_tightestBerth_57 : decode cX0_tightestBerth 57 = .ok (.iload_n 1, 1) := by decide +kernel
theorem dX0_tightestBerth_58 : decode cX0_tightestBerth 58 = .ok (.iload_n 2, 1) := by decide +kernel
theorem dX0_tightestBerth_59 : decode cX0_tightestBerth 59 = .ok (.iload 7, 2) := by decide +kernel
theorem dX0_tightestBerth_61 : decode cX0_tightestBerth 61 = .ok (.invokevirtual 107, 3) := by decide +kernel
theorem dX0_tightestBerth_64 : decode cX0_tightestBerth 64 = .ok (.ifCond .eq 42, 3) := by decide +kernel
theorem dX0_tightestBerth_67 : decode cX0_tightestBerth 67 = .ok (.aload_n 0, 1) := by decide +kernel
theorem dX0_tightestBerth_68 : decode cX0_tightestBerth 68 = .ok (.getfield 21, 3) := by decide +kernel
theorem dX0_tightestBerth_71 : decode cX0_tightestBerth 71 = .ok (.iload_n 2, 1) := by decide +kernel
theorem dX0_tightestBerth_72 : decode cX0_tightestBerth 72 = .ok (.iload 7, 2) := by decide +kernel
theorem dX0_tightestBerth_74 : decode cX0_tightestBerth 74 = .ok (.iload_n 3, 1) := by decide +kernel
theorem dX0_tightestBerth_75 : decode cX0_tightestBerth 75 = .ok (.iload 4, 2) := by decide +kernel
theorem dX0_tightestBerth_77 : decode cX0_tightestBerth 77 = .ok (.aload_n 0, 1) := by decide +kernel
theorem dX0_tightestBerth_78 : decode cX0_tightestBerth 78 = .ok (.getfield 12, 3) := by decide +kernel
theorem dX0_tightestBerth_81 : decode cX0_tightestBerth 81 = .ok (.getfield 111, 3) := by decide +kernel
theorem dX0_tightestBerth_84 : decode cX0_tightestBerth 84 = .ok (.iconst 1, 1) := by decide +kernel
theorem dX0_tightestBerth_85 : decode cX0_tightestBerth 85 = .ok (.isub, 1) := by decide +kernel
theorem dX0_tightestBerth_86 : decode cX0_tightestBerth 86 = .ok (.invokevirtual 114, 3) := by decide +kernel
theorem dX0_tightestBerth_89 : decode cX0_tightestBerth 89 = .ok (.istore 9, 2) := by decide +kernel
theorem dX0_tightestBerth_91 : decode cX0_tightestBerth 91 = .ok (.iload 9, 2) := by decide +kernel
theorem dX0_tightestBerth_93 : decode cX0_tightestBerth 93 = .ok (.iload 6, 2) := by decide +kernel
theorem dX0_tightestBerth_95 : decode cX0_tightestBerth 95 = .ok (.if_icmp .ge 11, 3) := by decide +kernel
theorem dX0_tightestBerth_98 : decode cX0_tightestBerth 98 = .ok (.iload 7, 2) := by decide +kernel
theorem dX0_tightestBerth_100 : decode cX0_tightestBerth 100 = .ok (.istore 5, 2) := by decide +kernel
theorem dX0_tightestBerth_102 : decode cX0_tightestBerth 102 = .ok (.iload 9, 2) := by decide +kernel
theorem dX0_tightestBerth_104 : decode cX0_tightestBerth 104 = .ok (.istore 6, 2) := by decide +kernel
theorem dX0_tightestBerth_106 : decode cX0_tightestBerth 106 = .ok (.iinc 7 1, 3) := by decide +kernel
theorem dX0_tightestBerth_109 : decode cX0_tightestBerth 109 = .ok (.goto (-99), 3) := by decide +kernel
theorem dX0_tightestBerth_112 : decode cX0_tightestBerth 112 = .ok (.iload 5, 2) := by decide +kernel
theorem dX0_tightestBerth_114 : decode cX0_tightestBerth 114 = .ok (.ireturn, 1) := by decide +kernel
set_option maxRecDepth 20000 in
theorem ggX0_takeBack_X0_hasLeft : GoodIn wsX0_takeBack wsX0_hasLeft := goodIn_sub (gw_c (gw_X0_takeBack_X0_takeBack_r1 _ (gw_g 10 rfl)) (gw_a (gw_a (gw_c (gw_X0_takeBack_X0_takeBack_r1 _ (gw_g 11 rfl)) (gw_c (gw_X0_takeBack_X0_takeBack_r1 _ (gw_g 12 rfl)) (gw_c (gw_X0_takeBack_X0_takeBack_r1 _ (gw_g 13 rfl)) (gw_c (gw_X0_takeBack_X0_takeBack_r1 _ (gw_g 14 rfl)) (gw_c (gw_X0_takeBack_X0_takeBack_r1 _ (gw_g 15 rfl)) (gw_c (gw_X0_takeBack_X0_takeBack_r1 _ (gw_g 16 rfl)) (gw_c (gw_X0_takeBack_X0_takeBack_r1 _ (gw_g 17 rfl)) (gw_c (gw_X0_takeBack_X0_takeBack_r1 _ (gw_g 18 rfl)) gw_n)))))))) gw_X0_takeBack_X00) gw_X0_takeBack_X40)) (by decide +kernel)
set_option maxRecDepth 20000 in
theorem gX0_takeBack_X0_hasLeft : GoodIn wsX0_takeBack (wsV RX0 83 RX0 yX0_hasLeft wsX0_hasLeft) := goodIn_app (goodIn_sub (gw_c (gw_X0_takeBack_X0_takeBack_r1 _ (gw_g 6 rfl)) (gw_c (gw_X0_takeBack_X0_takeBack_r1 _ (gw_g 7 rfl)) (gw_c (gw_X0_takeBack_X0_takeBack_r1 _ (gw_g 8 rfl)) (gw_c (gw_X0_takeBack_X0_takeBack_r1 _ (gw_g 9 rfl)) gw_n)))) (by decide +kernel)) ggX0_takeBack_X0_hasLeft
set_option maxRecDepth 20000 in
theorem ggX0_takeBack_X5_legsOf : GoodIn wsX0_takeBack wsX5_legsOf := goodIn_sub (gw_c (gw_X0_takeBack_X0_takeBack_r1 _ (gw_g 23 rfl)) (gw_a (gw_c (gw_X0_takeBack_X0_takeBack_r2 _ (gw_g 0 rfl)) gw_n) gw_X0_takeBack_X50)) (by decide +kernel)
set_option maxRecDepth 20000 in
theorem gX0_takeBack_X5_legsOf : GoodIn wsX0_takeBack (wsV RX0 90 RX5 yX5_legsOf wsX5_legsOf) := goodIn_app (goodIn_sub (gw_c (gw_X0_takeBack_X0_takeBack_r1 _ (gw_g 19 rfl)) (gw_c (gw_X0_takeBack_X0_takeBack_r1 _ (gw_g 20 rfl)) (gw_c (gw_X0_takeBack_X0_takeBack_r1 _ (gw_g 21 rfl)) (gw_c (gw_X0_takeBack_X0_takeBack_r1 _ (gw_g 22 rfl)) gw_n)))) (by decide +kernel)) ggX0_takeBack_X5_legsOf
set_option maxRecDepth 20000 in
theorem ggX0_takeBack_X7_legsOf : GoodIn wsX0_takeBack wsX7_legsOf := goodIn_sub (gw_c (gw_X0_takeBack_X0_takeBack_r2 _ (gw_g 5 rfl)) (gw_a (gw_c (gw_X0_takeBack_X0_takeBack_r2 _ (gw_g 6 rfl)) (gw_c (gw_X0_takeBack_X0_takeBack_r2 _ (gw_g 7 rfl)) (gw_c (gw_X0_takeBack_X0_takeBack_r2 _ (gw_g 8 rfl)) (gw_c (gw_X0_takeBack_X0_takeBack_r2 _ (gw_g 9 rfl)) (gw_c (gw_X0_takeBack_X0_takeBack_r2 _ (gw_g 10 rfl)) gw_n))))) gw_X0_takeBack_X70)) (by decide +kernel)
set_option maxRecDepth 20000 in
theorem gX0_takeBack_X7_legsOf : GoodIn wsX0_takeBack (wsV RX0 127 RX7 yX7_legsOf wsX7_legsOf) := goodIn_app (goodIn_sub (gw_c (gw_X0_takeBack_X0_takeBack_r2 _ (gw_g 1 rfl)) (gw_c (gw_X0_takeBack_X0_takeBack_r2 _ (gw_g 2 rfl)) (gw_c (gw_X0_takeBack_X0_takeBack_r2 _ (gw_g 3 rfl)) (gw_c (gw_X0_takeBack_X0_takeBack_r2 _ (gw_g 4 rfl)) gw_n)))) (by decide +kernel)) ggX0_takeBack_X7_legsOf
set_option maxRecDepth 20000 in
theorem ggX0_takeBack_X5_setLegs : GoodIn wsX0_takeBack wsX5_setLegs := goodIn_sub (gw_c (gw_X0_takeBack_X0_takeBack_r2 _ (gw_g 14 rfl)) (gw_a (gw_c (gw_X0_takeBack_X0_takeBack_r2 _ (gw_g 0 rfl)) gw_n) gw_X0_takeBack_X50)) (by decide +kernel)
set_option maxRecDepth 20000 in
theorem gX0_takeBack_X5_setLegs : GoodIn wsX0_takeBack (wsV RX0 96 RX5 yX5_setLegs wsX5_setLegs) := goodIn_app (goodIn_sub (gw_c (gw_X0_takeBack_X0_takeBack_r2 _ (gw_g 11 rfl)) (gw_c (gw_X0_takeBack_X0_takeBack_r2 _ (gw_g 12 rfl)) (gw_c (gw_X0_takeBack_X0_takeBack_r2 _ (gw_g 13 rfl)) (gw_c (gw_X0_takeBack_X0_takeBack_r1 _ (gw_g 22 rfl)) gw_n)))) (by decide +kernel)) ggX0_takeBack_X5_setLegs
theorem dX0_takeBack_0 : decode cX0_takeBack 0 = .ok (.aload_n 0, 1) := by decide +kernel
theorem dX0_takeBack_1 : decode cX0_takeBack 1 = .ok (.getfield 28, 3) := by decide +kernel
theorem dX0_takeBack_4 : decode cX0_takeBack 4 = .ok (.getfield 117, 3) := by decide +kernel
theorem dX0_takeBack_7 : decode cX0_takeBack 7 = .ok (.iload_n 1, 1) := by decide +kernel
theorem dX0_takeBack_8 : decode cX0_takeBack 8 = .ok (.iaload, 1) := by decide +kernel
theorem dX0_takeBack_9 : decode cX0_takeBack 9 = .ok (.istore_n 2, 1) := by decide +kernel
theorem dX0_takeBack_10 : decode cX0_takeBack 10 = .ok (.aload_n 0, 1) := by decide +kernel
theorem dX0_takeBack_11 : decode cX0_takeBack 11 = .ok (.getfield 28, 3) := by decide +kernel
theorem dX0_takeBack_14 : decode cX0_takeBack 14 = .ok (.getfield 120, 3) := by decide +kernel
theorem dX0_takeBack_17 : decode cX0_takeBack 17 = .ok (.iload_n 1, 1) := by decide +kernel
theorem dX0_takeBack_18 : decode cX0_takeBack 18 = .ok (.iaload, 1) := by decide +kernel
theorem dX0_takeBack_19 : decode cX0_takeBack 19 = .ok (.iconst 1, 1) := by decide +kernel
theorem dX0_takeBack_20 : decode cX0_takeBack 20 = .ok (.if_icmp .eq 20, 3) := by decide +kernel
theorem dX0_takeBack_23 : decode cX0_takeBack 23 = .ok (.aload_n 0, 1) := by decide +kernel
theorem dX0_takeBack_24 : decode cX0_takeBack 24 = .ok (.iload_n 2, 1) := by decide +kernel
theorem dX0_takeBack_25 : decode cX0_takeBack 25 = .ok (.aload_n 0, 1) := by decide +kernel
theorem dX0_takeBack_26 : decode cX0_takeBack 26 = .ok (.getfield 28, 3) := by decide +kernel
theorem dX0_takeBack_29 : decode cX0_takeBack 29 = .ok (.getfield 123, 3) := by decide +kernel
theorem dX0_takeBack_32 : decode cX0_takeBack 32 = .ok (.iload_n 1, 1) := by decide +kernel
theorem dX0_takeBack_33 : decode cX0_takeBack 33 = .ok (.iaload, 1) := by decide +kernel
theorem dX0_takeBack_34 : decode cX0_takeBack 34 = .ok (.invokevirtual 83, 3) := by decide +kernel
theorem dX0_takeBack_37 : decode cX0_takeBack 37 = .ok (.ifCond .eq 5, 3) := by decide +kernel
theorem dX0_takeBack_40 : decode cX0_takeBack 40 = .ok (.iconst 0, 1) := by decide +kernel
theorem dX0_takeBack_41 : decode cX0_takeBack 41 = .ok (.ireturn, 1) := by decide +kernel
theorem dX0_takeBack_42 : decode cX0_takeBack 42 = .ok (.aload_n 0, 1) := by decide +kernel
theorem dX0_takeBack_43 : decode cX0_takeBack 43 = .ok (.getfield 28, 3) := by decide +kernel
theorem dX0_takeBack_46 : decode cX0_takeBack 46 = .ok (.getfield 126, 3) := by decide +kernel
theorem dX0_takeBack_49 : decode cX0_takeBack 49 = .ok (.iload_n 1, 1) := by decide +kernel
theorem dX0_takeBack_50 : decode cX0_takeBack 50 = .ok (.iaload, 1) := by decide +kernel
theorem dX0_takeBack_51 : decode cX0_takeBack 51 = .ok (.istore_n 3, 1) := by decide +kernel
theorem dX0_takeBack_52 : decode cX0_takeBack 52 = .ok (.aload_n 0, 1) := by decide +kernel
theorem dX0_takeBack_53 : decode cX0_takeBack 53 = .ok (.getfield 28, 3) := by decide +kernel
theorem dX0_takeBack_56 : decode cX0_takeBack 56 = .ok (.getfield 120, 3) := by decide +kernel
theorem dX0_takeBack_59 : decode cX0_takeBack 59 = .ok (.iload_n 1, 1) := by decide +kernel
theorem dX0_takeBack_60 : decode cX0_takeBack 60 = .ok (.iconst 1, 1) := by decide +kernel
theorem dX0_takeBack_61 : decode cX0_takeBack 61 = .ok (.iastore, 1) := by decide +kernel
theorem dX0_takeBack_62 : decode cX0_takeBack 62 = .ok (.aload_n 0, 1) := by decide +kernel
theorem dX0_takeBack_63 : decode cX0_takeBack 63 = .ok (.getfield 21, 3) := by decide +kernel
theorem dX0_takeBack_66 : decode cX0_takeBack 66 = .ok (.iload_n 2, 1) := by decide +kernel
theorem dX0_takeBack_67 : decode cX0_takeBack 67 = .ok (.iload_n 3, 1) := by decide +kernel
theorem dX0_takeBack_68 : decode cX0_takeBack 68 = .ok (.aload_n 0, 1) := by decide +kernel
theorem dX0_takeBack_69 : decode cX0_takeBack 69 = .ok (.getfield 21, 3) := by decide +kernel
theorem dX0_takeBack_72 : decode cX0_takeBack 72 = .ok (.iload_n 2, 1) := by decide +kernel
theorem dX0_takeBack_73 : decode cX0_takeBack 73 = .ok (.iload_n 3, 1) := by decide +kernel
theorem dX0_takeBack_74 : decode cX0_takeBack 74 = .ok (.invokevirtual 90, 3) := by decide +kernel
theorem dX0_takeBack_77 : decode cX0_takeBack 77 = .ok (.aload_n 0, 1) := by decide +kernel
theorem dX0_takeBack_78 : decode cX0_takeBack 78 = .ok (.getfield 28, 3) := by decide +kernel
theorem dX0_takeBack_81 : decode cX0_takeBack 81 = .ok (.iload_n 1, 1) := by decide +kernel
theorem dX0_takeBack_82 : decode cX0_takeBack 82 = .ok (.invokevirtual 127, 3) := by decide +kernel
theorem dX0_takeBack_85 : decode cX0_takeBack 85 = .ok (.iconst (-1), 1) := by decide +kernel
theorem dX0_takeBack_86 : decode cX0_takeBack 86 = .ok (.ixor, 1) := by decide +kernel
theorem dX0_takeBack_87 : decode cX0_takeBack 87 = .ok (.iand, 1) := by decide +kernel
theorem dX0_takeBack_88 : decode cX0_takeBack 88 = .ok (.invokevirtual 96, 3) := by decide +kernel
theorem dX0_takeBack_91 : decode cX0_takeBack 91 = .ok (.iconst 1, 1) := by decide +kernel
theorem dX0_takeBack_92 : decode cX0_takeBack 92 = .ok (.ireturn, 1) := by decide +kernel
set_option maxRecDepth 20000 in
theorem ggX0_letterHours_X4_hoursTo : GoodIn wsX0_letterHours wsX4_hoursTo := goodIn_sub (gw_c (gw_t (gw_l (gw_l (gw_g 10 rfl)))) (gw_a (gw_c (gw_t (gw_l (gw_l (gw_g 11 rfl)))) gw_n) gw_X0_letterHours_X40)) (by decide +kernel)
set_option maxRecDepth 20000 in
theorem gX0_letterHours_X4_hoursTo : GoodIn wsX0_letterHours (wsV RX0 71 RX4 yX4_hoursTo wsX4_hoursTo) := goodIn_app (goodIn_sub (gw_c (gw_t (gw_l (gw_l (gw_g 6 rfl)))) (gw_c (gw_t (gw_l (gw_l (gw_g 7 rfl)))) (gw_c (gw_t (gw_l (gw_l (gw_g 8 rfl)))) (gw_c (gw_t (gw_l (gw_l (gw_g 9 rfl)))) gw_n)))) (by decide +kernel)) ggX0_letterHours_X4_hoursTo
theorem dX0_letterHours_0 : decode cX0_letterHours 0 = .ok (.aload_n 0, 1) := by decide +kernel
theorem dX0_letterHours_1 : decode cX0_letterHours 1 = .ok (.getfield 12, 3) := by decide +kernel
theorem dX0_letterHours_4 : decode cX0_letterHours 4 = .ok (.aload_n 0, 1) := by decide +kernel
theorem dX0_letterHours_5 : decode cX0_letterHours 5 = .ok (.getfield 46, 3) := by decide +kernel
theorem dX0_letterHours_8 : decode cX0_letterHours 8 = .ok (.iload_n 1, 1) := by decide +kernel
theorem dX0_letterHours_9 : decode cX0_letterHours 9 = .ok (.iaload, 1) := by decide +kernel
theorem dX0_letterHours_10 : decode cX0_letterHours 10 = .ok (.invokevirtual 71, 3) := by decide +kernel
theorem dX0_letterHours_13 : decode cX0_letterHours 13 = .ok (.aload_n 0, 1) := by decide +kernel
theorem dX0_letterHours_14 : decode cX0_letterHours 14 = .ok (.getfield 12, 3) := by decide +kernel
theorem dX0_letterHours_17 : decode cX0_letterHours 17 = .ok (.aload_n 0, 1) := by decide +kernel
theorem dX0_letterHours_18 : decode cX0_letterHours 18 = .ok (.getfield 46, 3) := by decide +kernel
theorem dX0_letterHours_21 : decode cX0_letterHours 21 = .ok (.iload_n 2, 1) := by decide +kernel
theorem dX0_letterHours_22 : decode cX0_letterHours 22 = .ok (.iaload, 1) := by decide +kernel
theorem dX0_letterHours_23 : decode cX0_letterHours 23 = .ok (.invokevirtual 71, 3) := by decide +kernel
theorem dX0_letterHours_26 : decode cX0_letterHours 26 = .ok (.isub, 1) := by decide +kernel
theorem dX0_letterHours_27 : decode cX0_letterHours 27 = .ok (.istore_n 3, 1) := by decide +kernel
theorem dX0_letterHours_28 : decode cX0_letterHours 28 = .ok (.iconst 1, 1) := by decide +kernel
theorem dX0_letterHours_29 : decode cX0_letterHours 29 = .ok (.iload_n 3, 1) := by decide +kernel
theorem dX0_letterHours_30 : decode cX0_letterHours 30 = .ok (.invokestatic 129, 3) := by decide +kernel
theorem dX0_letterHours_33 : decode cX0_letterHours 33 = .ok (.iadd, 1) := by decide +kernel
theorem dX0_letterHours_34 : decode cX0_letterHours 34 = .ok (.ireturn, 1) := by decide +kernel
set_option maxRecDepth 20000 in
theorem ggX0_beginNextHour_X0_sellStretch : GoodIn wsX0_beginNextHour wsX0_sellStretch := goodIn_sub (gw_c (gw_X0_beginNextHour_X0_beginNextHour_r1 _ (gw_g 13 rfl)) (gw_a (gw_a (gw_a (gw_a (gw_a (gw_c (gw_X0_beginNextHour_X0_beginNextHour_r1 _ (gw_g 14 rfl)) (gw_c (gw_X0_beginNextHour_X0_beginNextHour_r1 _ (gw_g 15 rfl)) (gw_c (gw_X0_beginNextHour_X0_beginNextHour_r1 _ (gw_g 16 rfl)) (gw_c (gw_X0_beginNextHour_X0_beginNextHour_r1 _ (gw_g 17 rfl)) (gw_c (gw_X0_beginNextHour_X0_beginNextHour_r1 _ (gw_g 18 rfl)) (gw_c (gw_X0_beginNextHour_X0_beginNextHour_r1 _ (gw_g 19 rfl)) (gw_c (gw_X0_beginNextHour_X0_beginNextHour_r1 _ (gw_g 20 rfl)) (gw_c (gw_X0_beginNextHour_X0_beginNextHour_r1 _ (gw_g 21 rfl)) (gw_c (gw_X0_beginNextHour_X0_beginNextHour_r1 _ (gw_g 22 rfl)) (gw_c (gw_X0_beginNextHour_X0_beginNextHour_r1 _ (gw_g 23 rfl)) (gw_c (gw_X0_beginNextHour_X0_beginNextHour_r2 _ (gw_g 0 rfl)) (gw_c (gw_X0_beginNextHour_X0_beginNextHour_r1 _ (gw_g 12 rfl)) (gw_c (gw_X0_beginNextHour_X0_beginNextHour_r2 _ (gw_g 1 rfl)) (gw_c (gw_X0_beginNextHour_X0_beginNextHour_r1 _ (gw_g 0 rfl)) (gw_c (gw_X0_beginNextHour_X0_beginNextHour_r2 _ (gw_g 2 rfl)) (gw_c (gw_X0_beginNextHour_X0_beginNextHour_r2 _ (gw_g 3 rfl)) (gw_c (gw_X0_beginNextHour_X0_beginNextHour_r2 _ (gw_g 4 rfl)) (gw_c (gw_X0_beginNextHour_X0_beginNextHour_r2 _ (gw_g 5 rfl)) (gw_c (gw_X0_beginNextHour_X0_beginNextHour_r2 _ (gw_g 6 rfl)) (gw_c (gw_X0_beginNextHour_X0_beginNextHour_r2 _ (gw_g 7 rfl)) (gw_c (gw_X0_beginNextHour_X0_beginNextHour_r2 _ (gw_g 8 rfl)) (gw_c (gw_X0_beginNextHour_X0_beginNextHour_r2 _ (gw_g 9 rfl)) (gw_c (gw_X0_beginNextHour_X0_beginNextHour_r2 _ (gw_g 10 rfl)) (gw_c (gw_X0_beginNextHour_X0_beginNextHour_r2 _ (gw_g 11 rfl)) gw_n)))))))))))))))))))))))) (gw_a (gw_c (gw_X0_beginNextHour_X0_beginNextHour_r2 _ (gw_g 12 rfl)) (gw_c (gw_X0_beginNextHour_X0_beginNextHour_r2 _ (gw_g 13 rfl)) (gw_c (gw_X0_beginNextHour_X0_beginNextHour_r2 _ (gw_g 14 rfl)) (gw_c (gw_X0_beginNextHour_X0_beginNextHour_r2 _ (gw_g 15 rfl)) (gw_c (gw_X0_beginNextHour_X0_beginNextHour_r2 _ (gw_g 16 rfl)) (gw_c (gw_X0_beginNextHour_X0_beginNextHour_r2 _ (gw_g 17 rfl)) (gw_c (gw_X0_beginNextHour_X0_beginNextHour_r2 _ (gw_g 18 rfl)) (gw_c (gw_X0_beginNextHour_X0_beginNextHour_r2 _ (gw_g 19 rfl)) (gw_c (gw_X0_beginNextHour_X0_beginNextHour_r2 _ (gw_g 20 rfl)) (gw_c (gw_X0_beginNextHour_X0_beginNextHour_r2 _ (gw_g 21 rfl)) (gw_c (gw_X0_beginNextHour_X0_beginNextHour_r2 _ (gw_g 22 rfl)) (gw_c (gw_X0_beginNextHour_X0_beginNextHour_r2 _ (gw_g 23 rfl)) (gw_c (gw_X0_beginNextHour_X0_beginNextHour_r3 _ (gw_g 0 rfl)) (gw_c (gw_X0_beginNextHour_X0_beginNextHour_r3 _ (gw_g 1 rfl)) (gw_c (gw_X0_beginNextHour_X0_beginNextHour_r3 _ (gw_g 2 rfl)) (gw_c (gw_X0_beginNextHour_X0_beginNextHour_r3 _ (gw_g 3 rfl)) (gw_c (gw_X0_beginNextHour_X0_beginNextHour_r3 _ (gw_g 4 rfl)) (gw_c (gw_X0_beginNextHour_X0_beginNextHour_r3 _ (gw_g 5 rfl)) (gw_c (gw_X0_beginNextHour_X0_beginNextHour_r3 _ (gw_g 6 rfl)) (gw_c (gw_X0_beginNextHour_X0_beginNextHour_r3 _ (gw_g 7 rfl)) (gw_c (gw_X0_beginNextHour_X0_beginNextHour_r3 _ (gw_g 8 rfl)) (gw_c (gw_X0_beginNextHour_X0_beginNextHour_r3 _ (gw_g 9 rfl)) (gw_c (gw_X0_beginNextHour_X0_beginNextHour_r3 _ (gw_g 10 rfl)) (gw_c (gw_X0_beginNextHour_X0_beginNextHour_r3 _ (gw_g 11 rfl)) gw_n)))))))))))))))))))))))) (gw_c (gw_X0_beginNextHour_X0_beginNextHour_r3 _ (gw_g 12 rfl)) (gw_c (gw_X0_beginNextHour_X0_beginNextHour_r3 _ (gw_g 13 rfl)) (gw_c (gw_X0_beginNextHour_X0_beginNextHour_r3 _ (gw_g 14 rfl)) (gw_c (gw_X0_beginNextHour_X0_beginNextHour_r3 _ (gw_g 15 rfl)) (gw_c (gw_X0_beginNextHour_X0_beginNextHour_r3 _ (gw_g 16 rfl)) (gw_c (gw_X0_beginNextHour_X0_beginNextHour_r3 _ (gw_g 17 rfl)) (gw_c (gw_X0_beginNextHour_X0_beginNextHour_r3 _ (gw_g 18 rfl)) (gw_c (gw_X0_beginNextHour_X0_beginNextHour_r3 _ (gw_g 19 rfl)) (gw_c (gw_X0_beginNextHour_X0_beginNextHour_r3 _ (gw_g 20 rfl)) (gw_c (gw_X0_beginNextHour_X0_beginNextHour_r3 _ (gw_g 21 rfl)) (gw_c (gw_X0_beginNextHour_X0_beginNextHour_r3 _ (gw_g 22 rfl)) (gw_c (gw_X0_beginNextHour_X0_beginNextHour_r3 _ (gw_g 23 rfl)) (gw_c (gw_X0_beginNextHour_X0_beginNextHour_r4 _ (gw_g 0 rfl)) (gw_c (gw_X0_beginNextHour_X0_beginNextHour_r4 _ (gw_g 1 rfl)) (gw_c (gw_X0_beginNextHour_X0_beginNextHour_r4 _ (gw_g 2 rfl)) (gw_c (gw_X0_beginNextHour_X0_beginNextHour_r4 _ (gw_g 3 rfl)) (gw_c (gw_X0_beginNextHour_X0_beginNextHour_r4 _ (gw_g 4 rfl)) (gw_c (gw_X0_beginNextHour_X0_beginNextHour_r4 _ (gw_g 5 rfl)) (gw_c (gw_X0_beginNextHour_X0_beginNextHour_r4 _ (gw_g 6 rfl)) (gw_c (gw_X0_beginNextHour_X0_beginNextHour_r4 _ (gw_g 7 rfl)) (gw_c (gw_X0_beginNextHour_X0_beginNextHour_r4 _ (gw_g 8 rfl)) gw_n))))))))))))))))))))))) gw_X0_beginNextHour_X00) gw_X0_beginNextHour_X70) gw_X0_beginNextHour_X40) gw_X0_beginNextHour_X50)) (by decide +kernel)
set_option maxRecDepth 20000 in
theorem gX0_beginNextHour_X0_sellStretch : GoodIn wsX0_beginNextHour (wsV RX0 151 RX0 yX0_sellStretch wsX0_sellStretch) := goodIn_app (goodIn_sub (gw_c (gw_X0_beginNextHour_X0_beginNextHour_r1 _ (gw_g 9 rfl)) (gw_c (gw_X0_beginNextHour_X0_beginNextHour_r1 _ (gw_g 10 rfl)) (gw_c (gw_X0_beginNextHour_X0_beginNextHour_r1 _ (gw_g 11 rfl)) (gw_c (gw_X0_beginNextHour_X0_beginNextHour_r1 _ (gw_g 12 rfl)) gw_n)))) (by decide +kernel)) ggX0_beginNextHour_X0_sellStretch
theorem dX0_beginNextHour_0 : decode cX0_beginNextHour 0 = .ok (.aload_n 0, 1) := by decide +kernel
theorem dX0_beginNextHour_1 : decode cX0_beginNextHour 1 = .ok (.dup, 1) := by decide +kernel
theorem dX0_beginNextHour_2 : decode cX0_beginNextHour 2 = .ok (.getfield 67, 3) := by decide +kernel
theorem dX0_beginNextHour_5 : decode cX0_beginNextHour 5 = .ok (.iconst 1, 1) := by decide +kernel
theorem dX0_beginNextHour_6 : decode cX0_beginNextHour 6 = .ok (.iadd, 1) := by decide +kernel
theorem dX0_beginNextHour_7 : decode cX0_beginNextHour 7 = .ok (.putfield 67, 3) := by decide +kernel
theorem dX0_beginNextHour_10 : decode cX0_beginNextHour 10 = .ok (.iconst 0, 1) := by decide +kernel
theorem dX0_beginNextHour_11 : decode cX0_beginNextHour 11 = .ok (.istore_n 1, 1) := by decide +kernel
theorem dX0_beginNextHour_12 : decode cX0_beginNextHour 12 = .ok (.iload_n 1, 1) := by decide +kernel
theorem dX0_beginNextHour_13 : decode cX0_beginNextHour 13 = .ok (.aload_n 0, 1) := by decide +kernel
theorem dX0_beginNextHour_14 : decode cX0_beginNextHour 14 = .ok (.getfield 35, 3) := by decide +kernel
theorem dX0_beginNextHour_17 : decode cX0_beginNextHour 17 = .ok (.getfield 134, 3) := by decide +kernel
theorem dX0_beginNextHour_20 : decode cX0_beginNextHour 20 = .ok (.if_icmp .ge 74, 3) := by decide +kernel
theorem dX0_beginNextHour_23 : decode cX0_beginNextHour 23 = .ok (.aload_n 0, 1) := by decide +kernel
theorem dX0_beginNextHour_24 : decode cX0_beginNextHour 24 = .ok (.getfield 35, 3) := by decide +kernel
theorem dX0_beginNextHour_27 : decode cX0_beginNextHour 27 = .ok (.getfield 137, 3) := by decide +kernel
theorem dX0_beginNextHour_30 : decode cX0_beginNextHour 30 = .ok (.iload_n 1, 1) := by decide +kernel
theorem dX0_beginNextHour_31 : decode cX0_beginNextHour 31 = .ok (.iaload, 1) := by decide +kernel
theorem dX0_beginNextHour_32 : decode cX0_beginNextHour 32 = .ok (.aload_n 0, 1) := by decide +kernel
theorem dX0_beginNextHour_33 : decode cX0_beginNextHour 33 = .ok (.getfield 67, 3) := by decide +kernel
theorem dX0_beginNextHour_36 : decode cX0_beginNextHour 36 = .ok (.if_icmp .ne 52, 3) := by decide +kernel
theorem dX0_beginNextHour_39 : decode cX0_beginNextHour 39 = .ok (.aload_n 0, 1) := by decide +kernel
theorem dX0_beginNextHour_40 : decode cX0_beginNextHour 40 = .ok (.getfield 35, 3) := by decide +kernel
theorem dX0_beginNextHour_43 : decode cX0_beginNextHour 43 = .ok (.getfield 140, 3) := by decide +kernel
theorem dX0_beginNextHour_46 : decode cX0_beginNextHour 46 = .ok (.iload_n 1, 1) := by decide +kernel
theorem dX0_beginNextHour_47 : decode cX0_beginNextHour 47 = .ok (.aload_n 0, 1) := by decide +kernel
theorem dX0_beginNextHour_48 : decode cX0_beginNextHour 48 = .ok (.aload_n 0, 1) := by decide +kernel
theorem dX0_beginNextHour_49 : decode cX0_beginNextHour 49 = .ok (.getfield 35, 3) := by decide +kernel
theorem dX0_beginNextHour_52 : decode cX0_beginNextHour 52 = .ok (.getfield 143, 3) := by decide +kernel
theorem dX0_beginNextHour_55 : decode cX0_beginNextHour 55 = .ok (.iload_n 1, 1) := by decide +kernel
theorem dX0_beginNextHour_56 : decode cX0_beginNextHour 56 = .ok (.iaload, 1) := by decide +kernel
theorem dX0_beginNextHour_57 : decode cX0_beginNextHour 57 = .ok (.aload_n 0, 1) := by decide +kernel
theorem dX0_beginNextHour_58 : decode cX0_beginNextHour 58 = .ok (.getfield 35, 3) := by decide +kernel
theorem dX0_beginNextHour_61 : decode cX0_beginNextHour 61 = .ok (.getfield 146, 3) := by decide +kernel
theorem dX0_beginNextHour_64 : decode cX0_beginNextHour 64 = .ok (.iload_n 1, 1) := by decide +kernel
theorem dX0_beginNextHour_65 : decode cX0_beginNextHour 65 = .ok (.iaload, 1) := by decide +kernel
theorem dX0_beginNextHour_66 : decode cX0_beginNextHour 66 = .ok (.aload_n 0, 1) := by decide +kernel
theorem dX0_beginNextHour_67 : decode cX0_beginNextHour 67 = .ok (.getfield 35, 3) := by decide +kernel
theorem dX0_beginNextHour_70 : decode cX0_beginNextHour 70 = .ok (.getfield 147, 3) := by decide +kernel
theorem dX0_beginNextHour_73 : decode cX0_beginNextHour 73 = .ok (.iload_n 1, 1) := by decide +kernel
theorem dX0_beginNextHour_74 : decode cX0_beginNextHour 74 = .ok (.iaload, 1) := by decide +kernel
theorem dX0_beginNextHour_75 : decode cX0_beginNextHour 75 = .ok (.aload_n 0, 1) := by decide +kernel
theorem dX0_beginNextHour_76 : decode cX0_beginNextHour 76 = .ok (.getfield 35, 3) := by decide +kernel
theorem dX0_beginNextHour_79 : decode cX0_beginNextHour 79 = .ok (.getfield 148, 3) := by decide +kernel
theorem dX0_beginNextHour_82 : decode cX0_beginNextHour 82 = .ok (.iload_n 1, 1) := by decide +kernel
theorem dX0_beginNextHour_83 : decode cX0_beginNextHour 83 = .ok (.iaload, 1) := by decide +kernel
theorem dX0_beginNextHour_84 : decode cX0_beginNextHour 84 = .ok (.invokevirtual 151, 3) := by decide +kernel
theorem dX0_beginNextHour_87 : decode cX0_beginNextHour 87 = .ok (.iastore, 1) := by decide +kernel
theorem dX0_beginNextHour_88 : decode cX0_beginNextHour 88 = .ok (.iinc 1 1, 3) := by decide +kernel
theorem dX0_beginNextHour_91 : decode cX0_beginNextHour 91 = .ok (.goto (-79), 3) := by decide +kernel
theorem dX0_beginNextHour_94 : decode cX0_beginNextHour 94 = .ok (.return_, 1) := by decide +kernel
set_option maxRecDepth 20000 in
theorem ggX0_layAnew_J7_fill_53178 : GoodIn wsX0_layAnew wsJ7_fill_53178 := goodIn_sub (gw_c (gw_X0_layAnew_X0_layAnew_r1 _ (gw_g 11 rfl)) gw_n) (by decide +kernel)
set_option maxRecDepth 20000 in
theorem gX0_layAnew_J7_fill_53178 : GoodIn wsX0_layAnew (va_wsS RX0 154 yJ7_fill_53178 wsJ7_fill_53178) := goodIn_app (goodIn_sub (gw_c (gw_X0_layAnew_X0_layAnew_r1 _ (gw_g 8 rfl)) (gw_c (gw_X0_layAnew_X0_layAnew_r1 _ (gw_g 9 rfl)) (gw_c (gw_X0_layAnew_X0_layAnew_r1 _ (gw_g 10 rfl)) gw_n))) (by decide +kernel)) ggX0_layAnew_J7_fill_53178
set_option maxRecDepth 20000 in
theorem ggX0_layAnew_X7_isLive : GoodIn wsX0_layAnew wsX7_isLive := goodIn_sub (gw_c (gw_X0_layAnew_X0_layAnew_r1 _ (gw_g 16 rfl)) (gw_a (gw_c (gw_X0_layAnew_X0_layAnew_r1 _ (gw_g 17 rfl)) (gw_c (gw_X0_layAnew_X0_layAnew_r1 _ (gw_g 18 rfl)) gw_n)) gw_X0_layAnew_X70)) (by decide +kernel)
set_option maxRecDepth 20000 in
theorem gX0_layAnew_X7_isLive : GoodIn wsX0_layAnew (wsV RX0 161 RX7 yX7_isLive wsX7_isLive) := goodIn_app (goodIn_sub (gw_c (gw_X0_layAnew_X0_layAnew_r1 _ (gw_g 12 rfl)) (gw_c (gw_X0_layAnew_X0_layAnew_r1 _ (gw_g 13 rfl)) (gw_c (gw_X0_layAnew_X0_layAnew_r1 _ (gw_g 14 rfl)) (gw_c (gw_X0_layAnew_X0_layAnew_r1 _ (gw_g 15 rfl)) gw_n)))) (by decide +kernel)) ggX0_layAnew_X7_isLive
set_option maxRecDepth 20000 in
theorem ggX0_layAnew_X0_layTicket : GoodIn wsX0_layAnew wsX0_layTicket := goodIn_sub (gw_c (gw_X0_layAnew_X0_layAnew_r1 _ (gw_g 23 rfl)) (gw_a (gw_a (gw_a (gw_a (gw_c (gw_X0_layAnew_X0_layAnew_r1 _ (gw_g 3 rfl)) (gw_c (gw_X0_layAnew_X0_layAnew_r2 _ (gw_g 0 rfl)) (gw_c (gw_X0_layAnew_X0_layAnew_r1 _ (gw_g 6 rfl)) (gw_c (gw_X0_layAnew_X0_layAnew_r1 _ (gw_g 7 rfl)) (gw_c (gw_X0_layAnew_X0_layAnew_r1 _ (gw_g 0 rfl)) (gw_c (gw_X0_layAnew_X0_layAnew_r2 _ (gw_g 1 rfl)) (gw_c (gw_X0_layAnew_X0_layAnew_r2 _ (gw_g 2 rfl)) (gw_c (gw_X0_layAnew_X0_layAnew_r2 _ (gw_g 3 rfl)) (gw_c (gw_X0_layAnew_X0_layAnew_r2 _ (gw_g 4 rfl)) (gw_c (gw_X0_layAnew_X0_layAnew_r2 _ (gw_g 5 rfl)) (gw_c (gw_X0_layAnew_X0_layAnew_r2 _ (gw_g 6 rfl)) (gw_c (gw_X0_layAnew_X0_layAnew_r2 _ (gw_g 7 rfl)) (gw_c (gw_X0_layAnew_X0_layAnew_r2 _ (gw_g 8 rfl)) (gw_c (gw_X0_layAnew_X0_layAnew_r2 _ (gw_g 9 rfl)) (gw_c (gw_X0_layAnew_X0_layAnew_r1 _ (gw_g 15 rfl)) (gw_c (gw_X0_layAnew_X0_layAnew_r2 _ (gw_g 10 rfl)) (gw_c (gw_X0_layAnew_X0_layAnew_r2 _ (gw_g 11 rfl)) (gw_c (gw_X0_layAnew_X0_layAnew_r2 _ (gw_g 12 rfl)) (gw_c (gw_X0_layAnew_X0_layAnew_r2 _ (gw_g 13 rfl)) (gw_c (gw_X0_layAnew_X0_layAnew_r2 _ (gw_g 14 rfl)) (gw_c (gw_X0_layAnew_X0_layAnew_r2 _ (gw_g 15 rfl)) (gw_c (gw_X0_layAnew_X0_layAnew_r2 _ (gw_g 16 rfl)) (gw_c (gw_X0_layAnew_X0_layAnew_r2 _ (gw_g 17 rfl)) (gw_c (gw_X0_layAnew_X0_layAnew_r2 _ (gw_g 18 rfl)) gw_n)))))))))))))))))))))))) (gw_c (gw_X0_layAnew_X0_layAnew_r1 _ (gw_g 22 rfl)) (gw_c (gw_X0_layAnew_X0_layAnew_r2 _ (gw_g 19 rfl)) (gw_c (gw_X0_layAnew_X0_layAnew_r2 _ (gw_g 20 rfl)) gw_n)))) gw_X0_layAnew_X00) gw_X0_layAnew_X70) gw_X0_layAnew_X50)) (by decide +kernel)
set_option maxRecDepth 20000 in
theorem gX0_layAnew_X0_layTicket : GoodIn wsX0_layAnew (wsV RX0 164 RX0 yX0_layTicket wsX0_layTicket) := goodIn_app (goodIn_sub (gw_c (gw_X0_layAnew_X0_layAnew_r1 _ (gw_g 19 rfl)) (gw_c (gw_X0_layAnew_X0_layAnew_r1 _ (gw_g 20 rfl)) (gw_c (gw_X0_layAnew_X0_layAnew_r1 _ (gw_g 21 rfl)) (gw_c (gw_X0_layAnew_X0_layAnew_r1 _ (gw_g 22 rfl)) gw_n)))) (by decide +kernel)) ggX0_layAnew_X0_layTicket
set_option maxRecDepth 20000 in
theorem ggX0_layAnew_X5_setLegs : GoodIn wsX0_layAnew wsX5_setLegs := goodIn_sub (gw_c (gw_X0_layAnew_X0_layAnew_r3 _ (gw_g 0 rfl)) (gw_a (gw_c (gw_X0_layAnew_X0_layAnew_r3 _ (gw_g 1 rfl)) gw_n) gw_X0_layAnew_X50)) (by decide +kernel)
set_option maxRecDepth 20000 in
theorem gX0_layAnew_X5_setLegs : GoodIn wsX0_layAnew (wsV RX0 96 RX5 yX5_setLegs wsX5_setLegs) := goodIn_app (goodIn_sub (gw_c (gw_X0_layAnew_X0_layAnew_r2 _ (gw_g 21 rfl)) (gw_c (gw_X0_layAnew_X0_layAnew_r2 _ (gw_g 22 rfl)) (gw_c (gw_X0_layAnew_X0_layAnew_r2 _ (gw_g 23 rfl)) (gw_c (gw_X0_layAnew_X0_layAnew_r2 _ (gw_g 4 rfl)) gw_n)))) (by decide +kernel)) ggX0_layAnew_X5_setLegs
theorem dX0_layAnew_0 : decode cX0_layAnew 0 = .ok (.aload_n 0, 1) := by decide +kernel
theorem dX0_layAnew_1 : decode cX0_layAnew 1 = .ok (.getfield 53, 3) := by decide +kernel
theorem dX0_layAnew_4 : decode cX0_layAnew 4 = .ok (.iconst 0, 1) := by decide +kernel
theorem dX0_layAnew_5 : decode cX0_layAnew 5 = .ok (.invokestatic 154, 3) := by decide +kernel
theorem dX0_layAnew_8 : decode cX0_layAnew 8 = .ok (.iconst 0, 1) := by decide +kernel
theorem dX0_layAnew_9 : decode cX0_layAnew 9 = .ok (.istore_n 2, 1) := by decide +kernel
theorem dX0_layAnew_10 : decode cX0_layAnew 10 = .ok (.iconst 0, 1) := by decide +kernel
theorem dX0_layAnew_11 : decode cX0_layAnew 11 = .ok (.istore_n 3, 1) := by decide +kernel
theorem dX0_layAnew_12 : decode cX0_layAnew 12 = .ok (.iload_n 3, 1) := by decide +kernel
theorem dX0_layAnew_13 : decode cX0_layAnew 13 = .ok (.aload_n 0, 1) := by decide +kernel
theorem dX0_layAnew_14 : decode cX0_layAnew 14 = .ok (.getfield 12, 3) := by decide +kernel
theorem dX0_layAnew_17 : decode cX0_layAnew 17 = .ok (.getfield 111, 3) := by decide +kernel
theorem dX0_layAnew_20 : decode cX0_layAnew 20 = .ok (.iconst 1, 1) := by decide +kernel
theorem dX0_layAnew_21 : decode cX0_layAnew 21 = .ok (.isub, 1) := by decide +kernel
theorem dX0_layAnew_22 : decode cX0_layAnew 22 = .ok (.if_icmp .ge 70, 3) := by decide +kernel
theorem dX0_layAnew_25 : decode cX0_layAnew 25 = .ok (.iconst 0, 1) := by decide +kernel
theorem dX0_layAnew_26 : decode cX0_layAnew 26 = .ok (.istore 4, 2) := by decide +kernel
theorem dX0_layAnew_28 : decode cX0_layAnew 28 = .ok (.iload 4, 2) := by decide +kernel
theorem dX0_layAnew_30 : decode cX0_layAnew 30 = .ok (.aload_n 0, 1) := by decide +kernel
theorem dX0_layAnew_31 : decode cX0_layAnew 31 = .ok (.getfield 28, 3) := by decide +kernel
theorem dX0_layAnew_34 : decode cX0_layAnew 34 = .ok (.getfield 160, 3) := by decide +kernel
theorem dX0_layAnew_37 : decode cX0_layAnew 37 = .ok (.if_icmp .ge 49, 3) := by decide +kernel
theorem dX0_layAnew_40 : decode cX0_layAnew 40 = .ok (.aload_n 0, 1) := by decide +kernel
theorem dX0_layAnew_41 : decode cX0_layAnew 41 = .ok (.getfield 28, 3) := by decide +kernel
theorem dX0_layAnew_44 : decode cX0_layAnew 44 = .ok (.getfield 123, 3) := by decide +kernel
theorem dX0_layAnew_47 : decode cX0_layAnew 47 = .ok (.iload 4, 2) := by decide +kernel
theorem dX0_layAnew_49 : decode cX0_layAnew 49 = .ok (.iaload, 1) := by decide +kernel
theorem dX0_layAnew_50 : decode cX0_layAnew 50 = .ok (.iload_n 3, 1) := by decide +kernel
theorem dX0_layAnew_51 : decode cX0_layAnew 51 = .ok (.if_icmp .ne 29, 3) := by decide +kernel
theorem dX0_layAnew_54 : decode cX0_layAnew 54 = .ok (.aload_n 0, 1) := by decide +kernel
theorem dX0_layAnew_55 : decode cX0_layAnew 55 = .ok (.getfield 28, 3) := by decide +kernel
theorem dX0_layAnew_58 : decode cX0_layAnew 58 = .ok (.iload 4, 2) := by decide +kernel
theorem dX0_layAnew_60 : decode cX0_layAnew 60 = .ok (.iload_n 1, 1) := by decide +kernel
theorem dX0_layAnew_61 : decode cX0_layAnew 61 = .ok (.invokevirtual 161, 3) := by decide +kernel
theorem dX0_layAnew_64 : decode cX0_layAnew 64 = .ok (.ifCond .eq 16, 3) := by decide +kernel
theorem dX0_layAnew_67 : decode cX0_layAnew 67 = .ok (.aload_n 0, 1) := by decide +kernel
theorem dX0_layAnew_68 : decode cX0_layAnew 68 = .ok (.iload 4, 2) := by decide +kernel
theorem dX0_layAnew_70 : decode cX0_layAnew 70 = .ok (.iload_n 1, 1) := by decide +kernel
theorem dX0_layAnew_71 : decode cX0_layAnew 71 = .ok (.invokevirtual 164, 3) := by decide +kernel
theorem dX0_layAnew_74 : decode cX0_layAnew 74 = .ok (.ifCond .eq 6, 3) := by decide +kernel
theorem dX0_layAnew_77 : decode cX0_layAnew 77 = .ok (.iinc 2 1, 3) := by decide +kernel
theorem dX0_layAnew_80 : decode cX0_layAnew 80 = .ok (.iinc 4 1, 3) := by decide +kernel
theorem dX0_layAnew_83 : decode cX0_layAnew 83 = .ok (.goto (-55), 3) := by decide +kernel
theorem dX0_layAnew_86 : decode cX0_layAnew 86 = .ok (.iinc 3 1, 3) := by decide +kernel
theorem dX0_layAnew_89 : decode cX0_layAnew 89 = .ok (.goto (-77), 3) := by decide +kernel
theorem dX0_layAnew_92 : decode cX0_layAnew 92 = .ok (.iconst 0, 1) := by decide +kernel
theorem dX0_layAnew_93 : decode cX0_layAnew 93 = .ok (.istore_n 3, 1) := by decide +kernel
theorem dX0_layAnew_94 : decode cX0_layAnew 94 = .ok (.iload_n 3, 1) := by decide +kernel
theorem dX0_layAnew_95 : decode cX0_layAnew 95 = .ok (.aload_n 0, 1) := by decide +kernel
theorem dX0_layAnew_96 : decode cX0_layAnew 96 = .ok (.getfield 21, 3) := by decide +kernel
theorem dX0_layAnew_99 : decode cX0_layAnew 99 = .ok (.getfield 104, 3) := by decide +kernel
theorem dX0_layAnew_102 : decode cX0_layAnew 102 = .ok (.iload_n 1, 1) := by decide +kernel
theorem dX0_layAnew_103 : decode cX0_layAnew 103 = .ok (.iaload, 1) := by decide +kernel
theorem dX0_layAnew_104 : decode cX0_layAnew 104 = .ok (.if_icmp .ge 24, 3) := by decide +kernel
theorem dX0_layAnew_107 : decode cX0_layAnew 107 = .ok (.aload_n 0, 1) := by decide +kernel
theorem dX0_layAnew_108 : decode cX0_layAnew 108 = .ok (.getfield 21, 3) := by decide +kernel
theorem dX0_layAnew_111 : decode cX0_layAnew 111 = .ok (.iload_n 1, 1) := by decide +kernel
theorem dX0_layAnew_112 : decode cX0_layAnew 112 = .ok (.iload_n 3, 1) := by decide +kernel
theorem dX0_layAnew_113 : decode cX0_layAnew 113 = .ok (.aload_n 0, 1) := by decide +kernel
theorem dX0_layAnew_114 : decode cX0_layAnew 114 = .ok (.getfield 53, 3) := by decide +kernel
theorem dX0_layAnew_117 : decode cX0_layAnew 117 = .ok (.iload_n 3, 1) := by decide +kernel
theorem dX0_layAnew_118 : decode cX0_layAnew 118 = .ok (.iaload, 1) := by decide +kernel
theorem dX0_layAnew_119 : decode cX0_layAnew 119 = .ok (.invokevirtual 96, 3) := by decide +kernel
theorem dX0_layAnew_122 : decode cX0_layAnew 122 = .ok (.iinc 3 1, 3) := by decide +kernel
theorem dX0_layAnew_125 : decode cX0_layAnew 125 = .ok (.goto (-31), 3) := by decide +kernel
theorem dX0_layAnew_128 : decode cX0_layAnew 128 = .ok (.iload_n 2, 1) := by decide +kernel
theorem dX0_layAnew_129 : decode cX0_layAnew 129 = .ok (.ireturn, 1) := by decide +kernel
set_option maxRecDepth 20000 in
theorem ggX0_layTicket_X5_owner : GoodIn wsX0_layTicket wsX5_owner := goodIn_sub (gw_c (gw_X0_layTicket_X0_layTicket_r1 _ (gw_g 9 rfl)) (gw_a (gw_c (gw_X0_layTicket_X0_layTicket_r1 _ (gw_g 10 rfl)) gw_n) gw_X0_layTicket_X50)) (by decide +kernel)
set_option maxRecDepth 20000 in
theorem gX0_layTicket_X5_owner : GoodIn wsX0_layTicket (wsV RX0 75 RX5 yX5_owner wsX5_owner) := goodIn_app (goodIn_sub (gw_c (gw_X0_layTicket_X0_layTicket_r1 _ (gw_g 5 rfl)) (gw_c (gw_X0_layTicket_X0_layTicket_r1 _ (gw_g 6 rfl)) (gw_c (gw_X0_layTicket_X0_layTicket_r1 _ (gw_g 7 rfl)) (gw_c (gw_X0_layTicket_X0_layTicket_r1 _ (gw_g 8 rfl)) gw_n)))) (by decide +kernel)) ggX0_layTicket_X5_owner
set_option maxRecDepth 20000 in
theorem ggX0_layTicket_X7_legsOf : GoodIn wsX0_layTicket wsX7_legsOf := goodIn_sub (gw_c (gw_X0_layTicket_X0_layTicket_r1 _ (gw_g 15 rfl)) (gw_a (gw_c (gw_X0_layTicket_X0_layTicket_r1 _ (gw_g 16 rfl)) (gw_c (gw_X0_layTicket_X0_layTicket_r1 _ (gw_g 17 rfl)) (gw_c (gw_X0_layTicket_X0_layTicket_r1 _ (gw_g 18 rfl)) (gw_c (gw_X0_layTicket_X0_layTicket_r1 _ (gw_g 19 rfl)) (gw_c (gw_X0_layTicket_X0_layTicket_r1 _ (gw_g 20 rfl)) gw_n))))) gw_X0_layTicket_X70)) (by decide +kernel)
set_option maxRecDepth 20000 in
theorem gX0_layTicket_X7_legsOf : GoodIn wsX0_layTicket (wsV RX0 127 RX7 yX7_legsOf wsX7_legsOf) := goodIn_app (goodIn_sub (gw_c (gw_X0_layTicket_X0_layTicket_r1 _ (gw_g 11 rfl)) (gw_c (gw_X0_layTicket_X0_layTicket_r1 _ (gw_g 12 rfl)) (gw_c (gw_X0_layTicket_X0_layTicket_r1 _ (gw_g 13 rfl)) (gw_c (gw_X0_layTicket_X0_layTicket_r1 _ (gw_g 14 rfl)) gw_n)))) (by decide +kernel)) ggX0_layTicket_X7_legsOf
set_option maxRecDepth 20000 in
theorem ggX0_layTicket_X0_isOnChart : GoodIn wsX0_layTicket wsX0_isOnChart := goodIn_sub (gw_c (gw_X0_layTicket_X0_layTicket_r2 _ (gw_g 1 rfl)) (gw_a (gw_a (gw_c (gw_X0_layTicket_X0_layTicket_r2 _ (gw_g 2 rfl)) (gw_c (gw_X0_layTicket_X0_layTicket_r1 _ (gw_g 2 rfl)) (gw_c (gw_X0_layTicket_X0_layTicket_r1 _ (gw_g 5 rfl)) (gw_c (gw_X0_layTicket_X0_layTicket_r1 _ (gw_g 6 rfl)) (gw_c (gw_X0_layTicket_X0_layTicket_r1 _ (gw_g 7 rfl)) (gw_c (gw_X0_layTicket_X0_layTicket_r1 _ (gw_g 8 rfl)) (gw_c (gw_X0_layTicket_X0_layTicket_r1 _ (gw_g 9 rfl)) (gw_c (gw_X0_layTicket_X0_layTicket_r1 _ (gw_g 10 rfl)) gw_n)))))))) gw_X0_layTicket_X00) gw_X0_layTicket_X50)) (by decide +kernel)
set_option maxRecDepth 20000 in
theorem gX0_layTicket_X0_isOnChart : GoodIn wsX0_layTicket (wsV RX0 107 RX0 yX0_isOnChart wsX0_isOnChart) := goodIn_app (goodIn_sub (gw_c (gw_X0_layTicket_X0_layTicket_r1 _ (gw_g 21 rfl)) (gw_c (gw_X0_layTicket_X0_layTicket_r1 _ (gw_g 22 rfl)) (gw_c (gw_X0_layTicket_X0_layTicket_r1 _ (gw_g 23 rfl)) (gw_c (gw_X0_layTicket_X0_layTicket_r2 _ (gw_g 0 rfl)) gw_n)))) (by decide +kernel)) ggX0_layTicket_X0_isOnChart
theorem dX0_layTicket_0 : decode cX0_layTicket 0 = .ok (.aload_n 0, 1) := by decide +kernel
theorem dX0_layTicket_1 : decode cX0_layTicket 1 = .ok (.getfield 28, 3) := by decide +kernel
theorem dX0_layTicket_4 : decode cX0_layTicket 4 = .ok (.getfield 126, 3) := by decide +kernel
theorem dX0_layTicket_7 : decode cX0_layTicket 7 = .ok (.iload_n 1, 1) := by decide +kernel
theorem dX0_layTicket_8 : decode cX0_layTicket 8 = .ok (.iaload, 1) := by decide +kernel
theorem dX0_layTicket_9 : decode cX0_layTicket 9 = .ok (.istore_n 3, 1) := by decide +kernel
theorem dX0_layTicket_10 : decode cX0_layTicket 10 = .ok (.aload_n 0, 1) := by decide +kernel
theorem dX0_layTicket_11 : decode cX0_layTicket 11 = .ok (.getfield 21, 3) := by decide +kernel
theorem dX0_layTicket_14 : decode cX0_layTicket 14 = .ok (.iload_n 2, 1) := by decide +kernel
theorem dX0_layTicket_15 : decode cX0_layTicket 15 = .ok (.iload_n 3, 1) := by decide +kernel
theorem dX0_layTicket_16 : decode cX0_layTicket 16 = .ok (.invokevirtual 75, 3) := by decide +kernel
theorem dX0_layTicket_19 : decode cX0_layTicket 19 = .ok (.istore 4, 2) := by decide +kernel
theorem dX0_layTicket_21 : decode cX0_layTicket 21 = .ok (.iconst 0, 1) := by decide +kernel
theorem dX0_layTicket_22 : decode cX0_layTicket 22 = .ok (.istore 5, 2) := by decide +kernel
theorem dX0_layTicket_24 : decode cX0_layTicket 24 = .ok (.iload 5, 2) := by decide +kernel
theorem dX0_layTicket_26 : decode cX0_layTicket 26 = .ok (.aload_n 0, 1) := by decide +kernel
theorem dX0_layTicket_27 : decode cX0_layTicket 27 = .ok (.getfield 21, 3) := by decide +kernel
theorem dX0_layTicket_30 : decode cX0_layTicket 30 = .ok (.getfield 104, 3) := by decide +kernel
theorem dX0_layTicket_33 : decode cX0_layTicket 33 = .ok (.iload_n 2, 1) := by decide +kernel
theorem dX0_layTicket_34 : decode cX0_layTicket 34 = .ok (.iaload, 1) := by decide +kernel
theorem dX0_layTicket_35 : decode cX0_layTicket 35 = .ok (.if_icmp .ge 93, 3) := by decide +kernel
theorem dX0_layTicket_38 : decode cX0_layTicket 38 = .ok (.aload_n 0, 1) := by decide +kernel
theorem dX0_layTicket_39 : decode cX0_layTicket 39 = .ok (.getfield 53, 3) := by decide +kernel
theorem dX0_layTicket_42 : decode cX0_layTicket 42 = .ok (.iload 5, 2) := by decide +kernel
theorem dX0_layTicket_44 : decode cX0_layTicket 44 = .ok (.iaload, 1) := by decide +kernel
theorem dX0_layTicket_45 : decode cX0_layTicket 45 = .ok (.aload_n 0, 1) := by decide +kernel
theorem dX0_layTicket_46 : decode cX0_layTicket 46 = .ok (.getfield 28, 3) := by decide +kernel
theorem dX0_layTicket_49 : decode cX0_layTicket 49 = .ok (.iload_n 1, 1) := by decide +kernel
theorem dX0_layTicket_50 : decode cX0_layTicket 50 = .ok (.invokevirtual 127, 3) := by decide +kernel
theorem dX0_layTicket_53 : decode cX0_layTicket 53 = .ok (.iand, 1) := by decide +kernel
theorem dX0_layTicket_54 : decode cX0_layTicket 54 = .ok (.ifCond .ne 7, 3) := by decide +kernel
theorem dX0_layTicket_57 : decode cX0_layTicket 57 = .ok (.iconst 1, 1) := by decide +kernel
theorem dX0_layTicket_58 : decode cX0_layTicket 58 = .ok (.goto 4, 3) := by decide +kernel
theorem dX0_layTicket_61 : decode cX0_layTicket 61 = .ok (.iconst 0, 1) := by decide +kernel
theorem dX0_layTicket_62 : decode cX0_layTicket 62 = .ok (.istore 6, 2) := by decide +kernel
theorem dX0_layTicket_64 : decode cX0_layTicket 64 = .ok (.iload 6, 2) := by decide +kernel
theorem dX0_layTicket_66 : decode cX0_layTicket 66 = .ok (.ifCond .eq 56, 3) := by decide +kernel
theorem dX0_layTicket_69 : decode cX0_layTicket 69 = .ok (.aload_n 0, 1) := by decide +kernel
theorem dX0_layTicket_70 : decode cX0_layTicket 70 = .ok (.iload 4, 2) := by decide +kernel
theorem dX0_layTicket_72 : decode cX0_layTicket 72 = .ok (.iload_n 2, 1) := by decide +kernel
theorem dX0_layTicket_73 : decode cX0_layTicket 73 = .ok (.iload 5, 2) := by decide +kernel
theorem dX0_layTicket_75 : decode cX0_layTicket 75 = .ok (.invokevirtual 107, 3) := by decide +kernel
theorem dX0_layTicket_78 : decode cX0_layTicket 78 = .ok (.ifCond .eq 44, 3) := by decide +kernel
theorem dX0_layTicket_81 : decode cX0_layTicket 81 = .ok (.aload_n 0, 1) := by decide +kernel
theorem dX0_layTicket_82 : decode cX0_layTicket 82 = .ok (.getfield 53, 3) := by decide +kernel
theorem dX0_layTicket_85 : decode cX0_layTicket 85 = .ok (.iload 5, 2) := by decide +kernel
theorem dX0_layTicket_87 : decode cX0_layTicket 87 = .ok (.dup2, 1) := by decide +kernel
theorem dX0_layTicket_88 : decode cX0_layTicket 88 = .ok (.iaload, 1) := by decide +kernel
theorem dX0_layTicket_89 : decode cX0_layTicket 89 = .ok (.aload_n 0, 1) := by decide +kernel
theorem dX0_layTicket_90 : decode cX0_layTicket 90 = .ok (.getfield 28, 3) := by decide +kernel
theorem dX0_layTicket_93 : decode cX0_layTicket 93 = .ok (.iload_n 1, 1) := by decide +kernel
theorem dX0_layTicket_94 : decode cX0_layTicket 94 = .ok (.invokevirtual 127, 3) := by decide +kernel
theorem dX0_layTicket_97 : decode cX0_layTicket 97 = .ok (.ior, 1) := by decide +kernel
theorem dX0_layTicket_98 : decode cX0_layTicket 98 = .ok (.iastore, 1) := by decide +kernel
theorem dX0_layTicket_99 : decode cX0_layTicket 99 = .ok (.aload_n 0, 1) := by decide +kernel
theorem dX0_layTicket_100 : decode cX0_layTicket 100 = .ok (.getfield 28, 3) := by decide +kernel
theorem dX0_layTicket_103 : decode cX0_layTicket 103 = .ok (.getfield 126, 3) := by decide +kernel
theorem dX0_layTicket_106 : decode cX0_layTicket 106 = .ok (.iload_n 1, 1) := by decide +kernel
theorem dX0_layTicket_107 : decode cX0_layTicket 107 = .ok (.iload 5, 2) := by decide +kernel
theorem dX0_layTicket_109 : decode cX0_layTicket 109 = .ok (.iastore, 1) := by decide +kernel
theorem dX0_layTicket_110 : decode cX0_layTicket 110 = .ok (.iload 5, 2) := by decide +kernel
theorem dX0_layTicket_112 : decode cX0_layTicket 112 = .ok (.iload_n 3, 1) := by decide +kernel
theorem dX0_layTicket_113 : decode cX0_layTicket 113 = .ok (.if_icmp .eq 7, 3) := by decide +kernel
theorem dX0_layTicket_116 : decode cX0_layTicket 116 = .ok (.iconst 1, 1) := by decide +kernel
theorem dX0_layTicket_117 : decode cX0_layTicket 117 = .ok (.goto 4, 3) := by decide +kernel
theorem dX0_layTicket_120 : decode cX0_layTicket 120 = .ok (.iconst 0, 1) := by decide +kernel
theorem dX0_layTicket_121 : decode cX0_layTicket 121 = .ok (.ireturn, 1) := by decide +kernel
theorem dX0_layTicket_122 : decode cX0_layTicket 122 = .ok (.iinc 5 1, 3) := by decide +kernel
theorem dX0_layTicket_125 : decode cX0_layTicket 125 = .ok (.goto (-101), 3) := by decide +kernel
theorem dX0_layTicket_128 : decode cX0_layTicket 128 = .ok (.iconst 0, 1) := by decide +kernel
theorem dX0_layTicket_129 : decode cX0_layTicket 129 = .ok (.ireturn, 1) := by decide +kernel
set_option maxRecDepth 20000 in
theorem ggX0_hasRoom_X0_hasRoomOn : GoodIn wsX0_hasRoom wsX0_hasRoomOn := goodIn_sub (gw_c (gw_X0_hasRoom_X0_hasRoom_r1 _ (gw_g 4 rfl)) (gw_a (gw_a (gw_c (gw_X0_hasRoom_X0_hasRoom_r1 _ (gw_g 5 rfl)) (gw_c (gw_X0_hasRoom_X0_hasRoom_r1 _ (gw_g 6 rfl)) (gw_c (gw_X0_hasRoom_X0_hasRoom_r1 _ (gw_g 7 rfl)) (gw_c (gw_X0_hasRoom_X0_hasRoom_r1 _ (gw_g 8 rfl)) (gw_c (gw_X0_hasRoom_X0_hasRoom_r1 _ (gw_g 9 rfl)) (gw_c (gw_X0_hasRoom_X0_hasRoom_r1 _ (gw_g 3 rfl)) (gw_c (gw_X0_hasRoom_X0_hasRoom_r1 _ (gw_g 10 rfl)) (gw_c (gw_X0_hasRoom_X0_hasRoom_r1 _ (gw_g 11 rfl)) (gw_c (gw_X0_hasRoom_X0_hasRoom_r1 _ (gw_g 12 rfl)) (gw_c (gw_X0_hasRoom_X0_hasRoom_r1 _ (gw_g 13 rfl)) (gw_c (gw_X0_hasRoom_X0_hasRoom_r1 _ (gw_g 14 rfl)) (gw_c (gw_X0_hasRoom_X0_hasRoom_r1 _ (gw_g 15 rfl)) (gw_c (gw_X0_hasRoom_X0_hasRoom_r1 _ (gw_g 16 rfl)) (gw_c (gw_X0_hasRoom_X0_hasRoom_r1 _ (gw_g 17 rfl)) (gw_c (gw_X0_hasRoom_X0_hasRoom_r1 _ (gw_g 18 rfl)) (gw_c (gw_X0_hasRoom_X0_hasRoom_r1 _ (gw_g 19 rfl)) (gw_c (gw_X0_hasRoom_X0_hasRoom_r1 _ (gw_g 20 rfl)) (gw_c (gw_X0_hasRoom_X0_hasRoom_r1 _ (gw_g 21 rfl)) (gw_c (gw_X0_hasRoom_X0_hasRoom_r1 _ (gw_g 22 rfl)) (gw_c (gw_X0_hasRoom_X0_hasRoom_r1 _ (gw_g 23 rfl)) (gw_c (gw_X0_hasRoom_X0_hasRoom_r2 _ (gw_g 0 rfl)) (gw_c (gw_X0_hasRoom_X0_hasRoom_r2 _ (gw_g 1 rfl)) (gw_c (gw_X0_hasRoom_X0_hasRoom_r2 _ (gw_g 2 rfl)) gw_n))))))))))))))))))))))) gw_X0_hasRoom_X00) gw_X0_hasRoom_X50)) (by decide +kernel)
set_option maxRecDepth 20000 in
theorem gX0_hasRoom_X0_hasRoomOn : GoodIn wsX0_hasRoom (wsV RX0 167 RX0 yX0_hasRoomOn wsX0_hasRoomOn) := goodIn_app (goodIn_sub (gw_c (gw_X0_hasRoom_X0_hasRoom_r1 _ (gw_g 0 rfl)) (gw_c (gw_X0_hasRoom_X0_hasRoom_r1 _ (gw_g 1 rfl)) (gw_c (gw_X0_hasRoom_X0_hasRoom_r1 _ (gw_g 2 rfl)) (gw_c (gw_X0_hasRoom_X0_hasRoom_r1 _ (gw_g 3 rfl)) gw_n)))) (by decide +kernel)) ggX0_hasRoom_X0_hasRoomOn
theorem dX0_hasRoom_0 : decode cX0_hasRoom 0 = .ok (.iload_n 3, 1) := by decide +kernel
theorem dX0_hasRoom_1 : decode cX0_hasRoom 1 = .ok (.istore 5, 2) := by decide +kernel
theorem dX0_hasRoom_3 : decode cX0_hasRoom 3 = .ok (.iload 5, 2) := by decide +kernel
theorem dX0_hasRoom_5 : decode cX0_hasRoom 5 = .ok (.iload 4, 2) := by decide +kernel
theorem dX0_hasRoom_7 : decode cX0_hasRoom 7 = .ok (.if_icmp .ge 22, 3) := by decide +kernel
theorem dX0_hasRoom_10 : decode cX0_hasRoom 10 = .ok (.aload_n 0, 1) := by decide +kernel
theorem dX0_hasRoom_11 : decode cX0_hasRoom 11 = .ok (.iload_n 1, 1) := by decide +kernel
theorem dX0_hasRoom_12 : decode cX0_hasRoom 12 = .ok (.iload_n 2, 1) := by decide +kernel
theorem dX0_hasRoom_13 : decode cX0_hasRoom 13 = .ok (.iload 5, 2) := by decide +kernel
theorem dX0_hasRoom_15 : decode cX0_hasRoom 15 = .ok (.invokevirtual 167, 3) := by decide +kernel
theorem dX0_hasRoom_18 : decode cX0_hasRoom 18 = .ok (.ifCond .ne 5, 3) := by decide +kernel
theorem dX0_hasRoom_21 : decode cX0_hasRoom 21 = .ok (.iconst 0, 1) := by decide +kernel
theorem dX0_hasRoom_22 : decode cX0_hasRoom 22 = .ok (.ireturn, 1) := by decide +kernel
theorem dX0_hasRoom_23 : decode cX0_hasRoom 23 = .ok (.iinc 5 1, 3) := by decide +kernel
theorem dX0_hasRoom_26 : decode cX0_hasRoom 26 = .ok (.goto (-23), 3) := by decide +kernel
theorem dX0_hasRoom_29 : decode cX0_hasRoom 29 = .ok (.iconst 1, 1) := by decide +kernel
theorem dX0_hasRoom_30 : decode cX0_hasRoom 30 = .ok (.ireturn, 1) := by decide +kernel
set_option maxRecDepth 20000 in
theorem ggX0_hasRoomOn_X0_isOnChart : GoodIn wsX0_hasRoomOn wsX0_isOnChart := goodIn_sub (gw_c (gw_t (gw_l (gw_l (gw_g 6 rfl)))) (gw_a (gw_a (gw_c (gw_t (gw_l (gw_l (gw_g 7 rfl)))) (gw_c (gw_t (gw_l (gw_l (gw_g 0 rfl)))) (gw_c (gw_t (gw_l (gw_l (gw_g 8 rfl)))) (gw_c (gw_t (gw_l (gw_l (gw_g 9 rfl)))) (gw_c (gw_t (gw_l (gw_l (gw_g 10 rfl)))) (gw_c (gw_t (gw_l (gw_l (gw_g 11 rfl)))) (gw_c (gw_t (gw_l (gw_l (gw_g 12 rfl)))) (gw_c (gw_t (gw_l (gw_l (gw_g 13 rfl)))) gw_n)))))))) gw_X0_hasRoomOn_X00) gw_X0_hasRoomOn_X50)) (by decide +kernel)
set_option maxRecDepth 20000 in
theorem gX0_hasRoomOn_X0_isOnChart : GoodIn wsX0_hasRoomOn (wsV RX0 107 RX0 yX0_isOnChart wsX0_isOnChart) := goodIn_app (goodIn_sub (gw_c (gw_t (gw_l (gw_l (gw_g 2 rfl)))) (gw_c (gw_t (gw_l (gw_l (gw_g 3 rfl)))) (gw_c (gw_t (gw_l (gw_l (gw_g 4 rfl)))) (gw_c (gw_t (gw_l (gw_l (gw_g 5 rfl)))) gw_n)))) (by decide +kernel)) ggX0_hasRoomOn_X0_isOnChart
set_option maxRecDepth 20000 in
theorem ggX0_hasRoomOn_X5_isSold : GoodIn wsX0_hasRoomOn wsX5_isSold := goodIn_sub (gw_c (gw_t (gw_l (gw_l (gw_g 17 rfl)))) (gw_a (gw_c (gw_t (gw_l (gw_l (gw_g 18 rfl)))) (gw_c (gw_t (gw_l (gw_l (gw_g 19 rfl)))) (gw_c (gw_t (gw_l (gw_l (gw_g 20 rfl)))) (gw_c (gw_t (gw_l (gw_l (gw_g 11 rfl)))) (gw_c (gw_t (gw_l (gw_l (gw_g 21 rfl)))) (gw_c (gw_t (gw_l (gw_l (gw_g 22 rfl)))) gw_n)))))) gw_X0_hasRoomOn_X50)) (by decide +kernel)
set_option maxRecDepth 20000 in
theorem gX0_hasRoomOn_X5_isSold : GoodIn wsX0_hasRoomOn (wsV RX0 170 RX5 yX5_isSold wsX5_isSold) := goodIn_app (goodIn_sub (gw_c (gw_t (gw_l (gw_l (gw_g 14 rfl)))) (gw_c (gw_t (gw_l (gw_l (gw_g 15 rfl)))) (gw_c (gw_t (gw_l (gw_l (gw_g 16 rfl)))) (gw_c (gw_t (gw_l (gw_l (gw_g 11 rfl)))) gw_n)))) (by decide +kernel)) ggX0_hasRoomOn_X5_isSold
theorem dX0_hasRoomOn_0 : decode cX0_hasRoomOn 0 = .ok (.iconst 0, 1) := by decide +kernel
theorem dX0_hasRoomOn_1 : decode cX0_hasRoomOn 1 = .ok (.istore 4, 2) := by decide +kernel
theorem dX0_hasRoomOn_3 : decode cX0_hasRoomOn 3 = .ok (.iload 4, 2) := by decide +kernel
theorem dX0_hasRoomOn_5 : decode cX0_hasRoomOn 5 = .ok (.aload_n 0, 1) := by decide +kernel
theorem dX0_hasRoomOn_6 : decode cX0_hasRoomOn 6 = .ok (.getfield 21, 3) := by decide +kernel
theorem dX0_hasRoomOn_9 : decode cX0_hasRoomOn 9 = .ok (.getfield 104, 3) := by decide +kernel
theorem dX0_hasRoomOn_12 : decode cX0_hasRoomOn 12 = .ok (.iload_n 2, 1) := by decide +kernel
theorem dX0_hasRoomOn_13 : decode cX0_hasRoomOn 13 = .ok (.iaload, 1) := by decide +kernel
theorem dX0_hasRoomOn_14 : decode cX0_hasRoomOn 14 = .ok (.if_icmp .ge 36, 3) := by decide +kernel
theorem dX0_hasRoomOn_17 : decode cX0_hasRoomOn 17 = .ok (.aload_n 0, 1) := by decide +kernel
theorem dX0_hasRoomOn_18 : decode cX0_hasRoomOn 18 = .ok (.iload_n 1, 1) := by decide +kernel
theorem dX0_hasRoomOn_19 : decode cX0_hasRoomOn 19 = .ok (.iload_n 2, 1) := by decide +kernel
theorem dX0_hasRoomOn_20 : decode cX0_hasRoomOn 20 = .ok (.iload 4, 2) := by decide +kernel
theorem dX0_hasRoomOn_22 : decode cX0_hasRoomOn 22 = .ok (.invokevirtual 107, 3) := by decide +kernel
theorem dX0_hasRoomOn_25 : decode cX0_hasRoomOn 25 = .ok (.ifCond .eq 19, 3) := by decide +kernel
theorem dX0_hasRoomOn_28 : decode cX0_hasRoomOn 28 = .ok (.aload_n 0, 1) := by decide +kernel
theorem dX0_hasRoomOn_29 : decode cX0_hasRoomOn 29 = .ok (.getfield 21, 3) := by decide +kernel
theorem dX0_hasRoomOn_32 : decode cX0_hasRoomOn 32 = .ok (.iload_n 2, 1) := by decide +kernel
theorem dX0_hasRoomOn_33 : decode cX0_hasRoomOn 33 = .ok (.iload 4, 2) := by decide +kernel
theorem dX0_hasRoomOn_35 : decode cX0_hasRoomOn 35 = .ok (.iload_n 3, 1) := by decide +kernel
theorem dX0_hasRoomOn_36 : decode cX0_hasRoomOn 36 = .ok (.invokevirtual 170, 3) := by decide +kernel
theorem dX0_hasRoomOn_39 : decode cX0_hasRoomOn 39 = .ok (.ifCond .ne 5, 3) := by decide +kernel
theorem dX0_hasRoomOn_42 : decode cX0_hasRoomOn 42 = .ok (.iconst 1, 1) := by decide +kernel
theorem dX0_hasRoomOn_43 : decode cX0_hasRoomOn 43 = .ok (.ireturn, 1) := by decide +kernel
theorem dX0_hasRoomOn_44 : decode cX0_hasRoomOn 44 = .ok (.iinc 4 1, 3) := by decide +kernel
theorem dX0_hasRoomOn_47 : decode cX0_hasRoomOn 47 = .ok (.goto (-44), 3) := by decide +kernel
theorem dX0_hasRoomOn_50 : decode cX0_hasRoomOn 50 = .ok (.iconst 0, 1) := by decide +kernel
theorem dX0_hasRoomOn_51 : decode cX0_hasRoomOn 51 = .ok (.ireturn, 1) := by decide +kernel
set_option maxRecDepth 20000 in
theorem ggX0_mostSold_X5_soldOn : GoodIn wsX0_mostSold wsX5_soldOn := goodIn_sub (gw_c (gw_t (gw_l (gw_l (gw_l (gw_g 11 rfl))))) (gw_a (gw_c (gw_t (gw_l (gw_l (gw_l (gw_g 12 rfl))))) (gw_c (gw_t (gw_l (gw_l (gw_l (gw_g 13 rfl))))) (gw_c (gw_t (gw_l (gw_l (gw_l (gw_g 14 rfl))))) (gw_c (gw_t (gw_l (gw_l (gw_l (gw_g 15 rfl))))) (gw_c (gw_t (gw_l (gw_l (gw_l (gw_g 10 rfl))))) (gw_c (gw_t (gw_l (gw_l (gw_l (gw_g 16 rfl))))) (gw_c (gw_t (gw_l (gw_l (gw_l (gw_g 17 rfl))))) (gw_c (gw_t (gw_l (gw_l (gw_l (gw_g 18 rfl))))) (gw_c (gw_t (gw_l (gw_l (gw_l (gw_g 19 rfl))))) (gw_c (gw_t (gw_l (gw_l (gw_l (gw_g 20 rfl))))) (gw_c (gw_t (gw_l (gw_l (gw_l (gw_g 21 rfl))))) gw_n))))))))))) gw_X0_mostSold_X50)) (by decide +kernel)
set_option maxRecDepth 20000 in
theorem gX0_mostSold_X5_soldOn : GoodIn wsX0_mostSold (wsV RX0 173 RX5 yX5_soldOn wsX5_soldOn) := goodIn_app (goodIn_sub (gw_c (gw_t (gw_l (gw_l (gw_l (gw_g 7 rfl))))) (gw_c (gw_t (gw_l (gw_l (gw_l (gw_g 8 rfl))))) (gw_c (gw_t (gw_l (gw_l (gw_l (gw_g 9 rfl))))) (gw_c (gw_t (gw_l (gw_l (gw_l (gw_g 10 rfl))))) gw_n)))) (by decide +kernel)) ggX0_mostSold_X5_soldOn
theorem dX0_mostSold_0 : decode cX0_mostSold 0 = .ok (.iconst 0, 1) := by decide +kernel
theorem dX0_mostSold_1 : decode cX0_mostSold 1 = .ok (.istore_n 2, 1) := by decide +kernel
theorem dX0_mostSold_2 : decode cX0_mostSold 2 = .ok (.iconst 0, 1) := by decide +kernel
theorem dX0_mostSold_3 : decode cX0_mostSold 3 = .ok (.istore_n 3, 1) := by decide +kernel
theorem dX0_mostSold_4 : decode cX0_mostSold 4 = .ok (.iload_n 3, 1) := by decide +kernel
theorem dX0_mostSold_5 : decode cX0_mostSold 5 = .ok (.aload_n 0, 1) := by decide +kernel
theorem dX0_mostSold_6 : decode cX0_mostSold 6 = .ok (.getfield 12, 3) := by decide +kernel
theorem dX0_mostSold_9 : decode cX0_mostSold 9 = .ok (.getfield 111, 3) := by decide +kernel
theorem dX0_mostSold_12 : decode cX0_mostSold 12 = .ok (.iconst 1, 1) := by decide +kernel
theorem dX0_mostSold_13 : decode cX0_mostSold 13 = .ok (.isub, 1) := by decide +kernel
theorem dX0_mostSold_14 : decode cX0_mostSold 14 = .ok (.if_icmp .ge 23, 3) := by decide +kernel
theorem dX0_mostSold_17 : decode cX0_mostSold 17 = .ok (.iload_n 2, 1) := by decide +kernel
theorem dX0_mostSold_18 : decode cX0_mostSold 18 = .ok (.aload_n 0, 1) := by decide +kernel
theorem dX0_mostSold_19 : decode cX0_mostSold 19 = .ok (.getfield 21, 3) := by decide +kernel
theorem dX0_mostSold_22 : decode cX0_mostSold 22 = .ok (.iload_n 1, 1) := by decide +kernel
theorem dX0_mostSold_23 : decode cX0_mostSold 23 = .ok (.iload_n 3, 1) := by decide +kernel
theorem dX0_mostSold_24 : decode cX0_mostSold 24 = .ok (.invokevirtual 173, 3) := by decide +kernel
theorem dX0_mostSold_27 : decode cX0_mostSold 27 = .ok (.invokestatic 176, 3) := by decide +kernel
theorem dX0_mostSold_30 : decode cX0_mostSold 30 = .ok (.istore_n 2, 1) := by decide +kernel
theorem dX0_mostSold_31 : decode cX0_mostSold 31 = .ok (.iinc 3 1, 3) := by decide +kernel
theorem dX0_mostSold_34 : decode cX0_mostSold 34 = .ok (.goto (-30), 3) := by decide +kernel
theorem dX0_mostSold_37 : decode cX0_mostSold 37 = .ok (.iload_n 2, 1) := by decide +kernel
theorem dX0_mostSold_38 : decode cX0_mostSold 38 = .ok (.ireturn, 1) := by decide +kernel
set_option maxRecDepth 20000 in
theorem ggX0_legsSold_X5_soldOn : GoodIn wsX0_legsSold wsX5_soldOn := goodIn_sub (gw_c (gw_t (gw_l (gw_l (gw_l (gw_g 7 rfl))))) (gw_a (gw_c (gw_t (gw_l (gw_l (gw_l (gw_g 8 rfl))))) (gw_c (gw_t (gw_l (gw_l (gw_l (gw_g 9 rfl))))) (gw_c (gw_t (gw_l (gw_l (gw_l (gw_g 10 rfl))))) (gw_c (gw_t (gw_l (gw_l (gw_l (gw_g 11 rfl))))) (gw_c (gw_t (gw_l (gw_l (gw_l (gw_g 6 rfl))))) (gw_c (gw_t (gw_l (gw_l (gw_l (gw_g 12 rfl))))) (gw_c (gw_t (gw_l (gw_l (gw_l (gw_g 13 rfl))))) (gw_c (gw_t (gw_l (gw_l (gw_l (gw_g 14 rfl))))) (gw_c (gw_t (gw_l (gw_l (gw_l (gw_g 15 rfl))))) (gw_c (gw_t (gw_l (gw_l (gw_l (gw_g 16 rfl))))) (gw_c (gw_t (gw_l (gw_l (gw_l (gw_g 17 rfl))))) gw_n))))))))))) gw_X0_legsSold_X50)) (by decide +kernel)
set_option maxRecDepth 20000 in
theorem gX0_legsSold_X5_soldOn : GoodIn wsX0_legsSold (wsV RX0 173 RX5 yX5_soldOn wsX5_soldOn) := goodIn_app (goodIn_sub (gw_c (gw_t (gw_l (gw_l (gw_l (gw_g 3 rfl))))) (gw_c (gw_t (gw_l (gw_l (gw_l (gw_g 4 rfl))))) (gw_c (gw_t (gw_l (gw_l (gw_l (gw_g 5 rfl))))) (gw_c (gw_t (gw_l (gw_l (gw_l (gw_g 6 rfl))))) gw_n)))) (by decide +kernel)) ggX0_legsSold_X5_soldOn
theorem dX0_legsSold_0 : decode cX0_legsSold 0 = .ok (.iconst 0, 1) := by decide +kernel
theorem dX0_legsSold_1 : decode cX0_legsSold 1 = .ok (.istore_n 2, 1) := by decide +kernel
theorem dX0_legsSold_2 : decode cX0_legsSold 2 = .ok (.iconst 0, 1) := by decide +kernel
theorem dX0_legsSold_3 : decode cX0_legsSold 3 = .ok (.istore_n 3, 1) := by decide +kernel
theorem dX0_legsSold_4 : decode cX0_legsSold 4 = .ok (.iload_n 3, 1) := by decide +kernel
theorem dX0_legsSold_5 : decode cX0_legsSold 5 = .ok (.aload_n 0, 1) := by decide +kernel
theorem dX0_legsSold_6 : decode cX0_legsSold 6 = .ok (.getfield 12, 3) := by decide +kernel
theorem dX0_legsSold_9 : decode cX0_legsSold 9 = .ok (.getfield 111, 3) := by decide +kernel
theorem dX0_legsSold_12 : decode cX0_legsSold 12 = .ok (.iconst 1, 1) := by decide +kernel
theorem dX0_legsSold_13 : decode cX0_legsSold 13 = .ok (.isub, 1) := by decide +kernel
theorem dX0_legsSold_14 : decode cX0_legsSold 14 = .ok (.if_icmp .ge 21, 3) := by decide +kernel
theorem dX0_legsSold_17 : decode cX0_legsSold 17 = .ok (.iload_n 2, 1) := by decide +kernel
theorem dX0_legsSold_18 : decode cX0_legsSold 18 = .ok (.aload_n 0, 1) := by decide +kernel
theorem dX0_legsSold_19 : decode cX0_legsSold 19 = .ok (.getfield 21, 3) := by decide +kernel
theorem dX0_legsSold_22 : decode cX0_legsSold 22 = .ok (.iload_n 1, 1) := by decide +kernel
theorem dX0_legsSold_23 : decode cX0_legsSold 23 = .ok (.iload_n 3, 1) := by decide +kernel
theorem dX0_legsSold_24 : decode cX0_legsSold 24 = .ok (.invokevirtual 173, 3) := by decide +kernel
theorem dX0_legsSold_27 : decode cX0_legsSold 27 = .ok (.iadd, 1) := by decide +kernel
theorem dX0_legsSold_28 : decode cX0_legsSold 28 = .ok (.istore_n 2, 1) := by decide +kernel
theorem dX0_legsSold_29 : decode cX0_legsSold 29 = .ok (.iinc 3 1, 3) := by decide +kernel
theorem dX0_legsSold_32 : decode cX0_legsSold 32 = .ok (.goto (-28), 3) := by decide +kernel
theorem dX0_legsSold_35 : decode cX0_legsSold 35 = .ok (.iload_n 2, 1) := by decide +kernel
theorem dX0_legsSold_36 : decode cX0_legsSold 36 = .ok (.ireturn, 1) := by decide +kernel
set_option maxRecDepth 20000 in
theorem ggX0_priceOfRun_X0_priceOfLeg : GoodIn wsX0_priceOfRun wsX0_priceOfLeg := goodIn_sub (gw_c (gw_X0_priceOfRun_X0_priceOfRun_r1 _ (gw_g 6 rfl)) (gw_a (gw_a (gw_a (gw_a (gw_a (gw_c (gw_X0_priceOfRun_X0_priceOfRun_r1 _ (gw_g 0 rfl)) (gw_c (gw_X0_priceOfRun_X0_priceOfRun_r1 _ (gw_g 7 rfl)) (gw_c (gw_X0_priceOfRun_X0_priceOfRun_r1 _ (gw_g 8 rfl)) (gw_c (gw_X0_priceOfRun_X0_priceOfRun_r1 _ (gw_g 9 rfl)) (gw_c (gw_X0_priceOfRun_X0_priceOfRun_r1 _ (gw_g 10 rfl)) (gw_c (gw_X0_priceOfRun_X0_priceOfRun_r1 _ (gw_g 11 rfl)) (gw_c (gw_X0_priceOfRun_X0_priceOfRun_r1 _ (gw_g 12 rfl)) (gw_c (gw_X0_priceOfRun_X0_priceOfRun_r1 _ (gw_g 13 rfl)) (gw_c (gw_X0_priceOfRun_X0_priceOfRun_r1 _ (gw_g 14 rfl)) (gw_c (gw_X0_priceOfRun_X0_priceOfRun_r1 _ (gw_g 15 rfl)) (gw_c (gw_X0_priceOfRun_X0_priceOfRun_r1 _ (gw_g 16 rfl)) (gw_c (gw_X0_priceOfRun_X0_priceOfRun_r1 _ (gw_g 17 rfl)) (gw_c (gw_X0_priceOfRun_X0_priceOfRun_r1 _ (gw_g 18 rfl)) (gw_c (gw_X0_priceOfRun_X0_priceOfRun_r1 _ (gw_g 19 rfl)) (gw_c (gw_X0_priceOfRun_X0_priceOfRun_r1 _ (gw_g 20 rfl)) (gw_c (gw_X0_priceOfRun_X0_priceOfRun_r1 _ (gw_g 21 rfl)) (gw_c (gw_X0_priceOfRun_X0_priceOfRun_r1 _ (gw_g 22 rfl)) (gw_c (gw_X0_priceOfRun_X0_priceOfRun_r1 _ (gw_g 23 rfl)) (gw_c (gw_X0_priceOfRun_X0_priceOfRun_r2 _ (gw_g 0 rfl)) (gw_c (gw_X0_priceOfRun_X0_priceOfRun_r2 _ (gw_g 1 rfl)) (gw_c (gw_X0_priceOfRun_X0_priceOfRun_r2 _ (gw_g 2 rfl)) (gw_c (gw_X0_priceOfRun_X0_priceOfRun_r2 _ (gw_g 3 rfl)) (gw_c (gw_X0_priceOfRun_X0_priceOfRun_r2 _ (gw_g 4 rfl)) (gw_c (gw_X0_priceOfRun_X0_priceOfRun_r2 _ (gw_g 5 rfl)) gw_n)))))))))))))))))))))))) (gw_a (gw_c (gw_X0_priceOfRun_X0_priceOfRun_r2 _ (gw_g 6 rfl)) (gw_c (gw_X0_priceOfRun_X0_priceOfRun_r2 _ (gw_g 7 rfl)) (gw_c (gw_X0_priceOfRun_X0_priceOfRun_r2 _ (gw_g 8 rfl)) (gw_c (gw_X0_priceOfRun_X0_priceOfRun_r2 _ (gw_g 9 rfl)) (gw_c (gw_X0_priceOfRun_X0_priceOfRun_r2 _ (gw_g 10 rfl)) (gw_c (gw_X0_priceOfRun_X0_priceOfRun_r2 _ (gw_g 11 rfl)) (gw_c (gw_X0_priceOfRun_X0_priceOfRun_r2 _ (gw_g 12 rfl)) (gw_c (gw_X0_priceOfRun_X0_priceOfRun_r2 _ (gw_g 13 rfl)) (gw_c (gw_X0_priceOfRun_X0_priceOfRun_r2 _ (gw_g 14 rfl)) (gw_c (gw_X0_priceOfRun_X0_priceOfRun_r2 _ (gw_g 15 rfl)) (gw_c (gw_X0_priceOfRun_X0_priceOfRun_r2 _ (gw_g 16 rfl)) (gw_c (gw_X0_priceOfRun_X0_priceOfRun_r2 _ (gw_g 17 rfl)) (gw_c (gw_X0_priceOfRun_X0_priceOfRun_r2 _ (gw_g 18 rfl)) (gw_c (gw_X0_priceOfRun_X0_priceOfRun_r2 _ (gw_g 19 rfl)) (gw_c (gw_X0_priceOfRun_X0_priceOfRun_r2 _ (gw_g 20 rfl)) (gw_c (gw_X0_priceOfRun_X0_priceOfRun_r2 _ (gw_g 21 rfl)) (gw_c (gw_X0_priceOfRun_X0_priceOfRun_r2 _ (gw_g 22 rfl)) (gw_c (gw_X0_priceOfRun_X0_priceOfRun_r2 _ (gw_g 23 rfl)) (gw_c (gw_X0_priceOfRun_X0_priceOfRun_r3 _ (gw_g 0 rfl)) (gw_c (gw_X0_priceOfRun_X0_priceOfRun_r3 _ (gw_g 1 rfl)) (gw_c (gw_X0_priceOfRun_X0_priceOfRun_r3 _ (gw_g 2 rfl)) (gw_c (gw_X0_priceOfRun_X0_priceOfRun_r3 _ (gw_g 3 rfl)) (gw_c (gw_X0_priceOfRun_X0_priceOfRun_r3 _ (gw_g 4 rfl)) (gw_c (gw_X0_priceOfRun_X0_priceOfRun_r3 _ (gw_g 5 rfl)) gw_n)))))))))))))))))))))))) (gw_c (gw_X0_priceOfRun_X0_priceOfRun_r3 _ (gw_g 6 rfl)) (gw_c (gw_X0_priceOfRun_X0_priceOfRun_r3 _ (gw_g 7 rfl)) (gw_c (gw_X0_priceOfRun_X0_priceOfRun_r3 _ (gw_g 8 rfl)) (gw_c (gw_X0_priceOfRun_X0_priceOfRun_r3 _ (gw_g 9 rfl)) (gw_c (gw_X0_priceOfRun_X0_priceOfRun_r3 _ (gw_g 10 rfl)) (gw_c (gw_X0_priceOfRun_X0_priceOfRun_r3 _ (gw_g 11 rfl)) (gw_c (gw_X0_priceOfRun_X0_priceOfRun_r3 _ (gw_g 12 rfl)) gw_n))))))))) gw_X0_priceOfRun_X00) gw_X0_priceOfRun_X40) gw_X0_priceOfRun_X50) gw_X0_priceOfRun_X20)) (by decide +kernel)
set_option maxRecDepth 20000 in
theorem gX0_priceOfRun_X0_priceOfLeg : GoodIn wsX0_priceOfRun (wsV RX0 179 RX0 yX0_priceOfLeg wsX0_priceOfLeg) := goodIn_app (goodIn_sub (gw_c (gw_X0_priceOfRun_X0_priceOfRun_r1 _ (gw_g 2 rfl)) (gw_c (gw_X0_priceOfRun_X0_priceOfRun_r1 _ (gw_g 3 rfl)) (gw_c (gw_X0_priceOfRun_X0_priceOfRun_r1 _ (gw_g 4 rfl)) (gw_c (gw_X0_priceOfRun_X0_priceOfRun_r1 _ (gw_g 5 rfl)) gw_n)))) (by decide +kernel)) ggX0_priceOfRun_X0_priceOfLeg
theorem dX0_priceOfRun_0 : decode cX0_priceOfRun 0 = .ok (.lconst 0, 1) := by decide +kernel
theorem dX0_priceOfRun_1 : decode cX0_priceOfRun 1 = .ok (.lstore_n 2, 1) := by decide +kernel
theorem dX0_priceOfRun_2 : decode cX0_priceOfRun 2 = .ok (.iconst 0, 1) := by decide +kernel
theorem dX0_priceOfRun_3 : decode cX0_priceOfRun 3 = .ok (.istore 4, 2) := by decide +kernel
theorem dX0_priceOfRun_5 : decode cX0_priceOfRun 5 = .ok (.iload 4, 2) := by decide +kernel
theorem dX0_priceOfRun_7 : decode cX0_priceOfRun 7 = .ok (.aload_n 0, 1) := by decide +kernel
theorem dX0_priceOfRun_8 : decode cX0_priceOfRun 8 = .ok (.getfield 12, 3) := by decide +kernel
theorem dX0_priceOfRun_11 : decode cX0_priceOfRun 11 = .ok (.getfield 111, 3) := by decide +kernel
theorem dX0_priceOfRun_14 : decode cX0_priceOfRun 14 = .ok (.iconst 1, 1) := by decide +kernel
theorem dX0_priceOfRun_15 : decode cX0_priceOfRun 15 = .ok (.isub, 1) := by decide +kernel
theorem dX0_priceOfRun_16 : decode cX0_priceOfRun 16 = .ok (.if_icmp .ge 19, 3) := by decide +kernel
theorem dX0_priceOfRun_19 : decode cX0_priceOfRun 19 = .ok (.lload_n 2, 1) := by decide +kernel
theorem dX0_priceOfRun_20 : decode cX0_priceOfRun 20 = .ok (.aload_n 0, 1) := by decide +kernel
theorem dX0_priceOfRun_21 : decode cX0_priceOfRun 21 = .ok (.iload_n 1, 1) := by decide +kernel
theorem dX0_priceOfRun_22 : decode cX0_priceOfRun 22 = .ok (.iload 4, 2) := by decide +kernel
theorem dX0_priceOfRun_24 : decode cX0_priceOfRun 24 = .ok (.invokevirtual 179, 3) := by decide +kernel
theorem dX0_priceOfRun_27 : decode cX0_priceOfRun 27 = .ok (.ladd, 1) := by decide +kernel
theorem dX0_priceOfRun_28 : decode cX0_priceOfRun 28 = .ok (.lstore_n 2, 1) := by decide +kernel
theorem dX0_priceOfRun_29 : decode cX0_priceOfRun 29 = .ok (.iinc 4 1, 3) := by decide +kernel
theorem dX0_priceOfRun_32 : decode cX0_priceOfRun 32 = .ok (.goto (-27), 3) := by decide +kernel
theorem dX0_priceOfRun_35 : decode cX0_priceOfRun 35 = .ok (.lload_n 2, 1) := by decide +kernel
theorem dX0_priceOfRun_36 : decode cX0_priceOfRun 36 = .ok (.lreturn, 1) := by decide +kernel
set_option maxRecDepth 20000 in
theorem ggX0_priceOfLeg_X4_hoursTo : GoodIn wsX0_priceOfLeg wsX4_hoursTo := goodIn_sub (gw_c (gw_X0_priceOfLeg_X0_priceOfLeg_r1 _ (gw_g 9 rfl)) (gw_a (gw_c (gw_X0_priceOfLeg_X0_priceOfLeg_r1 _ (gw_g 10 rfl)) gw_n) gw_X0_priceOfLeg_X40)) (by decide +kernel)
set_option maxRecDepth 20000 in
theorem gX0_priceOfLeg_X4_hoursTo : GoodIn wsX0_priceOfLeg (wsV RX0 71 RX4 yX4_hoursTo wsX4_hoursTo) := goodIn_app (goodIn_sub (gw_c (gw_X0_priceOfLeg_X0_priceOfLeg_r1 _ (gw_g 5 rfl)) (gw_c (gw_X0_priceOfLeg_X0_priceOfLeg_r1 _ (gw_g 6 rfl)) (gw_c (gw_X0_priceOfLeg_X0_priceOfLeg_r1 _ (gw_g 7 rfl)) (gw_c (gw_X0_priceOfLeg_X0_priceOfLeg_r1 _ (gw_g 8 rfl)) gw_n)))) (by decide +kernel)) ggX0_priceOfLeg_X4_hoursTo
set_option maxRecDepth 20000 in
theorem ggX0_priceOfLeg_X5_soldOn : GoodIn wsX0_priceOfLeg wsX5_soldOn := goodIn_sub (gw_c (gw_X0_priceOfLeg_X0_priceOfLeg_r1 _ (gw_g 15 rfl)) (gw_a (gw_c (gw_X0_priceOfLeg_X0_priceOfLeg_r1 _ (gw_g 16 rfl)) (gw_c (gw_X0_priceOfLeg_X0_priceOfLeg_r1 _ (gw_g 17 rfl)) (gw_c (gw_X0_priceOfLeg_X0_priceOfLeg_r1 _ (gw_g 18 rfl)) (gw_c (gw_X0_priceOfLeg_X0_priceOfLeg_r1 _ (gw_g 19 rfl)) (gw_c (gw_X0_priceOfLeg_X0_priceOfLeg_r1 _ (gw_g 14 rfl)) (gw_c (gw_X0_priceOfLeg_X0_priceOfLeg_r1 _ (gw_g 20 rfl)) (gw_c (gw_X0_priceOfLeg_X0_priceOfLeg_r1 _ (gw_g 21 rfl)) (gw_c (gw_X0_priceOfLeg_X0_priceOfLeg_r1 _ (gw_g 22 rfl)) (gw_c (gw_X0_priceOfLeg_X0_priceOfLeg_r1 _ (gw_g 23 rfl)) (gw_c (gw_X0_priceOfLeg_X0_priceOfLeg_r2 _ (gw_g 0 rfl)) (gw_c (gw_X0_priceOfLeg_X0_priceOfLeg_r2 _ (gw_g 1 rfl)) gw_n))))))))))) gw_X0_priceOfLeg_X50)) (by decide +kernel)
set_option maxRecDepth 20000 in
theorem gX0_priceOfLeg_X5_soldOn : GoodIn wsX0_priceOfLeg (wsV RX0 173 RX5 yX5_soldOn wsX5_soldOn) := goodIn_app (goodIn_sub (gw_c (gw_X0_priceOfLeg_X0_priceOfLeg_r1 _ (gw_g 11 rfl)) (gw_c (gw_X0_priceOfLeg_X0_priceOfLeg_r1 _ (gw_g 12 rfl)) (gw_c (gw_X0_priceOfLeg_X0_priceOfLeg_r1 _ (gw_g 13 rfl)) (gw_c (gw_X0_priceOfLeg_X0_priceOfLeg_r1 _ (gw_g 14 rfl)) gw_n)))) (by decide +kernel)) ggX0_priceOfLeg_X5_soldOn
set_option maxRecDepth 20000 in
theorem ggX0_priceOfLeg_X2_priceOf : GoodIn wsX0_priceOfLeg wsX2_priceOf := goodIn_sub (gw_c (gw_X0_priceOfLeg_X0_priceOfLeg_r2 _ (gw_g 6 rfl)) (gw_a (gw_a (gw_c (gw_X0_priceOfLeg_X0_priceOfLeg_r2 _ (gw_g 7 rfl)) (gw_c (gw_X0_priceOfLeg_X0_priceOfLeg_r2 _ (gw_g 8 rfl)) (gw_c (gw_X0_priceOfLeg_X0_priceOfLeg_r2 _ (gw_g 9 rfl)) (gw_c (gw_X0_priceOfLeg_X0_priceOfLeg_r2 _ (gw_g 10 rfl)) (gw_c (gw_X0_priceOfLeg_X0_priceOfLeg_r2 _ (gw_g 11 rfl)) (gw_c (gw_X0_priceOfLeg_X0_priceOfLeg_r2 _ (gw_g 12 rfl)) (gw_c (gw_X0_priceOfLeg_X0_priceOfLeg_r2 _ (gw_g 5 rfl)) (gw_c (gw_X0_priceOfLeg_X0_priceOfLeg_r2 _ (gw_g 13 rfl)) (gw_c (gw_X0_priceOfLeg_X0_priceOfLeg_r2 _ (gw_g 14 rfl)) (gw_c (gw_X0_priceOfLeg_X0_priceOfLeg_r2 _ (gw_g 15 rfl)) (gw_c (gw_X0_priceOfLeg_X0_priceOfLeg_r2 _ (gw_g 16 rfl)) (gw_c (gw_X0_priceOfLeg_X0_priceOfLeg_r2 _ (gw_g 17 rfl)) (gw_c (gw_X0_priceOfLeg_X0_priceOfLeg_r2 _ (gw_g 18 rfl)) (gw_c (gw_X0_priceOfLeg_X0_priceOfLeg_r2 _ (gw_g 19 rfl)) (gw_c (gw_X0_priceOfLeg_X0_priceOfLeg_r2 _ (gw_g 20 rfl)) (gw_c (gw_X0_priceOfLeg_X0_priceOfLeg_r2 _ (gw_g 21 rfl)) (gw_c (gw_X0_priceOfLeg_X0_priceOfLeg_r2 _ (gw_g 22 rfl)) (gw_c (gw_X0_priceOfLeg_X0_priceOfLeg_r2 _ (gw_g 23 rfl)) (gw_c (gw_X0_priceOfLeg_X0_priceOfLeg_r3 _ (gw_g 0 rfl)) (gw_c (gw_X0_priceOfLeg_X0_priceOfLeg_r3 _ (gw_g 1 rfl)) (gw_c (gw_X0_priceOfLeg_X0_priceOfLeg_r3 _ (gw_g 2 rfl)) (gw_c (gw_X0_priceOfLeg_X0_priceOfLeg_r3 _ (gw_g 3 rfl)) (gw_c (gw_X0_priceOfLeg_X0_priceOfLeg_r3 _ (gw_g 4 rfl)) (gw_c (gw_X0_priceOfLeg_X0_priceOfLeg_r3 _ (gw_g 5 rfl)) gw_n)))))))))))))))))))))))) (gw_c (gw_X0_priceOfLeg_X0_priceOfLeg_r3 _ (gw_g 6 rfl)) gw_n)) gw_X0_priceOfLeg_X20)) (by decide +kernel)
set_option maxRecDepth 20000 in
theorem gX0_priceOfLeg_X2_priceOf : GoodIn wsX0_priceOfLeg (wsV RX0 186 RX2 yX2_priceOf wsX2_priceOf) := goodIn_app (goodIn_sub (gw_c (gw_X0_priceOfLeg_X0_priceOfLeg_r2 _ (gw_g 2 rfl)) (gw_c (gw_X0_priceOfLeg_X0_priceOfLeg_r2 _ (gw_g 3 rfl)) (gw_c (gw_X0_priceOfLeg_X0_priceOfLeg_r2 _ (gw_g 4 rfl)) (gw_c (gw_X0_priceOfLeg_X0_priceOfLeg_r2 _ (gw_g 5 rfl)) gw_n)))) (by decide +kernel)) ggX0_priceOfLeg_X2_priceOf
theorem dX0_priceOfLeg_0 : decode cX0_priceOfLeg 0 = .ok (.aload_n 0, 1) := by decide +kernel
theorem dX0_priceOfLeg_1 : decode cX0_priceOfLeg 1 = .ok (.getfield 12, 3) := by decide +kernel
theorem dX0_priceOfLeg_4 : decode cX0_priceOfLeg 4 = .ok (.iload_n 2, 1) := by decide +kernel
theorem dX0_priceOfLeg_5 : decode cX0_priceOfLeg 5 = .ok (.invokevirtual 71, 3) := by decide +kernel
theorem dX0_priceOfLeg_8 : decode cX0_priceOfLeg 8 = .ok (.bipush 24, 2) := by decide +kernel
theorem dX0_priceOfLeg_10 : decode cX0_priceOfLeg 10 = .ok (.irem, 1) := by decide +kernel
theorem dX0_priceOfLeg_11 : decode cX0_priceOfLeg 11 = .ok (.istore_n 3, 1) := by decide +kernel
theorem dX0_priceOfLeg_12 : decode cX0_priceOfLeg 12 = .ok (.aload_n 0, 1) := by decide +kernel
theorem dX0_priceOfLeg_13 : decode cX0_priceOfLeg 13 = .ok (.getfield 56, 3) := by decide +kernel
theorem dX0_priceOfLeg_16 : decode cX0_priceOfLeg 16 = .ok (.iconst 0, 1) := by decide +kernel
theorem dX0_priceOfLeg_17 : decode cX0_priceOfLeg 17 = .ok (.iload_n 2, 1) := by decide +kernel
theorem dX0_priceOfLeg_18 : decode cX0_priceOfLeg 18 = .ok (.iastore, 1) := by decide +kernel
theorem dX0_priceOfLeg_19 : decode cX0_priceOfLeg 19 = .ok (.aload_n 0, 1) := by decide +kernel
theorem dX0_priceOfLeg_20 : decode cX0_priceOfLeg 20 = .ok (.getfield 56, 3) := by decide +kernel
theorem dX0_priceOfLeg_23 : decode cX0_priceOfLeg 23 = .ok (.iconst 1, 1) := by decide +kernel
theorem dX0_priceOfLeg_24 : decode cX0_priceOfLeg 24 = .ok (.aload_n 0, 1) := by decide +kernel
theorem dX0_priceOfLeg_25 : decode cX0_priceOfLeg 25 = .ok (.getfield 12, 3) := by decide +kernel
theorem dX0_priceOfLeg_28 : decode cX0_priceOfLeg 28 = .ok (.getfield 183, 3) := by decide +kernel
theorem dX0_priceOfLeg_31 : decode cX0_priceOfLeg 31 = .ok (.iload_n 2, 1) := by decide +kernel
theorem dX0_priceOfLeg_32 : decode cX0_priceOfLeg 32 = .ok (.iaload, 1) := by decide +kernel
theorem dX0_priceOfLeg_33 : decode cX0_priceOfLeg 33 = .ok (.iastore, 1) := by decide +kernel
theorem dX0_priceOfLeg_34 : decode cX0_priceOfLeg 34 = .ok (.aload_n 0, 1) := by decide +kernel
theorem dX0_priceOfLeg_35 : decode cX0_priceOfLeg 35 = .ok (.getfield 56, 3) := by decide +kernel
theorem dX0_priceOfLeg_38 : decode cX0_priceOfLeg 38 = .ok (.iconst 2, 1) := by decide +kernel
theorem dX0_priceOfLeg_39 : decode cX0_priceOfLeg 39 = .ok (.iload_n 3, 1) := by decide +kernel
theorem dX0_priceOfLeg_40 : decode cX0_priceOfLeg 40 = .ok (.iastore, 1) := by decide +kernel
theorem dX0_priceOfLeg_41 : decode cX0_priceOfLeg 41 = .ok (.aload_n 0, 1) := by decide +kernel
theorem dX0_priceOfLeg_42 : decode cX0_priceOfLeg 42 = .ok (.getfield 56, 3) := by decide +kernel
theorem dX0_priceOfLeg_45 : decode cX0_priceOfLeg 45 = .ok (.iconst 3, 1) := by decide +kernel
theorem dX0_priceOfLeg_46 : decode cX0_priceOfLeg 46 = .ok (.aload_n 0, 1) := by decide +kernel
theorem dX0_priceOfLeg_47 : decode cX0_priceOfLeg 47 = .ok (.getfield 21, 3) := by decide +kernel
theorem dX0_priceOfLeg_50 : decode cX0_priceOfLeg 50 = .ok (.iload_n 1, 1) := by decide +kernel
theorem dX0_priceOfLeg_51 : decode cX0_priceOfLeg 51 = .ok (.iload_n 2, 1) := by decide +kernel
theorem dX0_priceOfLeg_52 : decode cX0_priceOfLeg 52 = .ok (.invokevirtual 173, 3) := by decide +kernel
theorem dX0_priceOfLeg_55 : decode cX0_priceOfLeg 55 = .ok (.iastore, 1) := by decide +kernel
theorem dX0_priceOfLeg_56 : decode cX0_priceOfLeg 56 = .ok (.aload_n 0, 1) := by decide +kernel
theorem dX0_priceOfLeg_57 : decode cX0_priceOfLeg 57 = .ok (.getfield 56, 3) := by decide +kernel
theorem dX0_priceOfLeg_60 : decode cX0_priceOfLeg 60 = .ok (.iconst 4, 1) := by decide +kernel
theorem dX0_priceOfLeg_61 : decode cX0_priceOfLeg 61 = .ok (.iload_n 3, 1) := by decide +kernel
theorem dX0_priceOfLeg_62 : decode cX0_priceOfLeg 62 = .ok (.bipush 22, 2) := by decide +kernel
theorem dX0_priceOfLeg_64 : decode cX0_priceOfLeg 64 = .ok (.if_icmp .ge 9, 3) := by decide +kernel
theorem dX0_priceOfLeg_67 : decode cX0_priceOfLeg 67 = .ok (.iload_n 3, 1) := by decide +kernel
theorem dX0_priceOfLeg_68 : decode cX0_priceOfLeg 68 = .ok (.bipush 6, 2) := by decide +kernel
theorem dX0_priceOfLeg_70 : decode cX0_priceOfLeg 70 = .ok (.if_icmp .ge 7, 3) := by decide +kernel
theorem dX0_priceOfLeg_73 : decode cX0_priceOfLeg 73 = .ok (.iconst 1, 1) := by decide +kernel
theorem dX0_priceOfLeg_74 : decode cX0_priceOfLeg 74 = .ok (.goto 4, 3) := by decide +kernel
theorem dX0_priceOfLeg_77 : decode cX0_priceOfLeg 77 = .ok (.iconst 0, 1) := by decide +kernel
theorem dX0_priceOfLeg_78 : decode cX0_priceOfLeg 78 = .ok (.iastore, 1) := by decide +kernel
theorem dX0_priceOfLeg_79 : decode cX0_priceOfLeg 79 = .ok (.aload_n 0, 1) := by decide +kernel
theorem dX0_priceOfLeg_80 : decode cX0_priceOfLeg 80 = .ok (.getfield 42, 3) := by decide +kernel
theorem dX0_priceOfLeg_83 : decode cX0_priceOfLeg 83 = .ok (.aload_n 0, 1) := by decide +kernel
theorem dX0_priceOfLeg_84 : decode cX0_priceOfLeg 84 = .ok (.getfield 56, 3) := by decide +kernel
theorem dX0_priceOfLeg_87 : decode cX0_priceOfLeg 87 = .ok (.invokevirtual 186, 3) := by decide +kernel
theorem dX0_priceOfLeg_90 : decode cX0_priceOfLeg 90 = .ok (.lreturn, 1) := by decide +kernel
set_option maxRecDepth 20000 in
theorem ggX0_copyFrom_X4_copyFrom : GoodIn wsX0_copyFrom wsX4_copyFrom := goodIn_sub (gw_c (gw_X0_copyFrom_X0_copyFrom_r1 _ (gw_g 16 rfl)) (gw_a (gw_c (gw_X0_copyFrom_X0_copyFrom_r1 _ (gw_g 17 rfl)) (gw_c (gw_X0_copyFrom_X0_copyFrom_r1 _ (gw_g 18 rfl)) (gw_c (gw_X0_copyFrom_X0_copyFrom_r1 _ (gw_g 19 rfl)) (gw_c (gw_X0_copyFrom_X0_copyFrom_r1 _ (gw_g 8 rfl)) (gw_c (gw_X0_copyFrom_X0_copyFrom_r1 _ (gw_g 9 rfl)) (gw_c (gw_X0_copyFrom_X0_copyFrom_r1 _ (gw_g 10 rfl)) (gw_c (gw_X0_copyFrom_X0_copyFrom_r1 _ (gw_g 20 rfl)) gw_n))))))) gw_X0_copyFrom_X40)) (by decide +kernel)
set_option maxRecDepth 20000 in
theorem gX0_copyFrom_X4_copyFrom : GoodIn wsX0_copyFrom (wsV RX0 190 RX4 yX4_copyFrom wsX4_copyFrom) := goodIn_app (goodIn_sub (gw_c (gw_X0_copyFrom_X0_copyFrom_r1 _ (gw_g 12 rfl)) (gw_c (gw_X0_copyFrom_X0_copyFrom_r1 _ (gw_g 13 rfl)) (gw_c (gw_X0_copyFrom_X0_copyFrom_r1 _ (gw_g 14 rfl)) (gw_c (gw_X0_copyFrom_X0_copyFrom_r1 _ (gw_g 15 rfl)) gw_n)))) (by decide +kernel)) ggX0_copyFrom_X4_copyFrom
set_option maxRecDepth 20000 in
theorem ggX0_copyFrom_X5_copyFrom : GoodIn wsX0_copyFrom wsX5_copyFrom := goodIn_sub (gw_c (gw_X0_copyFrom_X0_copyFrom_r2 _ (gw_g 1 rfl)) (gw_a (gw_c (gw_X0_copyFrom_X0_copyFrom_r2 _ (gw_g 2 rfl)) (gw_c (gw_X0_copyFrom_X0_copyFrom_r2 _ (gw_g 3 rfl)) (gw_c (gw_X0_copyFrom_X0_copyFrom_r2 _ (gw_g 4 rfl)) (gw_c (gw_X0_copyFrom_X0_copyFrom_r1 _ (gw_g 8 rfl)) (gw_c (gw_X0_copyFrom_X0_copyFrom_r1 _ (gw_g 9 rfl)) (gw_c (gw_X0_copyFrom_X0_copyFrom_r1 _ (gw_g 10 rfl)) (gw_c (gw_X0_copyFrom_X0_copyFrom_r2 _ (gw_g 5 rfl)) (gw_c (gw_X0_copyFrom_X0_copyFrom_r2 _ (gw_g 6 rfl)) gw_n)))))))) gw_X0_copyFrom_X50)) (by decide +kernel)
set_option maxRecDepth 20000 in
theorem gX0_copyFrom_X5_copyFrom : GoodIn wsX0_copyFrom (wsV RX0 194 RX5 yX5_copyFrom wsX5_copyFrom) := goodIn_app (goodIn_sub (gw_c (gw_X0_copyFrom_X0_copyFrom_r1 _ (gw_g 21 rfl)) (gw_c (gw_X0_copyFrom_X0_copyFrom_r1 _ (gw_g 22 rfl)) (gw_c (gw_X0_copyFrom_X0_copyFrom_r1 _ (gw_g 23 rfl)) (gw_c (gw_X0_copyFrom_X0_copyFrom_r2 _ (gw_g 0 rfl)) gw_n)))) (by decide +kernel)) ggX0_copyFrom_X5_copyFrom
set_option maxRecDepth 20000 in
theorem ggX0_copyFrom_X7_copyFrom : GoodIn wsX0_copyFrom wsX7_copyFrom := goodIn_sub (gw_c (gw_X0_copyFrom_X0_copyFrom_r2 _ (gw_g 11 rfl)) (gw_a (gw_c (gw_X0_copyFrom_X0_copyFrom_r2 _ (gw_g 12 rfl)) (gw_c (gw_X0_copyFrom_X0_copyFrom_r2 _ (gw_g 13 rfl)) (gw_c (gw_X0_copyFrom_X0_copyFrom_r2 _ (gw_g 14 rfl)) (gw_c (gw_X0_copyFrom_X0_copyFrom_r1 _ (gw_g 8 rfl)) (gw_c (gw_X0_copyFrom_X0_copyFrom_r1 _ (gw_g 9 rfl)) (gw_c (gw_X0_copyFrom_X0_copyFrom_r1 _ (gw_g 10 rfl)) (gw_c (gw_X0_copyFrom_X0_copyFrom_r2 _ (gw_g 15 rfl)) (gw_c (gw_X0_copyFrom_X0_copyFrom_r2 _ (gw_g 16 rfl)) (gw_c (gw_X0_copyFrom_X0_copyFrom_r2 _ (gw_g 17 rfl)) (gw_c (gw_X0_copyFrom_X0_copyFrom_r2 _ (gw_g 18 rfl)) (gw_c (gw_X0_copyFrom_X0_copyFrom_r2 _ (gw_g 19 rfl)) gw_n))))))))))) gw_X0_copyFrom_X70)) (by decide +kernel)
set_option maxRecDepth 20000 in
theorem gX0_copyFrom_X7_copyFrom : GoodIn wsX0_copyFrom (wsV RX0 197 RX7 yX7_copyFrom wsX7_copyFrom) := goodIn_app (goodIn_sub (gw_c (gw_X0_copyFrom_X0_copyFrom_r2 _ (gw_g 7 rfl)) (gw_c (gw_X0_copyFrom_X0_copyFrom_r2 _ (gw_g 8 rfl)) (gw_c (gw_X0_copyFrom_X0_copyFrom_r2 _ (gw_g 9 rfl)) (gw_c (gw_X0_copyFrom_X0_copyFrom_r2 _ (gw_g 10 rfl)) gw_n)))) (by decide +kernel)) ggX0_copyFrom_X7_copyFrom
set_option maxRecDepth 20000 in
theorem ggX0_copyFrom_X1_copyFrom : GoodIn wsX0_copyFrom wsX1_copyFrom := goodIn_sub (gw_c (gw_X0_copyFrom_X0_copyFrom_r3 _ (gw_g 0 rfl)) (gw_a (gw_c (gw_X0_copyFrom_X0_copyFrom_r3 _ (gw_g 1 rfl)) (gw_c (gw_X0_copyFrom_X0_copyFrom_r3 _ (gw_g 2 rfl)) (gw_c (gw_X0_copyFrom_X0_copyFrom_r3 _ (gw_g 3 rfl)) (gw_c (gw_X0_copyFrom_X0_copyFrom_r1 _ (gw_g 8 rfl)) (gw_c (gw_X0_copyFrom_X0_copyFrom_r1 _ (gw_g 9 rfl)) (gw_c (gw_X0_copyFrom_X0_copyFrom_r1 _ (gw_g 10 rfl)) (gw_c (gw_X0_copyFrom_X0_copyFrom_r3 _ (gw_g 4 rfl)) (gw_c (gw_X0_copyFrom_X0_copyFrom_r3 _ (gw_g 5 rfl)) (gw_c (gw_X0_copyFrom_X0_copyFrom_r3 _ (gw_g 6 rfl)) (gw_c (gw_X0_copyFrom_X0_copyFrom_r3 _ (gw_g 7 rfl)) (gw_c (gw_X0_copyFrom_X0_copyFrom_r3 _ (gw_g 8 rfl)) (gw_c (gw_X0_copyFrom_X0_copyFrom_r3 _ (gw_g 9 rfl)) gw_n)))))))))))) gw_X0_copyFrom_X10)) (by decide +kernel)
set_option maxRecDepth 20000 in
theorem gX0_copyFrom_X1_copyFrom : GoodIn wsX0_copyFrom (wsV RX0 200 RX1 yX1_copyFrom wsX1_copyFrom) := goodIn_app (goodIn_sub (gw_c (gw_X0_copyFrom_X0_copyFrom_r2 _ (gw_g 20 rfl)) (gw_c (gw_X0_copyFrom_X0_copyFrom_r2 _ (gw_g 21 rfl)) (gw_c (gw_X0_copyFrom_X0_copyFrom_r2 _ (gw_g 22 rfl)) (gw_c (gw_X0_copyFrom_X0_copyFrom_r2 _ (gw_g 23 rfl)) gw_n)))) (by decide +kernel)) ggX0_copyFrom_X1_copyFrom
set_option maxRecDepth 20000 in
theorem ggX0_copyFrom_X2_copyFrom : GoodIn wsX0_copyFrom wsX2_copyFrom := goodIn_sub (gw_c (gw_X0_copyFrom_X0_copyFrom_r3 _ (gw_g 14 rfl)) (gw_a (gw_c (gw_X0_copyFrom_X0_copyFrom_r3 _ (gw_g 15 rfl)) (gw_c (gw_X0_copyFrom_X0_copyFrom_r3 _ (gw_g 16 rfl)) (gw_c (gw_X0_copyFrom_X0_copyFrom_r3 _ (gw_g 17 rfl)) (gw_c (gw_X0_copyFrom_X0_copyFrom_r1 _ (gw_g 8 rfl)) (gw_c (gw_X0_copyFrom_X0_copyFrom_r1 _ (gw_g 9 rfl)) (gw_c (gw_X0_copyFrom_X0_copyFrom_r1 _ (gw_g 10 rfl)) (gw_c (gw_X0_copyFrom_X0_copyFrom_r3 _ (gw_g 18 rfl)) (gw_c (gw_X0_copyFrom_X0_copyFrom_r3 _ (gw_g 19 rfl)) (gw_c (gw_X0_copyFrom_X0_copyFrom_r3 _ (gw_g 20 rfl)) (gw_c (gw_X0_copyFrom_X0_copyFrom_r3 _ (gw_g 21 rfl)) (gw_c (gw_X0_copyFrom_X0_copyFrom_r3 _ (gw_g 22 rfl)) (gw_c (gw_X0_copyFrom_X0_copyFrom_r3 _ (gw_g 23 rfl)) gw_n)))))))))))) gw_X0_copyFrom_X20)) (by decide +kernel)
set_option maxRecDepth 20000 in
theorem gX0_copyFrom_X2_copyFrom : GoodIn wsX0_copyFrom (wsV RX0 203 RX2 yX2_copyFrom wsX2_copyFrom) := goodIn_app (goodIn_sub (gw_c (gw_X0_copyFrom_X0_copyFrom_r3 _ (gw_g 10 rfl)) (gw_c (gw_X0_copyFrom_X0_copyFrom_r3 _ (gw_g 11 rfl)) (gw_c (gw_X0_copyFrom_X0_copyFrom_r3 _ (gw_g 12 rfl)) (gw_c (gw_X0_copyFrom_X0_copyFrom_r3 _ (gw_g 13 rfl)) gw_n)))) (by decide +kernel)) ggX0_copyFrom_X2_copyFrom
theorem dX0_copyFrom_0 : decode cX0_copyFrom 0 = .ok (.aload_n 0, 1) := by decide +kernel
theorem dX0_copyFrom_1 : decode cX0_copyFrom 1 = .ok (.aload_n 1, 1) := by decide +kernel
theorem dX0_copyFrom_2 : decode cX0_copyFrom 2 = .ok (.getfield 67, 3) := by decide +kernel
theorem dX0_copyFrom_5 : decode cX0_copyFrom 5 = .ok (.putfield 67, 3) := by decide +kernel
theorem dX0_copyFrom_8 : decode cX0_copyFrom 8 = .ok (.aload_n 0, 1) := by decide +kernel
theorem dX0_copyFrom_9 : decode cX0_copyFrom 9 = .ok (.getfield 12, 3) := by decide +kernel
theorem dX0_copyFrom_12 : decode cX0_copyFrom 12 = .ok (.aload_n 1, 1) := by decide +kernel
theorem dX0_copyFrom_13 : decode cX0_copyFrom 13 = .ok (.getfield 12, 3) := by decide +kernel
theorem dX0_copyFrom_16 : decode cX0_copyFrom 16 = .ok (.invokevirtual 190, 3) := by decide +kernel
theorem dX0_copyFrom_19 : decode cX0_copyFrom 19 = .ok (.aload_n 0, 1) := by decide +kernel
theorem dX0_copyFrom_20 : decode cX0_copyFrom 20 = .ok (.getfield 21, 3) := by decide +kernel
theorem dX0_copyFrom_23 : decode cX0_copyFrom 23 = .ok (.aload_n 1, 1) := by decide +kernel
theorem dX0_copyFrom_24 : decode cX0_copyFrom 24 = .ok (.getfield 21, 3) := by decide +kernel
theorem dX0_copyFrom_27 : decode cX0_copyFrom 27 = .ok (.invokevirtual 194, 3) := by decide +kernel
theorem dX0_copyFrom_30 : decode cX0_copyFrom 30 = .ok (.aload_n 0, 1) := by decide +kernel
theorem dX0_copyFrom_31 : decode cX0_copyFrom 31 = .ok (.getfield 28, 3) := by decide +kernel
theorem dX0_copyFrom_34 : decode cX0_copyFrom 34 = .ok (.aload_n 1, 1) := by decide +kernel
theorem dX0_copyFrom_35 : decode cX0_copyFrom 35 = .ok (.getfield 28, 3) := by decide +kernel
theorem dX0_copyFrom_38 : decode cX0_copyFrom 38 = .ok (.invokevirtual 197, 3) := by decide +kernel
theorem dX0_copyFrom_41 : decode cX0_copyFrom 41 = .ok (.aload_n 0, 1) := by decide +kernel
theorem dX0_copyFrom_42 : decode cX0_copyFrom 42 = .ok (.getfield 35, 3) := by decide +kernel
theorem dX0_copyFrom_45 : decode cX0_copyFrom 45 = .ok (.aload_n 1, 1) := by decide +kernel
theorem dX0_copyFrom_46 : decode cX0_copyFrom 46 = .ok (.getfield 35, 3) := by decide +kernel
theorem dX0_copyFrom_49 : decode cX0_copyFrom 49 = .ok (.invokevirtual 200, 3) := by decide +kernel
theorem dX0_copyFrom_52 : decode cX0_copyFrom 52 = .ok (.aload_n 0, 1) := by decide +kernel
theorem dX0_copyFrom_53 : decode cX0_copyFrom 53 = .ok (.getfield 42, 3) := by decide +kernel
theorem dX0_copyFrom_56 : decode cX0_copyFrom 56 = .ok (.aload_n 1, 1) := by decide +kernel
theorem dX0_copyFrom_57 : decode cX0_copyFrom 57 = .ok (.getfield 42, 3) := by decide +kernel
theorem dX0_copyFrom_60 : decode cX0_copyFrom 60 = .ok (.invokevirtual 203, 3) := by decide +kernel
theorem dX0_copyFrom_63 : decode cX0_copyFrom 63 = .ok (.aload_n 1, 1) := by decide +kernel
theorem dX0_copyFrom_64 : decode cX0_copyFrom 64 = .ok (.getfield 46, 3) := by decide +kernel
theorem dX0_copyFrom_67 : decode cX0_copyFrom 67 = .ok (.iconst 0, 1) := by decide +kernel
theorem dX0_copyFrom_68 : decode cX0_copyFrom 68 = .ok (.aload_n 0, 1) := by decide +kernel
theorem dX0_copyFrom_69 : decode cX0_copyFrom 69 = .ok (.getfield 46, 3) := by decide +kernel
theorem dX0_copyFrom_72 : decode cX0_copyFrom 72 = .ok (.iconst 0, 1) := by decide +kernel
theorem dX0_copyFrom_73 : decode cX0_copyFrom 73 = .ok (.aload_n 0, 1) := by decide +kernel
theorem dX0_copyFrom_74 : decode cX0_copyFrom 74 = .ok (.getfield 46, 3) := by decide +kernel
theorem dX0_copyFrom_77 : decode cX0_copyFrom 77 = .ok (.arraylength, 1) := by decide +kernel
theorem dX0_copyFrom_78 : decode cX0_copyFrom 78 = .ok (.invokestatic 206, 3) := by decide +kernel
theorem dX0_copyFrom_81 : decode cX0_copyFrom 81 = .ok (.aload_n 1, 1) := by decide +kernel
theorem dX0_copyFrom_82 : decode cX0_copyFrom 82 = .ok (.getfield 50, 3) := by decide +kernel
theorem dX0_copyFrom_85 : decode cX0_copyFrom 85 = .ok (.iconst 0, 1) := by decide +kernel
theorem dX0_copyFrom_86 : decode cX0_copyFrom 86 = .ok (.aload_n 0, 1) := by decide +kernel
theorem dX0_copyFrom_87 : decode cX0_copyFrom 87 = .ok (.getfield 50, 3) := by decide +kernel
theorem dX0_copyFrom_90 : decode cX0_copyFrom 90 = .ok (.iconst 0, 1) := by decide +kernel
theorem dX0_copyFrom_91 : decode cX0_copyFrom 91 = .ok (.aload_n 0, 1) := by decide +kernel
theorem dX0_copyFrom_92 : decode cX0_copyFrom 92 = .ok (.getfield 50, 3) := by decide +kernel
theorem dX0_copyFrom_95 : decode cX0_copyFrom 95 = .ok (.arraylength, 1) := by decide +kernel
theorem dX0_copyFrom_96 : decode cX0_copyFrom 96 = .ok (.invokestatic 206, 3) := by decide +kernel
theorem dX0_copyFrom_99 : decode cX0_copyFrom 99 = .ok (.return_, 1) := by decide +kernel
theorem dX1_init_0 : decode cX1_init 0 = .ok (.aload_n 0, 1) := by decide +kernel
theorem dX1_init_1 : decode cX1_init 1 = .ok (.invokespecial 3, 3) := by decide +kernel
theorem dX1_init_4 : decode cX1_init 4 = .ok (.aload_n 0, 1) := by decide +kernel
theorem dX1_init_5 : decode cX1_init 5 = .ok (.bipush 100, 2) := by decide +kernel
theorem dX1_init_7 : decode cX1_init 7 = .ok (.newarray .int, 2) := by decide +kernel
theorem dX1_init_9 : decode cX1_init 9 = .ok (.putfield 9, 3) := by decide +kernel
theorem dX1_init_12 : decode cX1_init 12 = .ok (.aload_n 0, 1) := by decide +kernel
theorem dX1_init_13 : decode cX1_init 13 = .ok (.bipush 100, 2) := by decide +kernel
theorem dX1_init_15 : decode cX1_init 15 = .ok (.newarray .int, 2) := by decide +kernel
theorem dX1_init_17 : decode cX1_init 17 = .ok (.putfield 15, 3) := by decide +kernel
theorem dX1_init_20 : decode cX1_init 20 = .ok (.aload_n 0, 1) := by decide +kernel
theorem dX1_init_21 : decode cX1_init 21 = .ok (.bipush 100, 2) := by decide +kernel
theorem dX1_init_23 : decode cX1_init 23 = .ok (.newarray .int, 2) := by decide +kernel
theorem dX1_init_25 : decode cX1_init 25 = .ok (.putfield 18, 3) := by decide +kernel
theorem dX1_init_28 : decode cX1_init 28 = .ok (.aload_n 0, 1) := by decide +kernel
theorem dX1_init_29 : decode cX1_init 29 = .ok (.bipush 100, 2) := by decide +kernel
theorem dX1_init_31 : decode cX1_init 31 = .ok (.newarray .int, 2) := by decide +kernel
theorem dX1_init_33 : decode cX1_init 33 = .ok (.putfield 21, 3) := by decide +kernel
theorem dX1_init_36 : decode cX1_init 36 = .ok (.aload_n 0, 1) := by decide +kernel
theorem dX1_init_37 : decode cX1_init 37 = .ok (.bipush 100, 2) := by decide +kernel
theorem dX1_init_39 : decode cX1_init 39 = .ok (.newarray .int, 2) := by decide +kernel
theorem dX1_init_41 : decode cX1_init 41 = .ok (.putfield 24, 3) := by decide +kernel
theorem dX1_init_44 : decode cX1_init 44 = .ok (.aload_n 0, 1) := by decide +kernel
theorem dX1_init_45 : decode cX1_init 45 = .ok (.bipush 100, 2) := by decide +kernel
theorem dX1_init_47 : decode cX1_init 47 = .ok (.newarray .int, 2) := by decide +kernel
theorem dX1_init_49 : decode cX1_init 49 = .ok (.putfield 27, 3) := by decide +kernel
theorem dX1_init_52 : decode cX1_init 52 = .ok (.aload_n 0, 1) := by decide +kernel
theorem dX1_init_53 : decode cX1_init 53 = .ok (.bipush 100, 2) := by decide +kernel
theorem dX1_init_55 : decode cX1_init 55 = .ok (.newarray .int, 2) := by decide +kernel
theorem dX1_init_57 : decode cX1_init 57 = .ok (.putfield 30, 3) := by decide +kernel
theorem dX1_init_60 : decode cX1_init 60 = .ok (.return_, 1) := by decide +kernel
theorem dX1_has_0 : decode cX1_has 0 = .ok (.iload_n 1, 1) := by decide +kernel
theorem dX1_has_1 : decode cX1_has 1 = .ok (.ifCond .lt 15, 3) := by decide +kernel
theorem dX1_has_4 : decode cX1_has 4 = .ok (.iload_n 1, 1) := by decide +kernel
theorem dX1_has_5 : decode cX1_has 5 = .ok (.aload_n 0, 1) := by decide +kernel
theorem dX1_has_6 : decode cX1_has 6 = .ok (.getfield 33, 3) := by decide +kernel
theorem dX1_has_9 : decode cX1_has 9 = .ok (.if_icmp .ge 7, 3) := by decide +kernel
theorem dX1_has_12 : decode cX1_has 12 = .ok (.iconst 1, 1) := by decide +kernel
theorem dX1_has_13 : decode cX1_has 13 = .ok (.goto 4, 3) := by decide +kernel
theorem dX1_has_16 : decode cX1_has 16 = .ok (.iconst 0, 1) := by decide +kernel
theorem dX1_has_17 : decode cX1_has 17 = .ok (.ireturn, 1) := by decide +kernel
theorem dX1_add_0 : decode cX1_add 0 = .ok (.aload_n 0, 1) := by decide +kernel
theorem dX1_add_1 : decode cX1_add 1 = .ok (.getfield 33, 3) := by decide +kernel
theorem dX1_add_4 : decode cX1_add 4 = .ok (.bipush 100, 2) := by decide +kernel
theorem dX1_add_6 : decode cX1_add 6 = .ok (.if_icmp .lt 5, 3) := by decide +kernel
theorem dX1_add_9 : decode cX1_add 9 = .ok (.iconst (-1), 1) := by decide +kernel
theorem dX1_add_10 : decode cX1_add 10 = .ok (.ireturn, 1) := by decide +kernel
theorem dX1_add_11 : decode cX1_add 11 = .ok (.aload_n 0, 1) := by decide +kernel
theorem dX1_add_12 : decode cX1_add 12 = .ok (.getfield 9, 3) := by decide +kernel
theorem dX1_add_15 : decode cX1_add 15 = .ok (.aload_n 0, 1) := by decide +kernel
theorem dX1_add_16 : decode cX1_add 16 = .ok (.getfield 33, 3) := by decide +kernel
theorem dX1_add_19 : decode cX1_add 19 = .ok (.iload_n 1, 1) := by decide +kernel
theorem dX1_add_20 : decode cX1_add 20 = .ok (.iastore, 1) := by decide +kernel
theorem dX1_add_21 : decode cX1_add 21 = .ok (.aload_n 0, 1) := by decide +kernel
theorem dX1_add_22 : decode cX1_add 22 = .ok (.getfield 15, 3) := by decide +kernel
theorem dX1_add_25 : decode cX1_add 25 = .ok (.aload_n 0, 1) := by decide +kernel
theorem dX1_add_26 : decode cX1_add 26 = .ok (.getfield 33, 3) := by decide +kernel
theorem dX1_add_29 : decode cX1_add 29 = .ok (.iload_n 2, 1) := by decide +kernel
theorem dX1_add_30 : decode cX1_add 30 = .ok (.iastore, 1) := by decide +kernel
theorem dX1_add_31 : decode cX1_add 31 = .ok (.aload_n 0, 1) := by decide +kernel
theorem dX1_add_32 : decode cX1_add 32 = .ok (.getfield 18, 3) := by decide +kernel
theorem dX1_add_35 : decode cX1_add 35 = .ok (.aload_n 0, 1) := by decide +kernel
theorem dX1_add_36 : decode cX1_add 36 = .ok (.getfield 33, 3) := by decide +kernel
theorem dX1_add_39 : decode cX1_add 39 = .ok (.iload_n 3, 1) := by decide +kernel
theorem dX1_add_40 : decode cX1_add 40 = .ok (.iastore, 1) := by decide +kernel
theorem dX1_add_41 : decode cX1_add 41 = .ok (.aload_n 0, 1) := by decide +kernel
theorem dX1_add_42 : decode cX1_add 42 = .ok (.getfield 21, 3) := by decide +kernel
theorem dX1_add_45 : decode cX1_add 45 = .ok (.aload_n 0, 1) := by decide +kernel
theorem dX1_add_46 : decode cX1_add 46 = .ok (.getfield 33, 3) := by decide +kernel
theorem dX1_add_49 : decode cX1_add 49 = .ok (.iload 4, 2) := by decide +kernel
theorem dX1_add_51 : decode cX1_add 51 = .ok (.iastore, 1) := by decide +kernel
theorem dX1_add_52 : decode cX1_add 52 = .ok (.aload_n 0, 1) := by decide +kernel
theorem dX1_add_53 : decode cX1_add 53 = .ok (.getfield 24, 3) := by decide +kernel
theorem dX1_add_56 : decode cX1_add 56 = .ok (.aload_n 0, 1) := by decide +kernel
theorem dX1_add_57 : decode cX1_add 57 = .ok (.getfield 33, 3) := by decide +kernel
theorem dX1_add_60 : decode cX1_add 60 = .ok (.iload 5, 2) := by decide +kernel
theorem dX1_add_62 : decode cX1_add 62 = .ok (.iastore, 1) := by decide +kernel
theorem dX1_add_63 : decode cX1_add 63 = .ok (.aload_n 0, 1) := by decide +kernel
theorem dX1_add_64 : decode cX1_add 64 = .ok (.getfield 27, 3) := by decide +kernel
theorem dX1_add_67 : decode cX1_add 67 = .ok (.aload_n 0, 1) := by decide +kernel
theorem dX1_add_68 : decode cX1_add 68 = .ok (.getfield 33, 3) := by decide +kernel
theorem dX1_add_71 : decode cX1_add 71 = .ok (.iload 6, 2) := by decide +kernel
theorem dX1_add_73 : decode cX1_add 73 = .ok (.iastore, 1) := by decide +kernel
theorem dX1_add_74 : decode cX1_add 74 = .ok (.aload_n 0, 1) := by decide +kernel
theorem dX1_add_75 : decode cX1_add 75 = .ok (.getfield 30, 3) := by decide +kernel
theorem dX1_add_78 : decode cX1_add 78 = .ok (.aload_n 0, 1) := by decide +kernel
theorem dX1_add_79 : decode cX1_add 79 = .ok (.getfield 33, 3) := by decide +kernel
theorem dX1_add_82 : decode cX1_add 82 = .ok (.iconst (-1), 1) := by decide +kernel
theorem dX1_add_83 : decode cX1_add 83 = .ok (.iastore, 1) := by decide +kernel
theorem dX1_add_84 : decode cX1_add 84 = .ok (.aload_n 0, 1) := by decide +kernel
theorem dX1_add_85 : decode cX1_add 85 = .ok (.dup, 1) := by decide +kernel
theorem dX1_add_86 : decode cX1_add 86 = .ok (.getfield 33, 3) := by decide +kernel
theorem dX1_add_89 : decode cX1_add 89 = .ok (.iconst 1, 1) := by decide +kernel
theorem dX1_add_90 : decode cX1_add 90 = .ok (.iadd, 1) := by decide +kernel
theorem dX1_add_91 : decode cX1_add 91 = .ok (.putfield 33, 3) := by decide +kernel
theorem dX1_add_94 : decode cX1_add 94 = .ok (.aload_n 0, 1) := by decide +kernel
theorem dX1_add_95 : decode cX1_add 95 = .ok (.getfield 33, 3) := by decide +kernel
theorem dX1_add_98 : decode cX1_add 98 = .ok (.iconst 1, 1) := by decide +kernel
theorem dX1_add_99 : decode cX1_add 99 = .ok (.isub, 1) := by decide +kernel
theorem dX1_add_100 : decode cX1_add 100 = .ok (.ireturn, 1) := by decide +kernel
theorem dX1_standing_0 : decode cX1_standing 0 = .ok (.iload_n 2, 1) := by decide +kernel
theorem dX1_standing_1 : decode cX1_standing 1 = .ok (.aload_n 0, 1) := by decide +kernel
theorem dX1_standing_2 : decode cX1_standing 2 = .ok (.getfield 24, 3) := by decide +kernel
theorem dX1_standing_5 : decode cX1_standing 5 = .ok (.iload_n 1, 1) := by decide +kernel
theorem dX1_standing_6 : decode cX1_standing 6 = .ok (.iaload, 1) := by decide +kernel
theorem dX1_standing_7 : decode cX1_standing 7 = .ok (.if_icmp .ge 5, 3) := by decide +kernel
theorem dX1_standing_10 : decode cX1_standing 10 = .ok (.iconst 0, 1) := by decide +kernel
theorem dX1_standing_11 : decode cX1_standing 11 = .ok (.ireturn, 1) := by decide +kernel
theorem dX1_standing_12 : decode cX1_standing 12 = .ok (.iload_n 2, 1) := by decide +kernel
theorem dX1_standing_13 : decode cX1_standing 13 = .ok (.aload_n 0, 1) := by decide +kernel
theorem dX1_standing_14 : decode cX1_standing 14 = .ok (.getfield 27, 3) := by decide +kernel
theorem dX1_standing_17 : decode cX1_standing 17 = .ok (.iload_n 1, 1) := by decide +kernel
theorem dX1_standing_18 : decode cX1_standing 18 = .ok (.iaload, 1) := by decide +kernel
theorem dX1_standing_19 : decode cX1_standing 19 = .ok (.if_icmp .ge 7, 3) := by decide +kernel
theorem dX1_standing_22 : decode cX1_standing 22 = .ok (.iconst 1, 1) := by decide +kernel
theorem dX1_standing_23 : decode cX1_standing 23 = .ok (.goto 4, 3) := by decide +kernel
theorem dX1_standing_26 : decode cX1_standing 26 = .ok (.iconst 2, 1) := by decide +kernel
theorem dX1_standing_27 : decode cX1_standing 27 = .ok (.ireturn, 1) := by decide +kernel
theorem dX1_copyFrom_0 : decode cX1_copyFrom 0 = .ok (.aload_n 0, 1) := by decide +kernel
theorem dX1_copyFrom_1 : decode cX1_copyFrom 1 = .ok (.aload_n 1, 1) := by decide +kernel
theorem dX1_copyFrom_2 : decode cX1_copyFrom 2 = .ok (.getfield 33, 3) := by decide +kernel
theorem dX1_copyFrom_5 : decode cX1_copyFrom 5 = .ok (.putfield 33, 3) := by decide +kernel
theorem dX1_copyFrom_8 : decode cX1_copyFrom 8 = .ok (.aload_n 1, 1) := by decide +kernel
theorem dX1_copyFrom_9 : decode cX1_copyFrom 9 = .ok (.getfield 9, 3) := by decide +kernel
theorem dX1_copyFrom_12 : decode cX1_copyFrom 12 = .ok (.iconst 0, 1) := by decide +kernel
theorem dX1_copyFrom_13 : decode cX1_copyFrom 13 = .ok (.aload_n 0, 1) := by decide +kernel
