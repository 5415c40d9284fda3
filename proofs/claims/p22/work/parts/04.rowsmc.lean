theorem dX10_ticket_64 : decode cX10_ticket 64 = .ok (.aload_n 0, 1) := by decide +kernel
theorem dX10_ticket_65 : decode cX10_ticket 65 = .ok (.getfield 41, 3) := by decide +kernel
theorem dX10_ticket_68 : decode cX10_ticket 68 = .ok (.iload_n 1, 1) := by decide +kernel
theorem dX10_ticket_69 : decode cX10_ticket 69 = .ok (.iaload, 1) := by decide +kernel
theorem dX10_ticket_70 : decode cX10_ticket 70 = .ok (.ireturn, 1) := by decide +kernel
theorem dX10_ticket_71 : decode cX10_ticket 71 = .ok (.aload_n 0, 1) := by decide +kernel
theorem dX10_ticket_72 : decode cX10_ticket 72 = .ok (.getfield 44, 3) := by decide +kernel
theorem dX10_ticket_75 : decode cX10_ticket 75 = .ok (.iload_n 1, 1) := by decide +kernel
theorem dX10_ticket_76 : decode cX10_ticket 76 = .ok (.iaload, 1) := by decide +kernel
theorem dX10_ticket_77 : decode cX10_ticket 77 = .ok (.ireturn, 1) := by decide +kernel
theorem dX10_ticket_78 : decode cX10_ticket 78 = .ok (.aload_n 0, 1) := by decide +kernel
theorem dX10_ticket_79 : decode cX10_ticket 79 = .ok (.getfield 47, 3) := by decide +kernel
theorem dX10_ticket_82 : decode cX10_ticket 82 = .ok (.iload_n 1, 1) := by decide +kernel
theorem dX10_ticket_83 : decode cX10_ticket 83 = .ok (.iaload, 1) := by decide +kernel
theorem dX10_ticket_84 : decode cX10_ticket 84 = .ok (.ireturn, 1) := by decide +kernel
theorem dX10_ticket_85 : decode cX10_ticket 85 = .ok (.aload_n 0, 1) := by decide +kernel
theorem dX10_ticket_86 : decode cX10_ticket 86 = .ok (.getfield 50, 3) := by decide +kernel
theorem dX10_ticket_89 : decode cX10_ticket 89 = .ok (.iload_n 1, 1) := by decide +kernel
theorem dX10_ticket_90 : decode cX10_ticket 90 = .ok (.iaload, 1) := by decide +kernel
theorem dX10_ticket_91 : decode cX10_ticket 91 = .ok (.ireturn, 1) := by decide +kernel
theorem dX10_ticket_92 : decode cX10_ticket 92 = .ok (.aload_n 0, 1) := by decide +kernel
theorem dX10_ticket_93 : decode cX10_ticket 93 = .ok (.getfield 53, 3) := by decide +kernel
theorem dX10_ticket_96 : decode cX10_ticket 96 = .ok (.iload_n 1, 1) := by decide +kernel
theorem dX10_ticket_97 : decode cX10_ticket 97 = .ok (.iaload, 1) := by decide +kernel
theorem dX10_ticket_98 : decode cX10_ticket 98 = .ok (.ireturn, 1) := by decide +kernel
theorem dX10_ticket_99 : decode cX10_ticket 99 = .ok (.aload_n 0, 1) := by decide +kernel
theorem dX10_ticket_100 : decode cX10_ticket 100 = .ok (.getfield 56, 3) := by decide +kernel
theorem dX10_ticket_103 : decode cX10_ticket 103 = .ok (.iload_n 1, 1) := by decide +kernel
theorem dX10_ticket_104 : decode cX10_ticket 104 = .ok (.iaload, 1) := by decide +kernel
theorem dX10_ticket_105 : decode cX10_ticket 105 = .ok (.ireturn, 1) := by decide +kernel
theorem dX10_ticket_106 : decode cX10_ticket 106 = .ok (.iconst (-1), 1) := by decide +kernel
theorem dX10_ticket_107 : decode cX10_ticket 107 = .ok (.ireturn, 1) := by decide +kernel
set_option maxRecDepth 20000 in
theorem ggX10_lies_X10_isRun : GoodIn wsX10_lies wsX10_isRun := goodIn_sub (gw_c (gw_t (gw_l (gw_g 8 rfl))) (gw_a (gw_c (gw_t (gw_l (gw_g 1 rfl))) (gw_c (gw_t (gw_l (gw_g 9 rfl))) (gw_c (gw_t (gw_l (gw_g 10 rfl))) (gw_c (gw_t (gw_l (gw_g 7 rfl))) (gw_c (gw_t (gw_l (gw_g 11 rfl))) gw_n))))) gw_X10_lies_X100)) (by decide +kernel)
set_option maxRecDepth 20000 in
theorem gX10_lies_X10_isRun : GoodIn wsX10_lies (wsV RX10 166 RX10 yX10_isRun wsX10_isRun) := goodIn_app (goodIn_sub (gw_c (gw_t (gw_l (gw_g 4 rfl))) (gw_c (gw_t (gw_l (gw_g 5 rfl))) (gw_c (gw_t (gw_l (gw_g 6 rfl))) (gw_c (gw_t (gw_l (gw_g 7 rfl))) gw_n)))) (by decide +kernel)) ggX10_lies_X10_isRun
set_option maxRecDepth 20000 in
theorem ggX10_lies_X10_in : GoodIn wsX10_lies wsX10_in := goodIn_sub (gw_c (gw_t (gw_l (gw_g 11 rfl))) gw_n) (by decide +kernel)
set_option maxRecDepth 20000 in
theorem gX10_lies_X10_in : GoodIn wsX10_lies (va_wsS RX10 146 yX10_in wsX10_in) := goodIn_app (goodIn_sub (gw_c (gw_t (gw_l (gw_g 9 rfl))) (gw_c (gw_t (gw_l (gw_g 10 rfl))) (gw_c (gw_t (gw_l (gw_g 7 rfl))) gw_n))) (by decide +kernel)) ggX10_lies_X10_in
set_option maxRecDepth 20000 in
theorem ggX10_lies_X10_at : GoodIn wsX10_lies wsX10_at := goodIn_sub (gw_c (gw_t (gw_l (gw_g 15 rfl))) gw_n) (by decide +kernel)
set_option maxRecDepth 20000 in
theorem gX10_lies_X10_at : GoodIn wsX10_lies (wsV RX10 162 RX10 yX10_at wsX10_at) := goodIn_app (goodIn_sub (gw_c (gw_t (gw_l (gw_g 12 rfl))) (gw_c (gw_t (gw_l (gw_g 13 rfl))) (gw_c (gw_t (gw_l (gw_g 14 rfl))) (gw_c (gw_t (gw_l (gw_g 7 rfl))) gw_n)))) (by decide +kernel)) ggX10_lies_X10_at
theorem dX10_lies_0 : decode cX10_lies 0 = .ok (.aload_n 0, 1) := by decide +kernel
theorem dX10_lies_1 : decode cX10_lies 1 = .ok (.iconst 0, 1) := by decide +kernel
theorem dX10_lies_2 : decode cX10_lies 2 = .ok (.putfield 139, 3) := by decide +kernel
theorem dX10_lies_5 : decode cX10_lies 5 = .ok (.aload_n 0, 1) := by decide +kernel
theorem dX10_lies_6 : decode cX10_lies 6 = .ok (.iload_n 1, 1) := by decide +kernel
theorem dX10_lies_7 : decode cX10_lies 7 = .ok (.invokevirtual 166, 3) := by decide +kernel
theorem dX10_lies_10 : decode cX10_lies 10 = .ok (.ifCond .eq 50, 3) := by decide +kernel
theorem dX10_lies_13 : decode cX10_lies 13 = .ok (.iload_n 2, 1) := by decide +kernel
theorem dX10_lies_14 : decode cX10_lies 14 = .ok (.iconst 0, 1) := by decide +kernel
theorem dX10_lies_15 : decode cX10_lies 15 = .ok (.aload_n 0, 1) := by decide +kernel
theorem dX10_lies_16 : decode cX10_lies 16 = .ok (.getfield 29, 3) := by decide +kernel
theorem dX10_lies_19 : decode cX10_lies 19 = .ok (.iload_n 1, 1) := by decide +kernel
theorem dX10_lies_20 : decode cX10_lies 20 = .ok (.iaload, 1) := by decide +kernel
theorem dX10_lies_21 : decode cX10_lies 21 = .ok (.iconst 1, 1) := by decide +kernel
theorem dX10_lies_22 : decode cX10_lies 22 = .ok (.isub, 1) := by decide +kernel
theorem dX10_lies_23 : decode cX10_lies 23 = .ok (.invokestatic 146, 3) := by decide +kernel
theorem dX10_lies_26 : decode cX10_lies 26 = .ok (.ifCond .eq 34, 3) := by decide +kernel
theorem dX10_lies_29 : decode cX10_lies 29 = .ok (.iload_n 3, 1) := by decide +kernel
theorem dX10_lies_30 : decode cX10_lies 30 = .ok (.iconst 0, 1) := by decide +kernel
theorem dX10_lies_31 : decode cX10_lies 31 = .ok (.aload_n 0, 1) := by decide +kernel
theorem dX10_lies_32 : decode cX10_lies 32 = .ok (.getfield 13, 3) := by decide +kernel
theorem dX10_lies_35 : decode cX10_lies 35 = .ok (.iconst 0, 1) := by decide +kernel
theorem dX10_lies_36 : decode cX10_lies 36 = .ok (.iaload, 1) := by decide +kernel
theorem dX10_lies_37 : decode cX10_lies 37 = .ok (.iconst 2, 1) := by decide +kernel
theorem dX10_lies_38 : decode cX10_lies 38 = .ok (.isub, 1) := by decide +kernel
theorem dX10_lies_39 : decode cX10_lies 39 = .ok (.invokestatic 146, 3) := by decide +kernel
theorem dX10_lies_42 : decode cX10_lies 42 = .ok (.ifCond .eq 18, 3) := by decide +kernel
theorem dX10_lies_45 : decode cX10_lies 45 = .ok (.aload_n 0, 1) := by decide +kernel
theorem dX10_lies_46 : decode cX10_lies 46 = .ok (.getfield 35, 3) := by decide +kernel
theorem dX10_lies_49 : decode cX10_lies 49 = .ok (.aload_n 0, 1) := by decide +kernel
theorem dX10_lies_50 : decode cX10_lies 50 = .ok (.iload_n 1, 1) := by decide +kernel
theorem dX10_lies_51 : decode cX10_lies 51 = .ok (.iload_n 2, 1) := by decide +kernel
theorem dX10_lies_52 : decode cX10_lies 52 = .ok (.iload_n 3, 1) := by decide +kernel
theorem dX10_lies_53 : decode cX10_lies 53 = .ok (.invokevirtual 162, 3) := by decide +kernel
theorem dX10_lies_56 : decode cX10_lies 56 = .ok (.iaload, 1) := by decide +kernel
theorem dX10_lies_57 : decode cX10_lies 57 = .ok (.goto 5, 3) := by decide +kernel
theorem dX10_lies_60 : decode cX10_lies 60 = .ok (.bipush (-2), 2) := by decide +kernel
theorem dX10_lies_62 : decode cX10_lies 62 = .ok (.ireturn, 1) := by decide +kernel
set_option maxRecDepth 20000 in
theorem ggX10_sold_X10_at : GoodIn wsX10_sold wsX10_at := goodIn_sub (gw_c (gw_t (gw_l (gw_g 6 rfl))) gw_n) (by decide +kernel)
set_option maxRecDepth 20000 in
theorem gX10_sold_X10_at : GoodIn wsX10_sold (wsV RX10 162 RX10 yX10_at wsX10_at) := goodIn_app (goodIn_sub (gw_c (gw_t (gw_l (gw_g 2 rfl))) (gw_c (gw_t (gw_l (gw_g 3 rfl))) (gw_c (gw_t (gw_l (gw_g 4 rfl))) (gw_c (gw_t (gw_l (gw_g 5 rfl))) gw_n)))) (by decide +kernel)) ggX10_sold_X10_at
theorem dX10_sold_0 : decode cX10_sold 0 = .ok (.iconst 0, 1) := by decide +kernel
theorem dX10_sold_1 : decode cX10_sold 1 = .ok (.istore_n 3, 1) := by decide +kernel
theorem dX10_sold_2 : decode cX10_sold 2 = .ok (.iconst 0, 1) := by decide +kernel
theorem dX10_sold_3 : decode cX10_sold 3 = .ok (.istore 4, 2) := by decide +kernel
theorem dX10_sold_5 : decode cX10_sold 5 = .ok (.iload 4, 2) := by decide +kernel
theorem dX10_sold_7 : decode cX10_sold 7 = .ok (.aload_n 0, 1) := by decide +kernel
theorem dX10_sold_8 : decode cX10_sold 8 = .ok (.getfield 29, 3) := by decide +kernel
theorem dX10_sold_11 : decode cX10_sold 11 = .ok (.iload_n 1, 1) := by decide +kernel
theorem dX10_sold_12 : decode cX10_sold 12 = .ok (.iaload, 1) := by decide +kernel
theorem dX10_sold_13 : decode cX10_sold 13 = .ok (.if_icmp .ge 34, 3) := by decide +kernel
theorem dX10_sold_16 : decode cX10_sold 16 = .ok (.iload_n 3, 1) := by decide +kernel
theorem dX10_sold_17 : decode cX10_sold 17 = .ok (.aload_n 0, 1) := by decide +kernel
theorem dX10_sold_18 : decode cX10_sold 18 = .ok (.getfield 35, 3) := by decide +kernel
theorem dX10_sold_21 : decode cX10_sold 21 = .ok (.aload_n 0, 1) := by decide +kernel
theorem dX10_sold_22 : decode cX10_sold 22 = .ok (.iload_n 1, 1) := by decide +kernel
theorem dX10_sold_23 : decode cX10_sold 23 = .ok (.iload 4, 2) := by decide +kernel
theorem dX10_sold_25 : decode cX10_sold 25 = .ok (.iload_n 2, 1) := by decide +kernel
theorem dX10_sold_26 : decode cX10_sold 26 = .ok (.invokevirtual 162, 3) := by decide +kernel
theorem dX10_sold_29 : decode cX10_sold 29 = .ok (.iaload, 1) := by decide +kernel
theorem dX10_sold_30 : decode cX10_sold 30 = .ok (.iconst (-1), 1) := by decide +kernel
theorem dX10_sold_31 : decode cX10_sold 31 = .ok (.if_icmp .eq 7, 3) := by decide +kernel
theorem dX10_sold_34 : decode cX10_sold 34 = .ok (.iconst 1, 1) := by decide +kernel
theorem dX10_sold_35 : decode cX10_sold 35 = .ok (.goto 4, 3) := by decide +kernel
theorem dX10_sold_38 : decode cX10_sold 38 = .ok (.iconst 0, 1) := by decide +kernel
theorem dX10_sold_39 : decode cX10_sold 39 = .ok (.iadd, 1) := by decide +kernel
theorem dX10_sold_40 : decode cX10_sold 40 = .ok (.istore_n 3, 1) := by decide +kernel
theorem dX10_sold_41 : decode cX10_sold 41 = .ok (.iinc 4 1, 3) := by decide +kernel
theorem dX10_sold_44 : decode cX10_sold 44 = .ok (.goto (-39), 3) := by decide +kernel
theorem dX10_sold_47 : decode cX10_sold 47 = .ok (.iload_n 3, 1) := by decide +kernel
theorem dX10_sold_48 : decode cX10_sold 48 = .ok (.ireturn, 1) := by decide +kernel
set_option maxRecDepth 20000 in
theorem ggX10_told_X10_isRun : GoodIn wsX10_told wsX10_isRun := goodIn_sub (gw_c (gw_X10_told_X10_told_r1 _ (gw_g 11 rfl)) (gw_a (gw_c (gw_X10_told_X10_told_r1 _ (gw_g 1 rfl)) (gw_c (gw_X10_told_X10_told_r1 _ (gw_g 12 rfl)) (gw_c (gw_X10_told_X10_told_r1 _ (gw_g 13 rfl)) (gw_c (gw_X10_told_X10_told_r1 _ (gw_g 10 rfl)) (gw_c (gw_X10_told_X10_told_r1 _ (gw_g 14 rfl)) gw_n))))) gw_X10_told_X100)) (by decide +kernel)
set_option maxRecDepth 20000 in
theorem gX10_told_X10_isRun : GoodIn wsX10_told (wsV RX10 166 RX10 yX10_isRun wsX10_isRun) := goodIn_app (goodIn_sub (gw_c (gw_X10_told_X10_told_r1 _ (gw_g 7 rfl)) (gw_c (gw_X10_told_X10_told_r1 _ (gw_g 8 rfl)) (gw_c (gw_X10_told_X10_told_r1 _ (gw_g 9 rfl)) (gw_c (gw_X10_told_X10_told_r1 _ (gw_g 10 rfl)) gw_n)))) (by decide +kernel)) ggX10_told_X10_isRun
set_option maxRecDepth 20000 in
theorem ggX10_told_X10_sold : GoodIn wsX10_told wsX10_sold := goodIn_sub (gw_c (gw_X10_told_X10_told_r1 _ (gw_g 18 rfl)) (gw_a (gw_c (gw_X10_told_X10_told_r1 _ (gw_g 1 rfl)) (gw_c (gw_X10_told_X10_told_r1 _ (gw_g 19 rfl)) (gw_c (gw_X10_told_X10_told_r1 _ (gw_g 20 rfl)) (gw_c (gw_X10_told_X10_told_r1 _ (gw_g 21 rfl)) (gw_c (gw_X10_told_X10_told_r1 _ (gw_g 22 rfl)) (gw_c (gw_X10_told_X10_told_r1 _ (gw_g 10 rfl)) (gw_c (gw_X10_told_X10_told_r1 _ (gw_g 23 rfl)) gw_n))))))) gw_X10_told_X100)) (by decide +kernel)
set_option maxRecDepth 20000 in
theorem gX10_told_X10_sold : GoodIn wsX10_told (wsV RX10 206 RX10 yX10_sold wsX10_sold) := goodIn_app (goodIn_sub (gw_c (gw_X10_told_X10_told_r1 _ (gw_g 15 rfl)) (gw_c (gw_X10_told_X10_told_r1 _ (gw_g 16 rfl)) (gw_c (gw_X10_told_X10_told_r1 _ (gw_g 17 rfl)) (gw_c (gw_X10_told_X10_told_r1 _ (gw_g 10 rfl)) gw_n)))) (by decide +kernel)) ggX10_told_X10_sold
set_option maxRecDepth 20000 in
theorem ggX10_told_X10_hasLeft : GoodIn wsX10_told wsX10_hasLeft := goodIn_sub (gw_c (gw_X10_told_X10_told_r2 _ (gw_g 3 rfl)) (gw_a (gw_c (gw_X10_told_X10_told_r2 _ (gw_g 4 rfl)) gw_n) gw_X10_told_X100)) (by decide +kernel)
set_option maxRecDepth 20000 in
theorem gX10_told_X10_hasLeft : GoodIn wsX10_told (wsV RX10 200 RX10 yX10_hasLeft wsX10_hasLeft) := goodIn_app (goodIn_sub (gw_c (gw_X10_told_X10_told_r2 _ (gw_g 0 rfl)) (gw_c (gw_X10_told_X10_told_r2 _ (gw_g 1 rfl)) (gw_c (gw_X10_told_X10_told_r2 _ (gw_g 2 rfl)) (gw_c (gw_X10_told_X10_told_r1 _ (gw_g 10 rfl)) gw_n)))) (by decide +kernel)) ggX10_told_X10_hasLeft
set_option maxRecDepth 20000 in
theorem ggX10_told_X10_in : GoodIn wsX10_told wsX10_in := goodIn_sub (gw_c (gw_X10_told_X10_told_r1 _ (gw_g 14 rfl)) gw_n) (by decide +kernel)
set_option maxRecDepth 20000 in
theorem gX10_told_X10_in : GoodIn wsX10_told (va_wsS RX10 146 yX10_in wsX10_in) := goodIn_app (goodIn_sub (gw_c (gw_X10_told_X10_told_r1 _ (gw_g 12 rfl)) (gw_c (gw_X10_told_X10_told_r1 _ (gw_g 13 rfl)) (gw_c (gw_X10_told_X10_told_r1 _ (gw_g 10 rfl)) gw_n))) (by decide +kernel)) ggX10_told_X10_in
theorem dX10_told_0 : decode cX10_told 0 = .ok (.aload_n 0, 1) := by decide +kernel
theorem dX10_told_1 : decode cX10_told 1 = .ok (.iconst 0, 1) := by decide +kernel
theorem dX10_told_2 : decode cX10_told 2 = .ok (.putfield 139, 3) := by decide +kernel
theorem dX10_told_5 : decode cX10_told 5 = .ok (.aload_n 0, 1) := by decide +kernel
theorem dX10_told_6 : decode cX10_told 6 = .ok (.iload_n 1, 1) := by decide +kernel
theorem dX10_told_7 : decode cX10_told 7 = .ok (.invokevirtual 166, 3) := by decide +kernel
theorem dX10_told_10 : decode cX10_told 10 = .ok (.ifCond .ne 5, 3) := by decide +kernel
theorem dX10_told_13 : decode cX10_told 13 = .ok (.iconst (-1), 1) := by decide +kernel
theorem dX10_told_14 : decode cX10_told 14 = .ok (.ireturn, 1) := by decide +kernel
theorem dX10_told_15 : decode cX10_told 15 = .ok (.iconst 0, 1) := by decide +kernel
theorem dX10_told_16 : decode cX10_told 16 = .ok (.istore_n 3, 1) := by decide +kernel
theorem dX10_told_17 : decode cX10_told 17 = .ok (.iload_n 2, 1) := by decide +kernel
theorem dX10_told_18 : decode cX10_told 18 = .ok (.tableswitch 191 0 5 #[38, 45, 96, 143, 45, 177], 38) := by decide +kernel
theorem dX10_told_56 : decode cX10_told 56 = .ok (.aload_n 0, 1) := by decide +kernel
theorem dX10_told_57 : decode cX10_told 57 = .ok (.getfield 29, 3) := by decide +kernel
theorem dX10_told_60 : decode cX10_told 60 = .ok (.iload_n 1, 1) := by decide +kernel
theorem dX10_told_61 : decode cX10_told 61 = .ok (.iaload, 1) := by decide +kernel
theorem dX10_told_62 : decode cX10_told 62 = .ok (.ireturn, 1) := by decide +kernel
theorem dX10_told_63 : decode cX10_told 63 = .ok (.iconst 0, 1) := by decide +kernel
theorem dX10_told_64 : decode cX10_told 64 = .ok (.istore 4, 2) := by decide +kernel
theorem dX10_told_66 : decode cX10_told 66 = .ok (.iload 4, 2) := by decide +kernel
theorem dX10_told_68 : decode cX10_told 68 = .ok (.aload_n 0, 1) := by decide +kernel
theorem dX10_told_69 : decode cX10_told 69 = .ok (.getfield 38, 3) := by decide +kernel
theorem dX10_told_72 : decode cX10_told 72 = .ok (.iconst 0, 1) := by decide +kernel
theorem dX10_told_73 : decode cX10_told 73 = .ok (.iaload, 1) := by decide +kernel
theorem dX10_told_74 : decode cX10_told 74 = .ok (.if_icmp .ge 38, 3) := by decide +kernel
theorem dX10_told_77 : decode cX10_told 77 = .ok (.iload_n 3, 1) := by decide +kernel
theorem dX10_told_78 : decode cX10_told 78 = .ok (.aload_n 0, 1) := by decide +kernel
theorem dX10_told_79 : decode cX10_told 79 = .ok (.getfield 41, 3) := by decide +kernel
theorem dX10_told_82 : decode cX10_told 82 = .ok (.iload 4, 2) := by decide +kernel
theorem dX10_told_84 : decode cX10_told 84 = .ok (.iaload, 1) := by decide +kernel
theorem dX10_told_85 : decode cX10_told 85 = .ok (.iload_n 1, 1) := by decide +kernel
theorem dX10_told_86 : decode cX10_told 86 = .ok (.if_icmp .ne 17, 3) := by decide +kernel
theorem dX10_told_89 : decode cX10_told 89 = .ok (.aload_n 0, 1) := by decide +kernel
theorem dX10_told_90 : decode cX10_told 90 = .ok (.getfield 56, 3) := by decide +kernel
theorem dX10_told_93 : decode cX10_told 93 = .ok (.iload 4, 2) := by decide +kernel
theorem dX10_told_95 : decode cX10_told 95 = .ok (.iaload, 1) := by decide +kernel
theorem dX10_told_96 : decode cX10_told 96 = .ok (.ifCond .ne 7, 3) := by decide +kernel
theorem dX10_told_99 : decode cX10_told 99 = .ok (.iconst 1, 1) := by decide +kernel
theorem dX10_told_100 : decode cX10_told 100 = .ok (.goto 4, 3) := by decide +kernel
theorem dX10_told_103 : decode cX10_told 103 = .ok (.iconst 0, 1) := by decide +kernel
theorem dX10_told_104 : decode cX10_told 104 = .ok (.iadd, 1) := by decide +kernel
theorem dX10_told_105 : decode cX10_told 105 = .ok (.istore_n 3, 1) := by decide +kernel
theorem dX10_told_106 : decode cX10_told 106 = .ok (.iinc 4 1, 3) := by decide +kernel
theorem dX10_told_109 : decode cX10_told 109 = .ok (.goto (-43), 3) := by decide +kernel
theorem dX10_told_112 : decode cX10_told 112 = .ok (.iload_n 3, 1) := by decide +kernel
theorem dX10_told_113 : decode cX10_told 113 = .ok (.ireturn, 1) := by decide +kernel
theorem dX10_told_114 : decode cX10_told 114 = .ok (.iconst 0, 1) := by decide +kernel
theorem dX10_told_115 : decode cX10_told 115 = .ok (.istore 4, 2) := by decide +kernel
theorem dX10_told_117 : decode cX10_told 117 = .ok (.iload 4, 2) := by decide +kernel
theorem dX10_told_119 : decode cX10_told 119 = .ok (.aload_n 0, 1) := by decide +kernel
theorem dX10_told_120 : decode cX10_told 120 = .ok (.getfield 13, 3) := by decide +kernel
theorem dX10_told_123 : decode cX10_told 123 = .ok (.iconst 0, 1) := by decide +kernel
theorem dX10_told_124 : decode cX10_told 124 = .ok (.iaload, 1) := by decide +kernel
theorem dX10_told_125 : decode cX10_told 125 = .ok (.iconst 1, 1) := by decide +kernel
theorem dX10_told_126 : decode cX10_told 126 = .ok (.isub, 1) := by decide +kernel
theorem dX10_told_127 : decode cX10_told 127 = .ok (.if_icmp .ge 32, 3) := by decide +kernel
theorem dX10_told_130 : decode cX10_told 130 = .ok (.aload_n 0, 1) := by decide +kernel
theorem dX10_told_131 : decode cX10_told 131 = .ok (.iload_n 1, 1) := by decide +kernel
theorem dX10_told_132 : decode cX10_told 132 = .ok (.iload 4, 2) := by decide +kernel
theorem dX10_told_134 : decode cX10_told 134 = .ok (.invokevirtual 206, 3) := by decide +kernel
theorem dX10_told_137 : decode cX10_told 137 = .ok (.iload_n 3, 1) := by decide +kernel
theorem dX10_told_138 : decode cX10_told 138 = .ok (.if_icmp .le 13, 3) := by decide +kernel
theorem dX10_told_141 : decode cX10_told 141 = .ok (.aload_n 0, 1) := by decide +kernel
theorem dX10_told_142 : decode cX10_told 142 = .ok (.iload_n 1, 1) := by decide +kernel
theorem dX10_told_143 : decode cX10_told 143 = .ok (.iload 4, 2) := by decide +kernel
theorem dX10_told_145 : decode cX10_told 145 = .ok (.invokevirtual 206, 3) := by decide +kernel
theorem dX10_told_148 : decode cX10_told 148 = .ok (.goto 4, 3) := by decide +kernel
theorem dX10_told_151 : decode cX10_told 151 = .ok (.iload_n 3, 1) := by decide +kernel
theorem dX10_told_152 : decode cX10_told 152 = .ok (.istore_n 3, 1) := by decide +kernel
theorem dX10_told_153 : decode cX10_told 153 = .ok (.iinc 4 1, 3) := by decide +kernel
theorem dX10_told_156 : decode cX10_told 156 = .ok (.goto (-39), 3) := by decide +kernel
theorem dX10_told_159 : decode cX10_told 159 = .ok (.iload_n 3, 1) := by decide +kernel
theorem dX10_told_160 : decode cX10_told 160 = .ok (.ireturn, 1) := by decide +kernel
theorem dX10_told_161 : decode cX10_told 161 = .ok (.iconst 0, 1) := by decide +kernel
theorem dX10_told_162 : decode cX10_told 162 = .ok (.istore 4, 2) := by decide +kernel
theorem dX10_told_164 : decode cX10_told 164 = .ok (.iload 4, 2) := by decide +kernel
theorem dX10_told_166 : decode cX10_told 166 = .ok (.aload_n 0, 1) := by decide +kernel
theorem dX10_told_167 : decode cX10_told 167 = .ok (.getfield 13, 3) := by decide +kernel
theorem dX10_told_170 : decode cX10_told 170 = .ok (.iconst 0, 1) := by decide +kernel
theorem dX10_told_171 : decode cX10_told 171 = .ok (.iaload, 1) := by decide +kernel
theorem dX10_told_172 : decode cX10_told 172 = .ok (.iconst 1, 1) := by decide +kernel
theorem dX10_told_173 : decode cX10_told 173 = .ok (.isub, 1) := by decide +kernel
theorem dX10_told_174 : decode cX10_told 174 = .ok (.if_icmp .ge 19, 3) := by decide +kernel
theorem dX10_told_177 : decode cX10_told 177 = .ok (.iload_n 3, 1) := by decide +kernel
theorem dX10_told_178 : decode cX10_told 178 = .ok (.aload_n 0, 1) := by decide +kernel
theorem dX10_told_179 : decode cX10_told 179 = .ok (.iload_n 1, 1) := by decide +kernel
theorem dX10_told_180 : decode cX10_told 180 = .ok (.iload 4, 2) := by decide +kernel
theorem dX10_told_182 : decode cX10_told 182 = .ok (.invokevirtual 206, 3) := by decide +kernel
theorem dX10_told_185 : decode cX10_told 185 = .ok (.iadd, 1) := by decide +kernel
theorem dX10_told_186 : decode cX10_told 186 = .ok (.istore_n 3, 1) := by decide +kernel
theorem dX10_told_187 : decode cX10_told 187 = .ok (.iinc 4 1, 3) := by decide +kernel
theorem dX10_told_190 : decode cX10_told 190 = .ok (.goto (-26), 3) := by decide +kernel
theorem dX10_told_193 : decode cX10_told 193 = .ok (.iload_n 3, 1) := by decide +kernel
theorem dX10_told_194 : decode cX10_told 194 = .ok (.ireturn, 1) := by decide +kernel
theorem dX10_told_195 : decode cX10_told 195 = .ok (.aload_n 0, 1) := by decide +kernel
theorem dX10_told_196 : decode cX10_told 196 = .ok (.iload_n 1, 1) := by decide +kernel
theorem dX10_told_197 : decode cX10_told 197 = .ok (.invokevirtual 200, 3) := by decide +kernel
theorem dX10_told_200 : decode cX10_told 200 = .ok (.ifCond .eq 7, 3) := by decide +kernel
theorem dX10_told_203 : decode cX10_told 203 = .ok (.iconst 1, 1) := by decide +kernel
theorem dX10_told_204 : decode cX10_told 204 = .ok (.goto 4, 3) := by decide +kernel
theorem dX10_told_207 : decode cX10_told 207 = .ok (.iconst 0, 1) := by decide +kernel
theorem dX10_told_208 : decode cX10_told 208 = .ok (.ireturn, 1) := by decide +kernel
theorem dX10_told_209 : decode cX10_told 209 = .ok (.iload_n 2, 1) := by decide +kernel
theorem dX10_told_210 : decode cX10_told 210 = .ok (.bipush 10, 2) := by decide +kernel
theorem dX10_told_212 : decode cX10_told 212 = .ok (.bipush 9, 2) := by decide +kernel
theorem dX10_told_214 : decode cX10_told 214 = .ok (.aload_n 0, 1) := by decide +kernel
theorem dX10_told_215 : decode cX10_told 215 = .ok (.getfield 29, 3) := by decide +kernel
theorem dX10_told_218 : decode cX10_told 218 = .ok (.iload_n 1, 1) := by decide +kernel
theorem dX10_told_219 : decode cX10_told 219 = .ok (.iaload, 1) := by decide +kernel
theorem dX10_told_220 : decode cX10_told 220 = .ok (.iadd, 1) := by decide +kernel
theorem dX10_told_221 : decode cX10_told 221 = .ok (.invokestatic 146, 3) := by decide +kernel
theorem dX10_told_224 : decode cX10_told 224 = .ok (.ifCond .eq 20, 3) := by decide +kernel
theorem dX10_told_227 : decode cX10_told 227 = .ok (.aload_n 0, 1) := by decide +kernel
theorem dX10_told_228 : decode cX10_told 228 = .ok (.getfield 32, 3) := by decide +kernel
theorem dX10_told_231 : decode cX10_told 231 = .ok (.bipush 10, 2) := by decide +kernel
theorem dX10_told_233 : decode cX10_told 233 = .ok (.iload_n 1, 1) := by decide +kernel
theorem dX10_told_234 : decode cX10_told 234 = .ok (.imul, 1) := by decide +kernel
theorem dX10_told_235 : decode cX10_told 235 = .ok (.iload_n 2, 1) := by decide +kernel
theorem dX10_told_236 : decode cX10_told 236 = .ok (.iadd, 1) := by decide +kernel
theorem dX10_told_237 : decode cX10_told 237 = .ok (.bipush 10, 2) := by decide +kernel
theorem dX10_told_239 : decode cX10_told 239 = .ok (.isub, 1) := by decide +kernel
theorem dX10_told_240 : decode cX10_told 240 = .ok (.iaload, 1) := by decide +kernel
theorem dX10_told_241 : decode cX10_told 241 = .ok (.goto 4, 3) := by decide +kernel
theorem dX10_told_244 : decode cX10_told 244 = .ok (.iconst (-1), 1) := by decide +kernel
theorem dX10_told_245 : decode cX10_told 245 = .ok (.ireturn, 1) := by decide +kernel
set_option maxRecDepth 20000 in
theorem ggX10_feed_X10_four : GoodIn wsX10_feed wsX10_four := goodIn_sub (gw_c (gw_t (gw_l (gw_g 6 rfl))) (gw_a (gw_c (gw_t (gw_l (gw_g 7 rfl))) (gw_c (gw_t (gw_l (gw_g 1 rfl))) gw_n)) gw_X10_feed_X100)) (by decide +kernel)
set_option maxRecDepth 20000 in
theorem gX10_feed_X10_four : GoodIn wsX10_feed (wsV RX10 212 RX10 yX10_four wsX10_four) := goodIn_app (goodIn_sub (gw_c (gw_t (gw_l (gw_g 2 rfl))) (gw_c (gw_t (gw_l (gw_g 3 rfl))) (gw_c (gw_t (gw_l (gw_g 4 rfl))) (gw_c (gw_t (gw_l (gw_g 5 rfl))) gw_n)))) (by decide +kernel)) ggX10_feed_X10_four
theorem dX10_feed_0 : decode cX10_feed 0 = .ok (.aload_n 0, 1) := by decide +kernel
theorem dX10_feed_1 : decode cX10_feed 1 = .ok (.iconst 0, 1) := by decide +kernel
theorem dX10_feed_2 : decode cX10_feed 2 = .ok (.putfield 139, 3) := by decide +kernel
theorem dX10_feed_5 : decode cX10_feed 5 = .ok (.aload_n 0, 1) := by decide +kernel
theorem dX10_feed_6 : decode cX10_feed 6 = .ok (.getfield 209, 3) := by decide +kernel
theorem dX10_feed_9 : decode cX10_feed 9 = .ok (.bipush 20, 2) := by decide +kernel
theorem dX10_feed_11 : decode cX10_feed 11 = .ok (.iadd, 1) := by decide +kernel
theorem dX10_feed_12 : decode cX10_feed 12 = .ok (.sipush 400, 3) := by decide +kernel
theorem dX10_feed_15 : decode cX10_feed 15 = .ok (.if_icmp .le 5, 3) := by decide +kernel
theorem dX10_feed_18 : decode cX10_feed 18 = .ok (.iconst (-1), 1) := by decide +kernel
theorem dX10_feed_19 : decode cX10_feed 19 = .ok (.ireturn, 1) := by decide +kernel
theorem dX10_feed_20 : decode cX10_feed 20 = .ok (.aload_n 0, 1) := by decide +kernel
theorem dX10_feed_21 : decode cX10_feed 21 = .ok (.iload_n 1, 1) := by decide +kernel
theorem dX10_feed_22 : decode cX10_feed 22 = .ok (.invokevirtual 212, 3) := by decide +kernel
theorem dX10_feed_25 : decode cX10_feed 25 = .ok (.aload_n 0, 1) := by decide +kernel
theorem dX10_feed_26 : decode cX10_feed 26 = .ok (.iload_n 2, 1) := by decide +kernel
theorem dX10_feed_27 : decode cX10_feed 27 = .ok (.invokevirtual 212, 3) := by decide +kernel
theorem dX10_feed_30 : decode cX10_feed 30 = .ok (.aload_n 0, 1) := by decide +kernel
theorem dX10_feed_31 : decode cX10_feed 31 = .ok (.iload_n 3, 1) := by decide +kernel
theorem dX10_feed_32 : decode cX10_feed 32 = .ok (.invokevirtual 212, 3) := by decide +kernel
theorem dX10_feed_35 : decode cX10_feed 35 = .ok (.aload_n 0, 1) := by decide +kernel
theorem dX10_feed_36 : decode cX10_feed 36 = .ok (.iload 4, 2) := by decide +kernel
theorem dX10_feed_38 : decode cX10_feed 38 = .ok (.invokevirtual 212, 3) := by decide +kernel
theorem dX10_feed_41 : decode cX10_feed 41 = .ok (.aload_n 0, 1) := by decide +kernel
theorem dX10_feed_42 : decode cX10_feed 42 = .ok (.iload 5, 2) := by decide +kernel
theorem dX10_feed_44 : decode cX10_feed 44 = .ok (.invokevirtual 212, 3) := by decide +kernel
theorem dX10_feed_47 : decode cX10_feed 47 = .ok (.aload_n 0, 1) := by decide +kernel
theorem dX10_feed_48 : decode cX10_feed 48 = .ok (.getfield 209, 3) := by decide +kernel
theorem dX10_feed_51 : decode cX10_feed 51 = .ok (.ireturn, 1) := by decide +kernel
theorem dX10_four_0 : decode cX10_four 0 = .ok (.bipush 24, 2) := by decide +kernel
theorem dX10_four_2 : decode cX10_four 2 = .ok (.istore_n 2, 1) := by decide +kernel
theorem dX10_four_3 : decode cX10_four 3 = .ok (.iload_n 2, 1) := by decide +kernel
theorem dX10_four_4 : decode cX10_four 4 = .ok (.ifCond .lt 32, 3) := by decide +kernel
theorem dX10_four_7 : decode cX10_four 7 = .ok (.aload_n 0, 1) := by decide +kernel
theorem dX10_four_8 : decode cX10_four 8 = .ok (.getfield 7, 3) := by decide +kernel
theorem dX10_four_11 : decode cX10_four 11 = .ok (.aload_n 0, 1) := by decide +kernel
theorem dX10_four_12 : decode cX10_four 12 = .ok (.getfield 209, 3) := by decide +kernel
theorem dX10_four_15 : decode cX10_four 15 = .ok (.iload_n 1, 1) := by decide +kernel
theorem dX10_four_16 : decode cX10_four 16 = .ok (.iload_n 2, 1) := by decide +kernel
theorem dX10_four_17 : decode cX10_four 17 = .ok (.ishr, 1) := by decide +kernel
theorem dX10_four_18 : decode cX10_four 18 = .ok (.i2b, 1) := by decide +kernel
theorem dX10_four_19 : decode cX10_four 19 = .ok (.bastore, 1) := by decide +kernel
theorem dX10_four_20 : decode cX10_four 20 = .ok (.aload_n 0, 1) := by decide +kernel
theorem dX10_four_21 : decode cX10_four 21 = .ok (.dup, 1) := by decide +kernel
theorem dX10_four_22 : decode cX10_four 22 = .ok (.getfield 209, 3) := by decide +kernel
theorem dX10_four_25 : decode cX10_four 25 = .ok (.iconst 1, 1) := by decide +kernel
theorem dX10_four_26 : decode cX10_four 26 = .ok (.iadd, 1) := by decide +kernel
theorem dX10_four_27 : decode cX10_four 27 = .ok (.putfield 209, 3) := by decide +kernel
theorem dX10_four_30 : decode cX10_four 30 = .ok (.iinc 2 (-8), 3) := by decide +kernel
theorem dX10_four_33 : decode cX10_four 33 = .ok (.goto (-30), 3) := by decide +kernel
theorem dX10_four_36 : decode cX10_four 36 = .ok (.return_, 1) := by decide +kernel
set_option maxRecDepth 20000 in
theorem ggX10_end_X10_in : GoodIn wsX10_end wsX10_in := goodIn_sub (gw_c (gw_t (gw_l (gw_g 5 rfl))) gw_n) (by decide +kernel)
set_option maxRecDepth 20000 in
theorem gX10_end_X10_in : GoodIn wsX10_end (va_wsS RX10 146 yX10_in wsX10_in) := goodIn_app (goodIn_sub (gw_c (gw_t (gw_l (gw_g 2 rfl))) (gw_c (gw_t (gw_l (gw_g 3 rfl))) (gw_c (gw_t (gw_l (gw_g 4 rfl))) gw_n))) (by decide +kernel)) ggX10_end_X10_in
theorem dX10_end_0 : decode cX10_end 0 = .ok (.aload_n 0, 1) := by decide +kernel
theorem dX10_end_1 : decode cX10_end 1 = .ok (.iconst 0, 1) := by decide +kernel
theorem dX10_end_2 : decode cX10_end 2 = .ok (.putfield 139, 3) := by decide +kernel
theorem dX10_end_5 : decode cX10_end 5 = .ok (.iload_n 1, 1) := by decide +kernel
theorem dX10_end_6 : decode cX10_end 6 = .ok (.iconst 0, 1) := by decide +kernel
theorem dX10_end_7 : decode cX10_end 7 = .ok (.aload_n 0, 1) := by decide +kernel
theorem dX10_end_8 : decode cX10_end 8 = .ok (.getfield 209, 3) := by decide +kernel
theorem dX10_end_11 : decode cX10_end 11 = .ok (.invokestatic 146, 3) := by decide +kernel
theorem dX10_end_14 : decode cX10_end 14 = .ok (.ifCond .ne 5, 3) := by decide +kernel
theorem dX10_end_17 : decode cX10_end 17 = .ok (.iconst (-1), 1) := by decide +kernel
theorem dX10_end_18 : decode cX10_end 18 = .ok (.ireturn, 1) := by decide +kernel
theorem dX10_end_19 : decode cX10_end 19 = .ok (.aload_n 0, 1) := by decide +kernel
theorem dX10_end_20 : decode cX10_end 20 = .ok (.iload_n 1, 1) := by decide +kernel
theorem dX10_end_21 : decode cX10_end 21 = .ok (.putfield 209, 3) := by decide +kernel
theorem dX10_end_24 : decode cX10_end 24 = .ok (.iload_n 1, 1) := by decide +kernel
theorem dX10_end_25 : decode cX10_end 25 = .ok (.ireturn, 1) := by decide +kernel
theorem dX10_see_0 : decode cX10_see 0 = .ok (.aload_n 0, 1) := by decide +kernel
theorem dX10_see_1 : decode cX10_see 1 = .ok (.getfield 216, 3) := by decide +kernel
theorem dX10_see_4 : decode cX10_see 4 = .ok (.aload_n 0, 1) := by decide +kernel
theorem dX10_see_5 : decode cX10_see 5 = .ok (.getfield 219, 3) := by decide +kernel
theorem dX10_see_8 : decode cX10_see 8 = .ok (.if_icmp .ge 19, 3) := by decide +kernel
theorem dX10_see_11 : decode cX10_see 11 = .ok (.aload_n 0, 1) := by decide +kernel
theorem dX10_see_12 : decode cX10_see 12 = .ok (.getfield 7, 3) := by decide +kernel
theorem dX10_see_15 : decode cX10_see 15 = .ok (.aload_n 0, 1) := by decide +kernel
theorem dX10_see_16 : decode cX10_see 16 = .ok (.getfield 216, 3) := by decide +kernel
theorem dX10_see_19 : decode cX10_see 19 = .ok (.baload, 1) := by decide +kernel
theorem dX10_see_20 : decode cX10_see 20 = .ok (.sipush 255, 3) := by decide +kernel
theorem dX10_see_23 : decode cX10_see 23 = .ok (.iand, 1) := by decide +kernel
theorem dX10_see_24 : decode cX10_see 24 = .ok (.goto 4, 3) := by decide +kernel
theorem dX10_see_27 : decode cX10_see 27 = .ok (.iconst (-1), 1) := by decide +kernel
theorem dX10_see_28 : decode cX10_see 28 = .ok (.ireturn, 1) := by decide +kernel
set_option maxRecDepth 20000 in
theorem ggX10_next_X10_see : GoodIn wsX10_next wsX10_see := goodIn_sub (gw_c (gw_t (gw_l (gw_g 9 rfl))) (gw_a (gw_c (gw_t (gw_l (gw_g 0 rfl))) (gw_c (gw_t (gw_l (gw_g 10 rfl))) (gw_c (gw_t (gw_l (gw_g 11 rfl))) gw_n))) gw_X10_next_X100)) (by decide +kernel)
set_option maxRecDepth 20000 in
theorem gX10_next_X10_see : GoodIn wsX10_next (wsV RX10 222 RX10 yX10_see wsX10_see) := goodIn_app (goodIn_sub (gw_c (gw_t (gw_l (gw_g 5 rfl))) (gw_c (gw_t (gw_l (gw_g 6 rfl))) (gw_c (gw_t (gw_l (gw_g 7 rfl))) (gw_c (gw_t (gw_l (gw_g 8 rfl))) gw_n)))) (by decide +kernel)) ggX10_next_X10_see
set_option maxRecDepth 20000 in
theorem ggX10_next_X10_in : GoodIn wsX10_next wsX10_in := goodIn_sub (gw_c (gw_t (gw_l (gw_g 14 rfl))) gw_n) (by decide +kernel)
set_option maxRecDepth 20000 in
theorem gX10_next_X10_in : GoodIn wsX10_next (va_wsS RX10 146 yX10_in wsX10_in) := goodIn_app (goodIn_sub (gw_c (gw_t (gw_l (gw_g 12 rfl))) (gw_c (gw_t (gw_l (gw_g 13 rfl))) (gw_c (gw_t (gw_l (gw_g 8 rfl))) gw_n))) (by decide +kernel)) ggX10_next_X10_in
theorem dX10_next_0 : decode cX10_next 0 = .ok (.aload_n 0, 1) := by decide +kernel
theorem dX10_next_1 : decode cX10_next 1 = .ok (.invokevirtual 222, 3) := by decide +kernel
theorem dX10_next_4 : decode cX10_next 4 = .ok (.bipush 10, 2) := by decide +kernel
theorem dX10_next_6 : decode cX10_next 6 = .ok (.if_icmp .eq 12, 3) := by decide +kernel
theorem dX10_next_9 : decode cX10_next 9 = .ok (.aload_n 0, 1) := by decide +kernel
theorem dX10_next_10 : decode cX10_next 10 = .ok (.invokevirtual 222, 3) := by decide +kernel
theorem dX10_next_13 : decode cX10_next 13 = .ok (.bipush 32, 2) := by decide +kernel
theorem dX10_next_15 : decode cX10_next 15 = .ok (.if_icmp .ne 16, 3) := by decide +kernel
theorem dX10_next_18 : decode cX10_next 18 = .ok (.aload_n 0, 1) := by decide +kernel
theorem dX10_next_19 : decode cX10_next 19 = .ok (.dup, 1) := by decide +kernel
theorem dX10_next_20 : decode cX10_next 20 = .ok (.getfield 216, 3) := by decide +kernel
theorem dX10_next_23 : decode cX10_next 23 = .ok (.iconst 1, 1) := by decide +kernel
theorem dX10_next_24 : decode cX10_next 24 = .ok (.iadd, 1) := by decide +kernel
theorem dX10_next_25 : decode cX10_next 25 = .ok (.putfield 216, 3) := by decide +kernel
theorem dX10_next_28 : decode cX10_next 28 = .ok (.goto (-28), 3) := by decide +kernel
theorem dX10_next_31 : decode cX10_next 31 = .ok (.aload_n 0, 1) := by decide +kernel
theorem dX10_next_32 : decode cX10_next 32 = .ok (.aload_n 0, 1) := by decide +kernel
theorem dX10_next_33 : decode cX10_next 33 = .ok (.getfield 216, 3) := by decide +kernel
theorem dX10_next_36 : decode cX10_next 36 = .ok (.putfield 225, 3) := by decide +kernel
theorem dX10_next_39 : decode cX10_next 39 = .ok (.aload_n 0, 1) := by decide +kernel
theorem dX10_next_40 : decode cX10_next 40 = .ok (.invokevirtual 222, 3) := by decide +kernel
theorem dX10_next_43 : decode cX10_next 43 = .ok (.istore_n 1, 1) := by decide +kernel
theorem dX10_next_44 : decode cX10_next 44 = .ok (.aload_n 0, 1) := by decide +kernel
theorem dX10_next_45 : decode cX10_next 45 = .ok (.iload_n 1, 1) := by decide +kernel
theorem dX10_next_46 : decode cX10_next 46 = .ok (.putfield 228, 3) := by decide +kernel
theorem dX10_next_49 : decode cX10_next 49 = .ok (.aload_n 0, 1) := by decide +kernel
theorem dX10_next_50 : decode cX10_next 50 = .ok (.lconst 0, 1) := by decide +kernel
theorem dX10_next_51 : decode cX10_next 51 = .ok (.putfield 231, 3) := by decide +kernel
theorem dX10_next_54 : decode cX10_next 54 = .ok (.iload_n 1, 1) := by decide +kernel
theorem dX10_next_55 : decode cX10_next 55 = .ok (.ifCond .ge 11, 3) := by decide +kernel
theorem dX10_next_58 : decode cX10_next 58 = .ok (.aload_n 0, 1) := by decide +kernel
theorem dX10_next_59 : decode cX10_next 59 = .ok (.iconst 0, 1) := by decide +kernel
theorem dX10_next_60 : decode cX10_next 60 = .ok (.putfield 235, 3) := by decide +kernel
theorem dX10_next_63 : decode cX10_next 63 = .ok (.goto 234, 3) := by decide +kernel
theorem dX10_next_66 : decode cX10_next 66 = .ok (.iload_n 1, 1) := by decide +kernel
theorem dX10_next_67 : decode cX10_next 67 = .ok (.bipush 97, 2) := by decide +kernel
theorem dX10_next_69 : decode cX10_next 69 = .ok (.bipush 122, 2) := by decide +kernel
theorem dX10_next_71 : decode cX10_next 71 = .ok (.invokestatic 146, 3) := by decide +kernel
theorem dX10_next_74 : decode cX10_next 74 = .ok (.ifCond .eq 78, 3) := by decide +kernel
theorem dX10_next_77 : decode cX10_next 77 = .ok (.iconst 0, 1) := by decide +kernel
theorem dX10_next_78 : decode cX10_next 78 = .ok (.istore_n 2, 1) := by decide +kernel
theorem dX10_next_79 : decode cX10_next 79 = .ok (.aload_n 0, 1) := by decide +kernel
theorem dX10_next_80 : decode cX10_next 80 = .ok (.invokevirtual 222, 3) := by decide +kernel
theorem dX10_next_83 : decode cX10_next 83 = .ok (.bipush 97, 2) := by decide +kernel
theorem dX10_next_85 : decode cX10_next 85 = .ok (.bipush 122, 2) := by decide +kernel
theorem dX10_next_87 : decode cX10_next 87 = .ok (.invokestatic 146, 3) := by decide +kernel
theorem dX10_next_90 : decode cX10_next 90 = .ok (.ifCond .eq 36, 3) := by decide +kernel
theorem dX10_next_93 : decode cX10_next 93 = .ok (.aload_n 0, 1) := by decide +kernel
theorem dX10_next_94 : decode cX10_next 94 = .ok (.aload_n 0, 1) := by decide +kernel
theorem dX10_next_95 : decode cX10_next 95 = .ok (.getfield 231, 3) := by decide +kernel
theorem dX10_next_98 : decode cX10_next 98 = .ok (.bipush 8, 2) := by decide +kernel
theorem dX10_next_100 : decode cX10_next 100 = .ok (.lshl, 1) := by decide +kernel
theorem dX10_next_101 : decode cX10_next 101 = .ok (.aload_n 0, 1) := by decide +kernel
theorem dX10_next_102 : decode cX10_next 102 = .ok (.invokevirtual 222, 3) := by decide +kernel
theorem dX10_next_105 : decode cX10_next 105 = .ok (.i2l, 1) := by decide +kernel
theorem dX10_next_106 : decode cX10_next 106 = .ok (.lor, 1) := by decide +kernel
theorem dX10_next_107 : decode cX10_next 107 = .ok (.putfield 231, 3) := by decide +kernel
theorem dX10_next_110 : decode cX10_next 110 = .ok (.aload_n 0, 1) := by decide +kernel
theorem dX10_next_111 : decode cX10_next 111 = .ok (.dup, 1) := by decide +kernel
theorem dX10_next_112 : decode cX10_next 112 = .ok (.getfield 216, 3) := by decide +kernel
theorem dX10_next_115 : decode cX10_next 115 = .ok (.iconst 1, 1) := by decide +kernel
theorem dX10_next_116 : decode cX10_next 116 = .ok (.iadd, 1) := by decide +kernel
theorem dX10_next_117 : decode cX10_next 117 = .ok (.putfield 216, 3) := by decide +kernel
theorem dX10_next_120 : decode cX10_next 120 = .ok (.iinc 2 1, 3) := by decide +kernel
theorem dX10_next_123 : decode cX10_next 123 = .ok (.goto (-44), 3) := by decide +kernel
theorem dX10_next_126 : decode cX10_next 126 = .ok (.aload_n 0, 1) := by decide +kernel
theorem dX10_next_127 : decode cX10_next 127 = .ok (.iload_n 2, 1) := by decide +kernel
theorem dX10_next_128 : decode cX10_next 128 = .ok (.bipush 8, 2) := by decide +kernel
theorem dX10_next_130 : decode cX10_next 130 = .ok (.if_icmp .le 7, 3) := by decide +kernel
theorem dX10_next_133 : decode cX10_next 133 = .ok (.lconst 0, 1) := by decide +kernel
theorem dX10_next_134 : decode cX10_next 134 = .ok (.goto 7, 3) := by decide +kernel
theorem dX10_next_137 : decode cX10_next 137 = .ok (.aload_n 0, 1) := by decide +kernel
theorem dX10_next_138 : decode cX10_next 138 = .ok (.getfield 231, 3) := by decide +kernel
theorem dX10_next_141 : decode cX10_next 141 = .ok (.putfield 231, 3) := by decide +kernel
theorem dX10_next_144 : decode cX10_next 144 = .ok (.aload_n 0, 1) := by decide +kernel
theorem dX10_next_145 : decode cX10_next 145 = .ok (.iconst 2, 1) := by decide +kernel
theorem dX10_next_146 : decode cX10_next 146 = .ok (.putfield 235, 3) := by decide +kernel
theorem dX10_next_149 : decode cX10_next 149 = .ok (.goto 148, 3) := by decide +kernel
theorem dX10_next_152 : decode cX10_next 152 = .ok (.iload_n 1, 1) := by decide +kernel
theorem dX10_next_153 : decode cX10_next 153 = .ok (.bipush 48, 2) := by decide +kernel
theorem dX10_next_155 : decode cX10_next 155 = .ok (.bipush 57, 2) := by decide +kernel
theorem dX10_next_157 : decode cX10_next 157 = .ok (.invokestatic 146, 3) := by decide +kernel
theorem dX10_next_160 : decode cX10_next 160 = .ok (.ifCond .eq 88, 3) := by decide +kernel
theorem dX10_next_163 : decode cX10_next 163 = .ok (.iconst 0, 1) := by decide +kernel
theorem dX10_next_164 : decode cX10_next 164 = .ok (.istore_n 2, 1) := by decide +kernel
theorem dX10_next_165 : decode cX10_next 165 = .ok (.aload_n 0, 1) := by decide +kernel
theorem dX10_next_166 : decode cX10_next 166 = .ok (.iconst 0, 1) := by decide +kernel
theorem dX10_next_167 : decode cX10_next 167 = .ok (.putfield 228, 3) := by decide +kernel
theorem dX10_next_170 : decode cX10_next 170 = .ok (.aload_n 0, 1) := by decide +kernel
theorem dX10_next_171 : decode cX10_next 171 = .ok (.invokevirtual 222, 3) := by decide +kernel
theorem dX10_next_174 : decode cX10_next 174 = .ok (.bipush 48, 2) := by decide +kernel
theorem dX10_next_176 : decode cX10_next 176 = .ok (.bipush 57, 2) := by decide +kernel
theorem dX10_next_178 : decode cX10_next 178 = .ok (.invokestatic 146, 3) := by decide +kernel
theorem dX10_next_181 : decode cX10_next 181 = .ok (.ifCond .eq 50, 3) := by decide +kernel
theorem dX10_next_184 : decode cX10_next 184 = .ok (.aload_n 0, 1) := by decide +kernel
theorem dX10_next_185 : decode cX10_next 185 = .ok (.iload_n 2, 1) := by decide +kernel
theorem dX10_next_186 : decode cX10_next 186 = .ok (.iconst 4, 1) := by decide +kernel
theorem dX10_next_187 : decode cX10_next 187 = .ok (.if_icmp .ge 21, 3) := by decide +kernel
theorem dX10_next_190 : decode cX10_next 190 = .ok (.bipush 10, 2) := by decide +kernel
theorem dX10_next_192 : decode cX10_next 192 = .ok (.aload_n 0, 1) := by decide +kernel
theorem dX10_next_193 : decode cX10_next 193 = .ok (.getfield 228, 3) := by decide +kernel
theorem dX10_next_196 : decode cX10_next 196 = .ok (.imul, 1) := by decide +kernel
theorem dX10_next_197 : decode cX10_next 197 = .ok (.aload_n 0, 1) := by decide +kernel
theorem dX10_next_198 : decode cX10_next 198 = .ok (.invokevirtual 222, 3) := by decide +kernel
theorem dX10_next_201 : decode cX10_next 201 = .ok (.iadd, 1) := by decide +kernel
theorem dX10_next_202 : decode cX10_next 202 = .ok (.bipush 48, 2) := by decide +kernel
theorem dX10_next_204 : decode cX10_next 204 = .ok (.isub, 1) := by decide +kernel
theorem dX10_next_205 : decode cX10_next 205 = .ok (.goto 7, 3) := by decide +kernel
theorem dX10_next_208 : decode cX10_next 208 = .ok (.aload_n 0, 1) := by decide +kernel
theorem dX10_next_209 : decode cX10_next 209 = .ok (.getfield 228, 3) := by decide +kernel
theorem dX10_next_212 : decode cX10_next 212 = .ok (.putfield 228, 3) := by decide +kernel
theorem dX10_next_215 : decode cX10_next 215 = .ok (.aload_n 0, 1) := by decide +kernel
theorem dX10_next_216 : decode cX10_next 216 = .ok (.dup, 1) := by decide +kernel
theorem dX10_next_217 : decode cX10_next 217 = .ok (.getfield 216, 3) := by decide +kernel
theorem dX10_next_220 : decode cX10_next 220 = .ok (.iconst 1, 1) := by decide +kernel
theorem dX10_next_221 : decode cX10_next 221 = .ok (.iadd, 1) := by decide +kernel
theorem dX10_next_222 : decode cX10_next 222 = .ok (.putfield 216, 3) := by decide +kernel
theorem dX10_next_225 : decode cX10_next 225 = .ok (.iinc 2 1, 3) := by decide +kernel
theorem dX10_next_228 : decode cX10_next 228 = .ok (.goto (-58), 3) := by decide +kernel
theorem dX10_next_231 : decode cX10_next 231 = .ok (.aload_n 0, 1) := by decide +kernel
theorem dX10_next_232 : decode cX10_next 232 = .ok (.iload_n 2, 1) := by decide +kernel
theorem dX10_next_233 : decode cX10_next 233 = .ok (.iconst 4, 1) := by decide +kernel
theorem dX10_next_234 : decode cX10_next 234 = .ok (.if_icmp .le 7, 3) := by decide +kernel
theorem dX10_next_237 : decode cX10_next 237 = .ok (.iconst 1, 1) := by decide +kernel
theorem dX10_next_238 : decode cX10_next 238 = .ok (.goto 4, 3) := by decide +kernel
theorem dX10_next_241 : decode cX10_next 241 = .ok (.iconst 3, 1) := by decide +kernel
theorem dX10_next_242 : decode cX10_next 242 = .ok (.putfield 235, 3) := by decide +kernel
theorem dX10_next_245 : decode cX10_next 245 = .ok (.goto 52, 3) := by decide +kernel
theorem dX10_next_248 : decode cX10_next 248 = .ok (.aload_n 0, 1) := by decide +kernel
theorem dX10_next_249 : decode cX10_next 249 = .ok (.dup, 1) := by decide +kernel
theorem dX10_next_250 : decode cX10_next 250 = .ok (.getfield 216, 3) := by decide +kernel
theorem dX10_next_253 : decode cX10_next 253 = .ok (.iconst 1, 1) := by decide +kernel
theorem dX10_next_254 : decode cX10_next 254 = .ok (.iadd, 1) := by decide +kernel
theorem dX10_next_255 : decode cX10_next 255 = .ok (.putfield 216, 3) := by decide +kernel
theorem dX10_next_258 : decode cX10_next 258 = .ok (.aload_n 0, 1) := by decide +kernel
theorem dX10_next_259 : decode cX10_next 259 = .ok (.iload_n 1, 1) := by decide +kernel
theorem dX10_next_260 : decode cX10_next 260 = .ok (.bipush 58, 2) := by decide +kernel
theorem dX10_next_262 : decode cX10_next 262 = .ok (.if_icmp .eq 27, 3) := by decide +kernel
theorem dX10_next_265 : decode cX10_next 265 = .ok (.iload_n 1, 1) := by decide +kernel
theorem dX10_next_266 : decode cX10_next 266 = .ok (.bipush 59, 2) := by decide +kernel
theorem dX10_next_268 : decode cX10_next 268 = .ok (.if_icmp .eq 21, 3) := by decide +kernel
theorem dX10_next_271 : decode cX10_next 271 = .ok (.iload_n 1, 1) := by decide +kernel
theorem dX10_next_272 : decode cX10_next 272 = .ok (.bipush 60, 2) := by decide +kernel
theorem dX10_next_274 : decode cX10_next 274 = .ok (.if_icmp .eq 15, 3) := by decide +kernel
theorem dX10_next_277 : decode cX10_next 277 = .ok (.iload_n 1, 1) := by decide +kernel
theorem dX10_next_278 : decode cX10_next 278 = .ok (.bipush 62, 2) := by decide +kernel
theorem dX10_next_280 : decode cX10_next 280 = .ok (.if_icmp .eq 9, 3) := by decide +kernel
theorem dX10_next_283 : decode cX10_next 283 = .ok (.iload_n 1, 1) := by decide +kernel
theorem dX10_next_284 : decode cX10_next 284 = .ok (.bipush 61, 2) := by decide +kernel
theorem dX10_next_286 : decode cX10_next 286 = .ok (.if_icmp .ne 7, 3) := by decide +kernel
theorem dX10_next_289 : decode cX10_next 289 = .ok (.iconst 4, 1) := by decide +kernel
theorem dX10_next_290 : decode cX10_next 290 = .ok (.goto 4, 3) := by decide +kernel
theorem dX10_next_293 : decode cX10_next 293 = .ok (.iconst 1, 1) := by decide +kernel
theorem dX10_next_294 : decode cX10_next 294 = .ok (.putfield 235, 3) := by decide +kernel
theorem dX10_next_297 : decode cX10_next 297 = .ok (.return_, 1) := by decide +kernel
theorem dX10_isWord_0 : decode cX10_isWord 0 = .ok (.aload_n 0, 1) := by decide +kernel
theorem dX10_isWord_1 : decode cX10_isWord 1 = .ok (.getfield 235, 3) := by decide +kernel
theorem dX10_isWord_4 : decode cX10_isWord 4 = .ok (.iconst 2, 1) := by decide +kernel
theorem dX10_isWord_5 : decode cX10_isWord 5 = .ok (.if_icmp .ne 16, 3) := by decide +kernel
theorem dX10_isWord_8 : decode cX10_isWord 8 = .ok (.aload_n 0, 1) := by decide +kernel
theorem dX10_isWord_9 : decode cX10_isWord 9 = .ok (.getfield 231, 3) := by decide +kernel
theorem dX10_isWord_12 : decode cX10_isWord 12 = .ok (.lload_n 1, 1) := by decide +kernel
theorem dX10_isWord_13 : decode cX10_isWord 13 = .ok (.lcmp, 1) := by decide +kernel
theorem dX10_isWord_14 : decode cX10_isWord 14 = .ok (.ifCond .ne 7, 3) := by decide +kernel
theorem dX10_isWord_17 : decode cX10_isWord 17 = .ok (.iconst 1, 1) := by decide +kernel
theorem dX10_isWord_18 : decode cX10_isWord 18 = .ok (.goto 4, 3) := by decide +kernel
theorem dX10_isWord_21 : decode cX10_isWord 21 = .ok (.iconst 0, 1) := by decide +kernel
theorem dX10_isWord_22 : decode cX10_isWord 22 = .ok (.ireturn, 1) := by decide +kernel
theorem dX10_isSign_0 : decode cX10_isSign 0 = .ok (.aload_n 0, 1) := by decide +kernel
theorem dX10_isSign_1 : decode cX10_isSign 1 = .ok (.getfield 235, 3) := by decide +kernel
theorem dX10_isSign_4 : decode cX10_isSign 4 = .ok (.iconst 4, 1) := by decide +kernel
theorem dX10_isSign_5 : decode cX10_isSign 5 = .ok (.if_icmp .ne 15, 3) := by decide +kernel
theorem dX10_isSign_8 : decode cX10_isSign 8 = .ok (.aload_n 0, 1) := by decide +kernel
theorem dX10_isSign_9 : decode cX10_isSign 9 = .ok (.getfield 228, 3) := by decide +kernel
theorem dX10_isSign_12 : decode cX10_isSign 12 = .ok (.iload_n 1, 1) := by decide +kernel
theorem dX10_isSign_13 : decode cX10_isSign 13 = .ok (.if_icmp .ne 7, 3) := by decide +kernel
theorem dX10_isSign_16 : decode cX10_isSign 16 = .ok (.iconst 1, 1) := by decide +kernel
theorem dX10_isSign_17 : decode cX10_isSign 17 = .ok (.goto 4, 3) := by decide +kernel
theorem dX10_isSign_20 : decode cX10_isSign 20 = .ok (.iconst 0, 1) := by decide +kernel
theorem dX10_isSign_21 : decode cX10_isSign 21 = .ok (.ireturn, 1) := by decide +kernel
theorem dX10_wrong_0 : decode cX10_wrong 0 = .ok (.aload_n 0, 1) := by decide +kernel
theorem dX10_wrong_1 : decode cX10_wrong 1 = .ok (.iconst 1, 1) := by decide +kernel
theorem dX10_wrong_2 : decode cX10_wrong 2 = .ok (.putfield 238, 3) := by decide +kernel
theorem dX10_wrong_5 : decode cX10_wrong 5 = .ok (.aload_n 0, 1) := by decide +kernel
theorem dX10_wrong_6 : decode cX10_wrong 6 = .ok (.aload_n 0, 1) := by decide +kernel
theorem dX10_wrong_7 : decode cX10_wrong 7 = .ok (.getfield 225, 3) := by decide +kernel
theorem dX10_wrong_10 : decode cX10_wrong 10 = .ok (.putfield 113, 3) := by decide +kernel
theorem dX10_wrong_13 : decode cX10_wrong 13 = .ok (.iconst 0, 1) := by decide +kernel
theorem dX10_wrong_14 : decode cX10_wrong 14 = .ok (.ireturn, 1) := by decide +kernel
theorem dX10_tooMany_0 : decode cX10_tooMany 0 = .ok (.aload_n 0, 1) := by decide +kernel
theorem dX10_tooMany_1 : decode cX10_tooMany 1 = .ok (.aload_n 0, 1) := by decide +kernel
theorem dX10_tooMany_2 : decode cX10_tooMany 2 = .ok (.getfield 241, 3) := by decide +kernel
theorem dX10_tooMany_5 : decode cX10_tooMany 5 = .ok (.iconst (-1), 1) := by decide +kernel
theorem dX10_tooMany_6 : decode cX10_tooMany 6 = .ok (.if_icmp .ne 7, 3) := by decide +kernel
theorem dX10_tooMany_9 : decode cX10_tooMany 9 = .ok (.iload_n 1, 1) := by decide +kernel
theorem dX10_tooMany_10 : decode cX10_tooMany 10 = .ok (.goto 7, 3) := by decide +kernel
theorem dX10_tooMany_13 : decode cX10_tooMany 13 = .ok (.aload_n 0, 1) := by decide +kernel
theorem dX10_tooMany_14 : decode cX10_tooMany 14 = .ok (.getfield 241, 3) := by decide +kernel
theorem dX10_tooMany_17 : decode cX10_tooMany 17 = .ok (.putfield 241, 3) := by decide +kernel
theorem dX10_tooMany_20 : decode cX10_tooMany 20 = .ok (.return_, 1) := by decide +kernel
set_option maxRecDepth 20000 in
theorem ggX10_need_X10_isSign : GoodIn wsX10_need wsX10_isSign := goodIn_sub (gw_c (gw_X10_need_X10_need_r1 _ (gw_g 4 rfl)) (gw_a (gw_c (gw_X10_need_X10_need_r1 _ (gw_g 5 rfl)) (gw_c (gw_X10_need_X10_need_r1 _ (gw_g 6 rfl)) gw_n)) gw_X10_need_X100)) (by decide +kernel)
set_option maxRecDepth 20000 in
theorem gX10_need_X10_isSign : GoodIn wsX10_need (wsV RX10 244 RX10 yX10_isSign wsX10_isSign) := goodIn_app (goodIn_sub (gw_c (gw_X10_need_X10_need_r1 _ (gw_g 0 rfl)) (gw_c (gw_X10_need_X10_need_r1 _ (gw_g 1 rfl)) (gw_c (gw_X10_need_X10_need_r1 _ (gw_g 2 rfl)) (gw_c (gw_X10_need_X10_need_r1 _ (gw_g 3 rfl)) gw_n)))) (by decide +kernel)) ggX10_need_X10_isSign
set_option maxRecDepth 20000 in
theorem ggX10_need_X10_wrong : GoodIn wsX10_need wsX10_wrong := goodIn_sub (gw_c (gw_X10_need_X10_need_r1 _ (gw_g 10 rfl)) (gw_a (gw_c (gw_X10_need_X10_need_r1 _ (gw_g 11 rfl)) (gw_c (gw_X10_need_X10_need_r1 _ (gw_g 12 rfl)) (gw_c (gw_X10_need_X10_need_r1 _ (gw_g 13 rfl)) gw_n))) gw_X10_need_X100)) (by decide +kernel)
set_option maxRecDepth 20000 in
theorem gX10_need_X10_wrong : GoodIn wsX10_need (wsV RX10 247 RX10 yX10_wrong wsX10_wrong) := goodIn_app (goodIn_sub (gw_c (gw_X10_need_X10_need_r1 _ (gw_g 7 rfl)) (gw_c (gw_X10_need_X10_need_r1 _ (gw_g 8 rfl)) (gw_c (gw_X10_need_X10_need_r1 _ (gw_g 9 rfl)) (gw_c (gw_X10_need_X10_need_r1 _ (gw_g 3 rfl)) gw_n)))) (by decide +kernel)) ggX10_need_X10_wrong
set_option maxRecDepth 20000 in
theorem ggX10_need_X10_next : GoodIn wsX10_need wsX10_next := goodIn_sub (gw_c (gw_X10_need_X10_need_r1 _ (gw_g 17 rfl)) (gw_a (gw_c (gw_X10_need_X10_need_r1 _ (gw_g 18 rfl)) (gw_c (gw_X10_need_X10_need_r1 _ (gw_g 12 rfl)) (gw_c (gw_X10_need_X10_need_r1 _ (gw_g 6 rfl)) (gw_c (gw_X10_need_X10_need_r1 _ (gw_g 19 rfl)) (gw_c (gw_X10_need_X10_need_r1 _ (gw_g 5 rfl)) (gw_c (gw_X10_need_X10_need_r1 _ (gw_g 20 rfl)) (gw_c (gw_X10_need_X10_need_r1 _ (gw_g 21 rfl)) (gw_c (gw_X10_need_X10_need_r1 _ (gw_g 22 rfl)) (gw_c (gw_X10_need_X10_need_r1 _ (gw_g 3 rfl)) (gw_c (gw_X10_need_X10_need_r1 _ (gw_g 23 rfl)) (gw_c (gw_X10_need_X10_need_r2 _ (gw_g 0 rfl)) (gw_c (gw_X10_need_X10_need_r2 _ (gw_g 1 rfl)) (gw_c (gw_X10_need_X10_need_r2 _ (gw_g 2 rfl)) (gw_c (gw_X10_need_X10_need_r2 _ (gw_g 3 rfl)) (gw_c (gw_X10_need_X10_need_r2 _ (gw_g 4 rfl)) gw_n))))))))))))))) gw_X10_need_X100)) (by decide +kernel)
set_option maxRecDepth 20000 in
theorem gX10_need_X10_next : GoodIn wsX10_need (wsV RX10 251 RX10 yX10_next wsX10_next) := goodIn_app (goodIn_sub (gw_c (gw_X10_need_X10_need_r1 _ (gw_g 14 rfl)) (gw_c (gw_X10_need_X10_need_r1 _ (gw_g 15 rfl)) (gw_c (gw_X10_need_X10_need_r1 _ (gw_g 16 rfl)) (gw_c (gw_X10_need_X10_need_r1 _ (gw_g 3 rfl)) gw_n)))) (by decide +kernel)) ggX10_need_X10_next
theorem dX10_need_0 : decode cX10_need 0 = .ok (.aload_n 0, 1) := by decide +kernel
theorem dX10_need_1 : decode cX10_need 1 = .ok (.iload_n 1, 1) := by decide +kernel
theorem dX10_need_2 : decode cX10_need 2 = .ok (.invokevirtual 244, 3) := by decide +kernel
theorem dX10_need_5 : decode cX10_need 5 = .ok (.ifCond .ne 8, 3) := by decide +kernel
theorem dX10_need_8 : decode cX10_need 8 = .ok (.aload_n 0, 1) := by decide +kernel
theorem dX10_need_9 : decode cX10_need 9 = .ok (.invokevirtual 247, 3) := by decide +kernel
theorem dX10_need_12 : decode cX10_need 12 = .ok (.ireturn, 1) := by decide +kernel
theorem dX10_need_13 : decode cX10_need 13 = .ok (.aload_n 0, 1) := by decide +kernel
theorem dX10_need_14 : decode cX10_need 14 = .ok (.invokevirtual 251, 3) := by decide +kernel
theorem dX10_need_17 : decode cX10_need 17 = .ok (.iconst 1, 1) := by decide +kernel
theorem dX10_need_18 : decode cX10_need 18 = .ok (.ireturn, 1) := by decide +kernel
set_option maxRecDepth 20000 in
theorem ggX10_oneLine_X10_tooMany : GoodIn wsX10_oneLine wsX10_tooMany := goodIn_sub (gw_c (gw_X10_oneLine_X10_oneLine_r1 _ (gw_g 17 rfl)) (gw_a (gw_c (gw_X10_oneLine_X10_oneLine_r1 _ (gw_g 18 rfl)) gw_n) gw_X10_oneLine_X100)) (by decide +kernel)
set_option maxRecDepth 20000 in
theorem gX10_oneLine_X10_tooMany : GoodIn wsX10_oneLine (wsV RX10 257 RX10 yX10_tooMany wsX10_tooMany) := goodIn_app (goodIn_sub (gw_c (gw_X10_oneLine_X10_oneLine_r1 _ (gw_g 13 rfl)) (gw_c (gw_X10_oneLine_X10_oneLine_r1 _ (gw_g 14 rfl)) (gw_c (gw_X10_oneLine_X10_oneLine_r1 _ (gw_g 15 rfl)) (gw_c (gw_X10_oneLine_X10_oneLine_r1 _ (gw_g 16 rfl)) gw_n)))) (by decide +kernel)) ggX10_oneLine_X10_tooMany
set_option maxRecDepth 20000 in
theorem ggX10_oneLine_X10_isWord : GoodIn wsX10_oneLine wsX10_isWord := goodIn_sub (gw_c (gw_X10_oneLine_X10_oneLine_r1 _ (gw_g 22 rfl)) (gw_a (gw_c (gw_X10_oneLine_X10_oneLine_r1 _ (gw_g 10 rfl)) (gw_c (gw_X10_oneLine_X10_oneLine_r1 _ (gw_g 23 rfl)) gw_n)) gw_X10_oneLine_X100)) (by decide +kernel)
set_option maxRecDepth 20000 in
theorem gX10_oneLine_X10_isWord : GoodIn wsX10_oneLine (wsV RX10 262 RX10 yX10_isWord wsX10_isWord) := goodIn_app (goodIn_sub (gw_c (gw_X10_oneLine_X10_oneLine_r1 _ (gw_g 19 rfl)) (gw_c (gw_X10_oneLine_X10_oneLine_r1 _ (gw_g 20 rfl)) (gw_c (gw_X10_oneLine_X10_oneLine_r1 _ (gw_g 21 rfl)) (gw_c (gw_X10_oneLine_X10_oneLine_r1 _ (gw_g 16 rfl)) gw_n)))) (by decide +kernel)) ggX10_oneLine_X10_isWord
set_option maxRecDepth 20000 in
theorem ggX10_oneLine_X10_next : GoodIn wsX10_oneLine wsX10_next := goodIn_sub (gw_c (gw_X10_oneLine_X10_oneLine_r2 _ (gw_g 3 rfl)) (gw_a (gw_c (gw_X10_oneLine_X10_oneLine_r2 _ (gw_g 4 rfl)) (gw_c (gw_X10_oneLine_X10_oneLine_r1 _ (gw_g 1 rfl)) (gw_c (gw_X10_oneLine_X10_oneLine_r1 _ (gw_g 12 rfl)) (gw_c (gw_X10_oneLine_X10_oneLine_r1 _ (gw_g 23 rfl)) (gw_c (gw_X10_oneLine_X10_oneLine_r1 _ (gw_g 10 rfl)) (gw_c (gw_X10_oneLine_X10_oneLine_r2 _ (gw_g 5 rfl)) (gw_c (gw_X10_oneLine_X10_oneLine_r2 _ (gw_g 6 rfl)) (gw_c (gw_X10_oneLine_X10_oneLine_r2 _ (gw_g 7 rfl)) (gw_c (gw_X10_oneLine_X10_oneLine_r1 _ (gw_g 16 rfl)) (gw_c (gw_X10_oneLine_X10_oneLine_r2 _ (gw_g 8 rfl)) (gw_c (gw_X10_oneLine_X10_oneLine_r2 _ (gw_g 9 rfl)) (gw_c (gw_X10_oneLine_X10_oneLine_r2 _ (gw_g 10 rfl)) (gw_c (gw_X10_oneLine_X10_oneLine_r2 _ (gw_g 11 rfl)) (gw_c (gw_X10_oneLine_X10_oneLine_r2 _ (gw_g 12 rfl)) (gw_c (gw_X10_oneLine_X10_oneLine_r2 _ (gw_g 13 rfl)) gw_n))))))))))))))) gw_X10_oneLine_X100)) (by decide +kernel)
set_option maxRecDepth 20000 in
theorem gX10_oneLine_X10_next : GoodIn wsX10_oneLine (wsV RX10 251 RX10 yX10_next wsX10_next) := goodIn_app (goodIn_sub (gw_c (gw_X10_oneLine_X10_oneLine_r2 _ (gw_g 0 rfl)) (gw_c (gw_X10_oneLine_X10_oneLine_r2 _ (gw_g 1 rfl)) (gw_c (gw_X10_oneLine_X10_oneLine_r2 _ (gw_g 2 rfl)) (gw_c (gw_X10_oneLine_X10_oneLine_r1 _ (gw_g 16 rfl)) gw_n)))) (by decide +kernel)) ggX10_oneLine_X10_next
set_option maxRecDepth 20000 in
theorem ggX10_oneLine_X10_test : GoodIn wsX10_oneLine wsX10_test := goodIn_sub (gw_c (gw_X10_oneLine_X10_oneLine_r2 _ (gw_g 17 rfl)) (gw_a (gw_a (gw_c (gw_X10_oneLine_X10_oneLine_r1 _ (gw_g 1 rfl)) (gw_c (gw_X10_oneLine_X10_oneLine_r2 _ (gw_g 18 rfl)) (gw_c (gw_X10_oneLine_X10_oneLine_r2 _ (gw_g 19 rfl)) (gw_c (gw_X10_oneLine_X10_oneLine_r2 _ (gw_g 20 rfl)) (gw_c (gw_X10_oneLine_X10_oneLine_r2 _ (gw_g 21 rfl)) (gw_c (gw_X10_oneLine_X10_oneLine_r2 _ (gw_g 22 rfl)) (gw_c (gw_X10_oneLine_X10_oneLine_r2 _ (gw_g 23 rfl)) (gw_c (gw_X10_oneLine_X10_oneLine_r1 _ (gw_g 12 rfl)) (gw_c (gw_X10_oneLine_X10_oneLine_r1 _ (gw_g 10 rfl)) (gw_c (gw_X10_oneLine_X10_oneLine_r3 _ (gw_g 0 rfl)) (gw_c (gw_X10_oneLine_X10_oneLine_r3 _ (gw_g 1 rfl)) (gw_c (gw_X10_oneLine_X10_oneLine_r3 _ (gw_g 2 rfl)) (gw_c (gw_X10_oneLine_X10_oneLine_r1 _ (gw_g 2 rfl)) (gw_c (gw_X10_oneLine_X10_oneLine_r1 _ (gw_g 13 rfl)) (gw_c (gw_X10_oneLine_X10_oneLine_r1 _ (gw_g 14 rfl)) (gw_c (gw_X10_oneLine_X10_oneLine_r1 _ (gw_g 15 rfl)) (gw_c (gw_X10_oneLine_X10_oneLine_r1 _ (gw_g 16 rfl)) (gw_c (gw_X10_oneLine_X10_oneLine_r1 _ (gw_g 17 rfl)) (gw_c (gw_X10_oneLine_X10_oneLine_r1 _ (gw_g 18 rfl)) (gw_c (gw_X10_oneLine_X10_oneLine_r1 _ (gw_g 19 rfl)) (gw_c (gw_X10_oneLine_X10_oneLine_r1 _ (gw_g 20 rfl)) (gw_c (gw_X10_oneLine_X10_oneLine_r1 _ (gw_g 21 rfl)) (gw_c (gw_X10_oneLine_X10_oneLine_r1 _ (gw_g 22 rfl)) (gw_c (gw_X10_oneLine_X10_oneLine_r1 _ (gw_g 23 rfl)) gw_n)))))))))))))))))))))))) (gw_c (gw_X10_oneLine_X10_oneLine_r2 _ (gw_g 0 rfl)) (gw_c (gw_X10_oneLine_X10_oneLine_r2 _ (gw_g 1 rfl)) (gw_c (gw_X10_oneLine_X10_oneLine_r2 _ (gw_g 2 rfl)) (gw_c (gw_X10_oneLine_X10_oneLine_r2 _ (gw_g 3 rfl)) (gw_c (gw_X10_oneLine_X10_oneLine_r2 _ (gw_g 4 rfl)) (gw_c (gw_X10_oneLine_X10_oneLine_r2 _ (gw_g 5 rfl)) (gw_c (gw_X10_oneLine_X10_oneLine_r2 _ (gw_g 6 rfl)) (gw_c (gw_X10_oneLine_X10_oneLine_r2 _ (gw_g 7 rfl)) (gw_c (gw_X10_oneLine_X10_oneLine_r2 _ (gw_g 8 rfl)) (gw_c (gw_X10_oneLine_X10_oneLine_r2 _ (gw_g 9 rfl)) (gw_c (gw_X10_oneLine_X10_oneLine_r2 _ (gw_g 10 rfl)) (gw_c (gw_X10_oneLine_X10_oneLine_r2 _ (gw_g 11 rfl)) (gw_c (gw_X10_oneLine_X10_oneLine_r2 _ (gw_g 12 rfl)) (gw_c (gw_X10_oneLine_X10_oneLine_r2 _ (gw_g 13 rfl)) (gw_c (gw_X10_oneLine_X10_oneLine_r3 _ (gw_g 3 rfl)) (gw_c (gw_X10_oneLine_X10_oneLine_r3 _ (gw_g 4 rfl)) (gw_c (gw_X10_oneLine_X10_oneLine_r3 _ (gw_g 5 rfl)) (gw_c (gw_X10_oneLine_X10_oneLine_r3 _ (gw_g 6 rfl)) (gw_c (gw_X10_oneLine_X10_oneLine_r3 _ (gw_g 7 rfl)) (gw_c (gw_X10_oneLine_X10_oneLine_r3 _ (gw_g 8 rfl)) gw_n))))))))))))))))))))) gw_X10_oneLine_X100)) (by decide +kernel)
set_option maxRecDepth 20000 in
theorem gX10_oneLine_X10_test : GoodIn wsX10_oneLine (wsV RX10 266 RX10 yX10_test wsX10_test) := goodIn_app (goodIn_sub (gw_c (gw_X10_oneLine_X10_oneLine_r2 _ (gw_g 14 rfl)) (gw_c (gw_X10_oneLine_X10_oneLine_r2 _ (gw_g 15 rfl)) (gw_c (gw_X10_oneLine_X10_oneLine_r2 _ (gw_g 16 rfl)) (gw_c (gw_X10_oneLine_X10_oneLine_r1 _ (gw_g 16 rfl)) gw_n)))) (by decide +kernel)) ggX10_oneLine_X10_test
set_option maxRecDepth 20000 in
theorem ggX10_oneLine_X10_need : GoodIn wsX10_oneLine wsX10_need := goodIn_sub (gw_c (gw_X10_oneLine_X10_oneLine_r3 _ (gw_g 12 rfl)) (gw_a (gw_a (gw_c (gw_X10_oneLine_X10_oneLine_r3 _ (gw_g 13 rfl)) (gw_c (gw_X10_oneLine_X10_oneLine_r3 _ (gw_g 14 rfl)) (gw_c (gw_X10_oneLine_X10_oneLine_r3 _ (gw_g 15 rfl)) (gw_c (gw_X10_oneLine_X10_oneLine_r1 _ (gw_g 16 rfl)) (gw_c (gw_X10_oneLine_X10_oneLine_r3 _ (gw_g 16 rfl)) (gw_c (gw_X10_oneLine_X10_oneLine_r1 _ (gw_g 10 rfl)) (gw_c (gw_X10_oneLine_X10_oneLine_r1 _ (gw_g 12 rfl)) (gw_c (gw_X10_oneLine_X10_oneLine_r3 _ (gw_g 3 rfl)) (gw_c (gw_X10_oneLine_X10_oneLine_r3 _ (gw_g 4 rfl)) (gw_c (gw_X10_oneLine_X10_oneLine_r3 _ (gw_g 5 rfl)) (gw_c (gw_X10_oneLine_X10_oneLine_r3 _ (gw_g 6 rfl)) (gw_c (gw_X10_oneLine_X10_oneLine_r3 _ (gw_g 7 rfl)) (gw_c (gw_X10_oneLine_X10_oneLine_r1 _ (gw_g 1 rfl)) (gw_c (gw_X10_oneLine_X10_oneLine_r3 _ (gw_g 8 rfl)) (gw_c (gw_X10_oneLine_X10_oneLine_r2 _ (gw_g 0 rfl)) (gw_c (gw_X10_oneLine_X10_oneLine_r2 _ (gw_g 1 rfl)) (gw_c (gw_X10_oneLine_X10_oneLine_r2 _ (gw_g 2 rfl)) (gw_c (gw_X10_oneLine_X10_oneLine_r2 _ (gw_g 3 rfl)) (gw_c (gw_X10_oneLine_X10_oneLine_r2 _ (gw_g 4 rfl)) (gw_c (gw_X10_oneLine_X10_oneLine_r1 _ (gw_g 23 rfl)) (gw_c (gw_X10_oneLine_X10_oneLine_r2 _ (gw_g 5 rfl)) (gw_c (gw_X10_oneLine_X10_oneLine_r2 _ (gw_g 6 rfl)) (gw_c (gw_X10_oneLine_X10_oneLine_r2 _ (gw_g 7 rfl)) (gw_c (gw_X10_oneLine_X10_oneLine_r2 _ (gw_g 8 rfl)) gw_n)))))))))))))))))))))))) (gw_c (gw_X10_oneLine_X10_oneLine_r2 _ (gw_g 9 rfl)) (gw_c (gw_X10_oneLine_X10_oneLine_r2 _ (gw_g 10 rfl)) (gw_c (gw_X10_oneLine_X10_oneLine_r2 _ (gw_g 11 rfl)) (gw_c (gw_X10_oneLine_X10_oneLine_r2 _ (gw_g 12 rfl)) (gw_c (gw_X10_oneLine_X10_oneLine_r2 _ (gw_g 13 rfl)) gw_n)))))) gw_X10_oneLine_X100)) (by decide +kernel)
set_option maxRecDepth 20000 in
theorem gX10_oneLine_X10_need : GoodIn wsX10_oneLine (wsV RX10 271 RX10 yX10_need wsX10_need) := goodIn_app (goodIn_sub (gw_c (gw_X10_oneLine_X10_oneLine_r3 _ (gw_g 9 rfl)) (gw_c (gw_X10_oneLine_X10_oneLine_r3 _ (gw_g 10 rfl)) (gw_c (gw_X10_oneLine_X10_oneLine_r3 _ (gw_g 11 rfl)) (gw_c (gw_X10_oneLine_X10_oneLine_r1 _ (gw_g 16 rfl)) gw_n)))) (by decide +kernel)) ggX10_oneLine_X10_need
set_option maxRecDepth 20000 in
theorem ggX10_oneLine_X10_wrong : GoodIn wsX10_oneLine wsX10_wrong := goodIn_sub (gw_c (gw_X10_oneLine_X10_oneLine_r3 _ (gw_g 6 rfl)) (gw_a (gw_c (gw_X10_oneLine_X10_oneLine_r3 _ (gw_g 7 rfl)) (gw_c (gw_X10_oneLine_X10_oneLine_r1 _ (gw_g 1 rfl)) (gw_c (gw_X10_oneLine_X10_oneLine_r3 _ (gw_g 8 rfl)) gw_n))) gw_X10_oneLine_X100)) (by decide +kernel)
set_option maxRecDepth 20000 in
theorem gX10_oneLine_X10_wrong : GoodIn wsX10_oneLine (wsV RX10 247 RX10 yX10_wrong wsX10_wrong) := goodIn_app (goodIn_sub (gw_c (gw_X10_oneLine_X10_oneLine_r3 _ (gw_g 3 rfl)) (gw_c (gw_X10_oneLine_X10_oneLine_r3 _ (gw_g 4 rfl)) (gw_c (gw_X10_oneLine_X10_oneLine_r3 _ (gw_g 5 rfl)) (gw_c (gw_X10_oneLine_X10_oneLine_r1 _ (gw_g 16 rfl)) gw_n)))) (by decide +kernel)) ggX10_oneLine_X10_wrong
theorem dX10_oneLine_0 : decode cX10_oneLine 0 = .ok (.aload_n 0, 1) := by decide +kernel
theorem dX10_oneLine_1 : decode cX10_oneLine 1 = .ok (.getfield 254, 3) := by decide +kernel
theorem dX10_oneLine_4 : decode cX10_oneLine 4 = .ok (.bipush 16, 2) := by decide +kernel
theorem dX10_oneLine_6 : decode cX10_oneLine 6 = .ok (.if_icmp .ge 10, 3) := by decide +kernel
theorem dX10_oneLine_9 : decode cX10_oneLine 9 = .ok (.aload_n 0, 1) := by decide +kernel
theorem dX10_oneLine_10 : decode cX10_oneLine 10 = .ok (.getfield 254, 3) := by decide +kernel
theorem dX10_oneLine_13 : decode cX10_oneLine 13 = .ok (.goto 5, 3) := by decide +kernel
theorem dX10_oneLine_16 : decode cX10_oneLine 16 = .ok (.bipush 16, 2) := by decide +kernel
theorem dX10_oneLine_18 : decode cX10_oneLine 18 = .ok (.istore_n 1, 1) := by decide +kernel
theorem dX10_oneLine_19 : decode cX10_oneLine 19 = .ok (.aload_n 0, 1) := by decide +kernel
theorem dX10_oneLine_20 : decode cX10_oneLine 20 = .ok (.getfield 254, 3) := by decide +kernel
theorem dX10_oneLine_23 : decode cX10_oneLine 23 = .ok (.bipush 16, 2) := by decide +kernel
theorem dX10_oneLine_25 : decode cX10_oneLine 25 = .ok (.if_icmp .ne 11, 3) := by decide +kernel
theorem dX10_oneLine_28 : decode cX10_oneLine 28 = .ok (.aload_n 0, 1) := by decide +kernel
theorem dX10_oneLine_29 : decode cX10_oneLine 29 = .ok (.aload_n 0, 1) := by decide +kernel
theorem dX10_oneLine_30 : decode cX10_oneLine 30 = .ok (.getfield 225, 3) := by decide +kernel
theorem dX10_oneLine_33 : decode cX10_oneLine 33 = .ok (.invokevirtual 257, 3) := by decide +kernel
theorem dX10_oneLine_36 : decode cX10_oneLine 36 = .ok (.aload_n 0, 1) := by decide +kernel
theorem dX10_oneLine_37 : decode cX10_oneLine 37 = .ok (.getfield 117, 3) := by decide +kernel
theorem dX10_oneLine_40 : decode cX10_oneLine 40 = .ok (.iload_n 1, 1) := by decide +kernel
theorem dX10_oneLine_41 : decode cX10_oneLine 41 = .ok (.iconst 0, 1) := by decide +kernel
theorem dX10_oneLine_42 : decode cX10_oneLine 42 = .ok (.iastore, 1) := by decide +kernel
theorem dX10_oneLine_43 : decode cX10_oneLine 43 = .ok (.aload_n 0, 1) := by decide +kernel
theorem dX10_oneLine_44 : decode cX10_oneLine 44 = .ok (.ldc2_w 260, 3) := by decide +kernel
theorem dX10_oneLine_47 : decode cX10_oneLine 47 = .ok (.invokevirtual 262, 3) := by decide +kernel
theorem dX10_oneLine_50 : decode cX10_oneLine 50 = .ok (.ifCond .eq 51, 3) := by decide +kernel
theorem dX10_oneLine_53 : decode cX10_oneLine 53 = .ok (.iconst 1, 1) := by decide +kernel
theorem dX10_oneLine_54 : decode cX10_oneLine 54 = .ok (.istore_n 2, 1) := by decide +kernel
theorem dX10_oneLine_55 : decode cX10_oneLine 55 = .ok (.iconst 0, 1) := by decide +kernel
theorem dX10_oneLine_56 : decode cX10_oneLine 56 = .ok (.istore_n 3, 1) := by decide +kernel
theorem dX10_oneLine_57 : decode cX10_oneLine 57 = .ok (.iload_n 2, 1) := by decide +kernel
theorem dX10_oneLine_58 : decode cX10_oneLine 58 = .ok (.ifCond .eq 32, 3) := by decide +kernel
theorem dX10_oneLine_61 : decode cX10_oneLine 61 = .ok (.aload_n 0, 1) := by decide +kernel
theorem dX10_oneLine_62 : decode cX10_oneLine 62 = .ok (.invokevirtual 251, 3) := by decide +kernel
theorem dX10_oneLine_65 : decode cX10_oneLine 65 = .ok (.aload_n 0, 1) := by decide +kernel
theorem dX10_oneLine_66 : decode cX10_oneLine 66 = .ok (.iload_n 1, 1) := by decide +kernel
theorem dX10_oneLine_67 : decode cX10_oneLine 67 = .ok (.iload_n 3, 1) := by decide +kernel
theorem dX10_oneLine_68 : decode cX10_oneLine 68 = .ok (.invokevirtual 266, 3) := by decide +kernel
theorem dX10_oneLine_71 : decode cX10_oneLine 71 = .ok (.ifCond .ne 5, 3) := by decide +kernel
theorem dX10_oneLine_74 : decode cX10_oneLine 74 = .ok (.iconst 0, 1) := by decide +kernel
theorem dX10_oneLine_75 : decode cX10_oneLine 75 = .ok (.ireturn, 1) := by decide +kernel
theorem dX10_oneLine_76 : decode cX10_oneLine 76 = .ok (.aload_n 0, 1) := by decide +kernel
theorem dX10_oneLine_77 : decode cX10_oneLine 77 = .ok (.ldc2_w 269, 3) := by decide +kernel
theorem dX10_oneLine_80 : decode cX10_oneLine 80 = .ok (.invokevirtual 262, 3) := by decide +kernel
theorem dX10_oneLine_83 : decode cX10_oneLine 83 = .ok (.istore_n 2, 1) := by decide +kernel
theorem dX10_oneLine_84 : decode cX10_oneLine 84 = .ok (.iinc 3 1, 3) := by decide +kernel
theorem dX10_oneLine_87 : decode cX10_oneLine 87 = .ok (.goto (-30), 3) := by decide +kernel
theorem dX10_oneLine_90 : decode cX10_oneLine 90 = .ok (.aload_n 0, 1) := by decide +kernel
theorem dX10_oneLine_91 : decode cX10_oneLine 91 = .ok (.bipush 58, 2) := by decide +kernel
theorem dX10_oneLine_93 : decode cX10_oneLine 93 = .ok (.invokevirtual 271, 3) := by decide +kernel
theorem dX10_oneLine_96 : decode cX10_oneLine 96 = .ok (.ifCond .ne 5, 3) := by decide +kernel
theorem dX10_oneLine_99 : decode cX10_oneLine 99 = .ok (.iconst 0, 1) := by decide +kernel
theorem dX10_oneLine_100 : decode cX10_oneLine 100 = .ok (.ireturn, 1) := by decide +kernel
theorem dX10_oneLine_101 : decode cX10_oneLine 101 = .ok (.aload_n 0, 1) := by decide +kernel
theorem dX10_oneLine_102 : decode cX10_oneLine 102 = .ok (.getfield 129, 3) := by decide +kernel
theorem dX10_oneLine_105 : decode cX10_oneLine 105 = .ok (.iload_n 1, 1) := by decide +kernel
theorem dX10_oneLine_106 : decode cX10_oneLine 106 = .ok (.aload_n 0, 1) := by decide +kernel
theorem dX10_oneLine_107 : decode cX10_oneLine 107 = .ok (.ldc2_w 274, 3) := by decide +kernel
theorem dX10_oneLine_110 : decode cX10_oneLine 110 = .ok (.invokevirtual 262, 3) := by decide +kernel
theorem dX10_oneLine_113 : decode cX10_oneLine 113 = .ok (.ifCond .eq 7, 3) := by decide +kernel
theorem dX10_oneLine_116 : decode cX10_oneLine 116 = .ok (.iconst 0, 1) := by decide +kernel
theorem dX10_oneLine_117 : decode cX10_oneLine 117 = .ok (.goto 46, 3) := by decide +kernel
theorem dX10_oneLine_120 : decode cX10_oneLine 120 = .ok (.aload_n 0, 1) := by decide +kernel
theorem dX10_oneLine_121 : decode cX10_oneLine 121 = .ok (.ldc2_w 276, 3) := by decide +kernel
theorem dX10_oneLine_124 : decode cX10_oneLine 124 = .ok (.invokevirtual 262, 3) := by decide +kernel
theorem dX10_oneLine_127 : decode cX10_oneLine 127 = .ok (.ifCond .eq 7, 3) := by decide +kernel
theorem dX10_oneLine_130 : decode cX10_oneLine 130 = .ok (.iconst 1, 1) := by decide +kernel
theorem dX10_oneLine_131 : decode cX10_oneLine 131 = .ok (.goto 32, 3) := by decide +kernel
theorem dX10_oneLine_134 : decode cX10_oneLine 134 = .ok (.aload_n 0, 1) := by decide +kernel
theorem dX10_oneLine_135 : decode cX10_oneLine 135 = .ok (.ldc2_w 278, 3) := by decide +kernel
theorem dX10_oneLine_138 : decode cX10_oneLine 138 = .ok (.invokevirtual 262, 3) := by decide +kernel
theorem dX10_oneLine_141 : decode cX10_oneLine 141 = .ok (.ifCond .eq 7, 3) := by decide +kernel
theorem dX10_oneLine_144 : decode cX10_oneLine 144 = .ok (.iconst 2, 1) := by decide +kernel
theorem dX10_oneLine_145 : decode cX10_oneLine 145 = .ok (.goto 18, 3) := by decide +kernel
theorem dX10_oneLine_148 : decode cX10_oneLine 148 = .ok (.aload_n 0, 1) := by decide +kernel
theorem dX10_oneLine_149 : decode cX10_oneLine 149 = .ok (.ldc2_w 280, 3) := by decide +kernel
theorem dX10_oneLine_152 : decode cX10_oneLine 152 = .ok (.invokevirtual 262, 3) := by decide +kernel
theorem dX10_oneLine_155 : decode cX10_oneLine 155 = .ok (.ifCond .eq 7, 3) := by decide +kernel
theorem dX10_oneLine_158 : decode cX10_oneLine 158 = .ok (.iconst 3, 1) := by decide +kernel
theorem dX10_oneLine_159 : decode cX10_oneLine 159 = .ok (.goto 4, 3) := by decide +kernel
theorem dX10_oneLine_162 : decode cX10_oneLine 162 = .ok (.iconst (-1), 1) := by decide +kernel
theorem dX10_oneLine_163 : decode cX10_oneLine 163 = .ok (.iastore, 1) := by decide +kernel
theorem dX10_oneLine_164 : decode cX10_oneLine 164 = .ok (.aload_n 0, 1) := by decide +kernel
theorem dX10_oneLine_165 : decode cX10_oneLine 165 = .ok (.getfield 129, 3) := by decide +kernel
theorem dX10_oneLine_168 : decode cX10_oneLine 168 = .ok (.iload_n 1, 1) := by decide +kernel
theorem dX10_oneLine_169 : decode cX10_oneLine 169 = .ok (.iaload, 1) := by decide +kernel
theorem dX10_oneLine_170 : decode cX10_oneLine 170 = .ok (.iconst (-1), 1) := by decide +kernel
theorem dX10_oneLine_171 : decode cX10_oneLine 171 = .ok (.if_icmp .ne 8, 3) := by decide +kernel
theorem dX10_oneLine_174 : decode cX10_oneLine 174 = .ok (.aload_n 0, 1) := by decide +kernel
theorem dX10_oneLine_175 : decode cX10_oneLine 175 = .ok (.invokevirtual 247, 3) := by decide +kernel
theorem dX10_oneLine_178 : decode cX10_oneLine 178 = .ok (.ireturn, 1) := by decide +kernel
theorem dX10_oneLine_179 : decode cX10_oneLine 179 = .ok (.aload_n 0, 1) := by decide +kernel
theorem dX10_oneLine_180 : decode cX10_oneLine 180 = .ok (.invokevirtual 251, 3) := by decide +kernel
theorem dX10_oneLine_183 : decode cX10_oneLine 183 = .ok (.aload_n 0, 1) := by decide +kernel
theorem dX10_oneLine_184 : decode cX10_oneLine 184 = .ok (.getfield 235, 3) := by decide +kernel
theorem dX10_oneLine_187 : decode cX10_oneLine 187 = .ok (.iconst 3, 1) := by decide +kernel
theorem dX10_oneLine_188 : decode cX10_oneLine 188 = .ok (.if_icmp .eq 8, 3) := by decide +kernel
theorem dX10_oneLine_191 : decode cX10_oneLine 191 = .ok (.aload_n 0, 1) := by decide +kernel
theorem dX10_oneLine_192 : decode cX10_oneLine 192 = .ok (.invokevirtual 247, 3) := by decide +kernel
theorem dX10_oneLine_195 : decode cX10_oneLine 195 = .ok (.ireturn, 1) := by decide +kernel
theorem dX10_oneLine_196 : decode cX10_oneLine 196 = .ok (.aload_n 0, 1) := by decide +kernel
theorem dX10_oneLine_197 : decode cX10_oneLine 197 = .ok (.getfield 132, 3) := by decide +kernel
theorem dX10_oneLine_200 : decode cX10_oneLine 200 = .ok (.iload_n 1, 1) := by decide +kernel
theorem dX10_oneLine_201 : decode cX10_oneLine 201 = .ok (.aload_n 0, 1) := by decide +kernel
theorem dX10_oneLine_202 : decode cX10_oneLine 202 = .ok (.getfield 228, 3) := by decide +kernel
theorem dX10_oneLine_205 : decode cX10_oneLine 205 = .ok (.iastore, 1) := by decide +kernel
theorem dX10_oneLine_206 : decode cX10_oneLine 206 = .ok (.aload_n 0, 1) := by decide +kernel
theorem dX10_oneLine_207 : decode cX10_oneLine 207 = .ok (.invokevirtual 251, 3) := by decide +kernel
theorem dX10_oneLine_210 : decode cX10_oneLine 210 = .ok (.aload_n 0, 1) := by decide +kernel
theorem dX10_oneLine_211 : decode cX10_oneLine 211 = .ok (.dup, 1) := by decide +kernel
theorem dX10_oneLine_212 : decode cX10_oneLine 212 = .ok (.getfield 254, 3) := by decide +kernel
theorem dX10_oneLine_215 : decode cX10_oneLine 215 = .ok (.iconst 1, 1) := by decide +kernel
theorem dX10_oneLine_216 : decode cX10_oneLine 216 = .ok (.iadd, 1) := by decide +kernel
theorem dX10_oneLine_217 : decode cX10_oneLine 217 = .ok (.putfield 254, 3) := by decide +kernel
theorem dX10_oneLine_220 : decode cX10_oneLine 220 = .ok (.aload_n 0, 1) := by decide +kernel
theorem dX10_oneLine_221 : decode cX10_oneLine 221 = .ok (.bipush 59, 2) := by decide +kernel
theorem dX10_oneLine_223 : decode cX10_oneLine 223 = .ok (.invokevirtual 271, 3) := by decide +kernel
theorem dX10_oneLine_226 : decode cX10_oneLine 226 = .ok (.ireturn, 1) := by decide +kernel
set_option maxRecDepth 20000 in
theorem ggX10_test_X10_tooMany : GoodIn wsX10_test wsX10_tooMany := goodIn_sub (gw_c (gw_X10_test_X10_test_r1 _ (gw_g 17 rfl)) (gw_a (gw_c (gw_X10_test_X10_test_r1 _ (gw_g 18 rfl)) gw_n) gw_X10_test_X100)) (by decide +kernel)
set_option maxRecDepth 20000 in
theorem gX10_test_X10_tooMany : GoodIn wsX10_test (wsV RX10 257 RX10 yX10_tooMany wsX10_tooMany) := goodIn_app (goodIn_sub (gw_c (gw_X10_test_X10_test_r1 _ (gw_g 13 rfl)) (gw_c (gw_X10_test_X10_test_r1 _ (gw_g 14 rfl)) (gw_c (gw_X10_test_X10_test_r1 _ (gw_g 15 rfl)) (gw_c (gw_X10_test_X10_test_r1 _ (gw_g 16 rfl)) gw_n)))) (by decide +kernel)) ggX10_test_X10_tooMany
set_option maxRecDepth 20000 in
theorem ggX10_test_X10_isWord : GoodIn wsX10_test wsX10_isWord := goodIn_sub (gw_c (gw_X10_test_X10_test_r1 _ (gw_g 22 rfl)) (gw_a (gw_c (gw_X10_test_X10_test_r1 _ (gw_g 8 rfl)) (gw_c (gw_X10_test_X10_test_r1 _ (gw_g 23 rfl)) gw_n)) gw_X10_test_X100)) (by decide +kernel)
set_option maxRecDepth 20000 in
theorem gX10_test_X10_isWord : GoodIn wsX10_test (wsV RX10 262 RX10 yX10_isWord wsX10_isWord) := goodIn_app (goodIn_sub (gw_c (gw_X10_test_X10_test_r1 _ (gw_g 19 rfl)) (gw_c (gw_X10_test_X10_test_r1 _ (gw_g 20 rfl)) (gw_c (gw_X10_test_X10_test_r1 _ (gw_g 21 rfl)) (gw_c (gw_X10_test_X10_test_r1 _ (gw_g 16 rfl)) gw_n)))) (by decide +kernel)) ggX10_test_X10_isWord
set_option maxRecDepth 20000 in
theorem ggX10_test_X10_next : GoodIn wsX10_test wsX10_next := goodIn_sub (gw_c (gw_X10_test_X10_test_r2 _ (gw_g 3 rfl)) (gw_a (gw_c (gw_X10_test_X10_test_r2 _ (gw_g 4 rfl)) (gw_c (gw_X10_test_X10_test_r1 _ (gw_g 0 rfl)) (gw_c (gw_X10_test_X10_test_r1 _ (gw_g 7 rfl)) (gw_c (gw_X10_test_X10_test_r1 _ (gw_g 23 rfl)) (gw_c (gw_X10_test_X10_test_r1 _ (gw_g 8 rfl)) (gw_c (gw_X10_test_X10_test_r2 _ (gw_g 5 rfl)) (gw_c (gw_X10_test_X10_test_r2 _ (gw_g 6 rfl)) (gw_c (gw_X10_test_X10_test_r2 _ (gw_g 7 rfl)) (gw_c (gw_X10_test_X10_test_r1 _ (gw_g 16 rfl)) (gw_c (gw_X10_test_X10_test_r2 _ (gw_g 8 rfl)) (gw_c (gw_X10_test_X10_test_r2 _ (gw_g 9 rfl)) (gw_c (gw_X10_test_X10_test_r2 _ (gw_g 10 rfl)) (gw_c (gw_X10_test_X10_test_r2 _ (gw_g 11 rfl)) (gw_c (gw_X10_test_X10_test_r2 _ (gw_g 12 rfl)) (gw_c (gw_X10_test_X10_test_r2 _ (gw_g 13 rfl)) gw_n))))))))))))))) gw_X10_test_X100)) (by decide +kernel)
set_option maxRecDepth 20000 in
theorem gX10_test_X10_next : GoodIn wsX10_test (wsV RX10 251 RX10 yX10_next wsX10_next) := goodIn_app (goodIn_sub (gw_c (gw_X10_test_X10_test_r2 _ (gw_g 0 rfl)) (gw_c (gw_X10_test_X10_test_r2 _ (gw_g 1 rfl)) (gw_c (gw_X10_test_X10_test_r2 _ (gw_g 2 rfl)) (gw_c (gw_X10_test_X10_test_r1 _ (gw_g 16 rfl)) gw_n)))) (by decide +kernel)) ggX10_test_X10_next
set_option maxRecDepth 20000 in
theorem ggX10_test_X10_wrong : GoodIn wsX10_test wsX10_wrong := goodIn_sub (gw_c (gw_X10_test_X10_test_r2 _ (gw_g 17 rfl)) (gw_a (gw_c (gw_X10_test_X10_test_r2 _ (gw_g 18 rfl)) (gw_c (gw_X10_test_X10_test_r1 _ (gw_g 0 rfl)) (gw_c (gw_X10_test_X10_test_r2 _ (gw_g 19 rfl)) gw_n))) gw_X10_test_X100)) (by decide +kernel)
set_option maxRecDepth 20000 in
theorem gX10_test_X10_wrong : GoodIn wsX10_test (wsV RX10 247 RX10 yX10_wrong wsX10_wrong) := goodIn_app (goodIn_sub (gw_c (gw_X10_test_X10_test_r2 _ (gw_g 14 rfl)) (gw_c (gw_X10_test_X10_test_r2 _ (gw_g 15 rfl)) (gw_c (gw_X10_test_X10_test_r2 _ (gw_g 16 rfl)) (gw_c (gw_X10_test_X10_test_r1 _ (gw_g 16 rfl)) gw_n)))) (by decide +kernel)) ggX10_test_X10_wrong
theorem dX10_test_0 : decode cX10_test 0 = .ok (.iload_n 2, 1) := by decide +kernel
theorem dX10_test_1 : decode cX10_test 1 = .ok (.iconst 4, 1) := by decide +kernel
theorem dX10_test_2 : decode cX10_test 2 = .ok (.if_icmp .ne 11, 3) := by decide +kernel
theorem dX10_test_5 : decode cX10_test 5 = .ok (.aload_n 0, 1) := by decide +kernel
theorem dX10_test_6 : decode cX10_test 6 = .ok (.aload_n 0, 1) := by decide +kernel
theorem dX10_test_7 : decode cX10_test 7 = .ok (.getfield 225, 3) := by decide +kernel
theorem dX10_test_10 : decode cX10_test 10 = .ok (.invokevirtual 257, 3) := by decide +kernel
theorem dX10_test_13 : decode cX10_test 13 = .ok (.aload_n 0, 1) := by decide +kernel
theorem dX10_test_14 : decode cX10_test 14 = .ok (.ldc2_w 282, 3) := by decide +kernel
theorem dX10_test_17 : decode cX10_test 17 = .ok (.invokevirtual 262, 3) := by decide +kernel
theorem dX10_test_20 : decode cX10_test 20 = .ok (.istore_n 3, 1) := by decide +kernel
theorem dX10_test_21 : decode cX10_test 21 = .ok (.iload_n 3, 1) := by decide +kernel
theorem dX10_test_22 : decode cX10_test 22 = .ok (.ifCond .eq 7, 3) := by decide +kernel
theorem dX10_test_25 : decode cX10_test 25 = .ok (.aload_n 0, 1) := by decide +kernel
theorem dX10_test_26 : decode cX10_test 26 = .ok (.invokevirtual 251, 3) := by decide +kernel
theorem dX10_test_29 : decode cX10_test 29 = .ok (.aload_n 0, 1) := by decide +kernel
theorem dX10_test_30 : decode cX10_test 30 = .ok (.ldc2_w 284, 3) := by decide +kernel
theorem dX10_test_33 : decode cX10_test 33 = .ok (.invokevirtual 262, 3) := by decide +kernel
theorem dX10_test_36 : decode cX10_test 36 = .ok (.ifCond .eq 7, 3) := by decide +kernel
theorem dX10_test_39 : decode cX10_test 39 = .ok (.iconst 0, 1) := by decide +kernel
theorem dX10_test_40 : decode cX10_test 40 = .ok (.goto 60, 3) := by decide +kernel
theorem dX10_test_43 : decode cX10_test 43 = .ok (.aload_n 0, 1) := by decide +kernel
theorem dX10_test_44 : decode cX10_test 44 = .ok (.ldc2_w 286, 3) := by decide +kernel
theorem dX10_test_47 : decode cX10_test 47 = .ok (.invokevirtual 262, 3) := by decide +kernel
theorem dX10_test_50 : decode cX10_test 50 = .ok (.ifCond .eq 7, 3) := by decide +kernel
theorem dX10_test_53 : decode cX10_test 53 = .ok (.iconst 1, 1) := by decide +kernel
theorem dX10_test_54 : decode cX10_test 54 = .ok (.goto 46, 3) := by decide +kernel
theorem dX10_test_57 : decode cX10_test 57 = .ok (.aload_n 0, 1) := by decide +kernel
theorem dX10_test_58 : decode cX10_test 58 = .ok (.ldc2_w 288, 3) := by decide +kernel
theorem dX10_test_61 : decode cX10_test 61 = .ok (.invokevirtual 262, 3) := by decide +kernel
theorem dX10_test_64 : decode cX10_test 64 = .ok (.ifCond .eq 7, 3) := by decide +kernel
theorem dX10_test_67 : decode cX10_test 67 = .ok (.iconst 2, 1) := by decide +kernel
theorem dX10_test_68 : decode cX10_test 68 = .ok (.goto 32, 3) := by decide +kernel
theorem dX10_test_71 : decode cX10_test 71 = .ok (.aload_n 0, 1) := by decide +kernel
theorem dX10_test_72 : decode cX10_test 72 = .ok (.ldc2_w 290, 3) := by decide +kernel
theorem dX10_test_75 : decode cX10_test 75 = .ok (.invokevirtual 262, 3) := by decide +kernel
theorem dX10_test_78 : decode cX10_test 78 = .ok (.ifCond .eq 7, 3) := by decide +kernel
theorem dX10_test_81 : decode cX10_test 81 = .ok (.iconst 3, 1) := by decide +kernel
theorem dX10_test_82 : decode cX10_test 82 = .ok (.goto 18, 3) := by decide +kernel
theorem dX10_test_85 : decode cX10_test 85 = .ok (.aload_n 0, 1) := by decide +kernel
theorem dX10_test_86 : decode cX10_test 86 = .ok (.ldc2_w 292, 3) := by decide +kernel
theorem dX10_test_89 : decode cX10_test 89 = .ok (.invokevirtual 262, 3) := by decide +kernel
theorem dX10_test_92 : decode cX10_test 92 = .ok (.ifCond .eq 7, 3) := by decide +kernel
theorem dX10_test_95 : decode cX10_test 95 = .ok (.iconst 4, 1) := by decide +kernel
theorem dX10_test_96 : decode cX10_test 96 = .ok (.goto 4, 3) := by decide +kernel
theorem dX10_test_99 : decode cX10_test 99 = .ok (.iconst (-1), 1) := by decide +kernel
theorem dX10_test_100 : decode cX10_test 100 = .ok (.istore 4, 2) := by decide +kernel
theorem dX10_test_102 : decode cX10_test 102 = .ok (.iload 4, 2) := by decide +kernel
theorem dX10_test_104 : decode cX10_test 104 = .ok (.iconst (-1), 1) := by decide +kernel
theorem dX10_test_105 : decode cX10_test 105 = .ok (.if_icmp .ne 8, 3) := by decide +kernel
theorem dX10_test_108 : decode cX10_test 108 = .ok (.aload_n 0, 1) := by decide +kernel
theorem dX10_test_109 : decode cX10_test 109 = .ok (.invokevirtual 247, 3) := by decide +kernel
theorem dX10_test_112 : decode cX10_test 112 = .ok (.ireturn, 1) := by decide +kernel
theorem dX10_test_113 : decode cX10_test 113 = .ok (.aload_n 0, 1) := by decide +kernel
theorem dX10_test_114 : decode cX10_test 114 = .ok (.invokevirtual 251, 3) := by decide +kernel
theorem dX10_test_117 : decode cX10_test 117 = .ok (.bipush 61, 2) := by decide +kernel
theorem dX10_test_119 : decode cX10_test 119 = .ok (.istore 5, 2) := by decide +kernel
theorem dX10_test_121 : decode cX10_test 121 = .ok (.iconst 1, 1) := by decide +kernel
theorem dX10_test_122 : decode cX10_test 122 = .ok (.istore 6, 2) := by decide +kernel
theorem dX10_test_124 : decode cX10_test 124 = .ok (.iload 4, 2) := by decide +kernel
theorem dX10_test_126 : decode cX10_test 126 = .ok (.iconst 4, 1) := by decide +kernel
theorem dX10_test_127 : decode cX10_test 127 = .ok (.if_icmp .ge 70, 3) := by decide +kernel
theorem dX10_test_130 : decode cX10_test 130 = .ok (.aload_n 0, 1) := by decide +kernel
theorem dX10_test_131 : decode cX10_test 131 = .ok (.getfield 228, 3) := by decide +kernel
theorem dX10_test_134 : decode cX10_test 134 = .ok (.istore 5, 2) := by decide +kernel
theorem dX10_test_136 : decode cX10_test 136 = .ok (.aload_n 0, 1) := by decide +kernel
theorem dX10_test_137 : decode cX10_test 137 = .ok (.getfield 235, 3) := by decide +kernel
theorem dX10_test_140 : decode cX10_test 140 = .ok (.iconst 4, 1) := by decide +kernel
theorem dX10_test_141 : decode cX10_test 141 = .ok (.if_icmp .ne 24, 3) := by decide +kernel
theorem dX10_test_144 : decode cX10_test 144 = .ok (.iload 5, 2) := by decide +kernel
theorem dX10_test_146 : decode cX10_test 146 = .ok (.bipush 60, 2) := by decide +kernel
theorem dX10_test_148 : decode cX10_test 148 = .ok (.if_icmp .eq 22, 3) := by decide +kernel
theorem dX10_test_151 : decode cX10_test 151 = .ok (.iload 5, 2) := by decide +kernel
theorem dX10_test_153 : decode cX10_test 153 = .ok (.bipush 62, 2) := by decide +kernel
theorem dX10_test_155 : decode cX10_test 155 = .ok (.if_icmp .eq 15, 3) := by decide +kernel
theorem dX10_test_158 : decode cX10_test 158 = .ok (.iload 5, 2) := by decide +kernel
theorem dX10_test_160 : decode cX10_test 160 = .ok (.bipush 61, 2) := by decide +kernel
theorem dX10_test_162 : decode cX10_test 162 = .ok (.if_icmp .eq 8, 3) := by decide +kernel
theorem dX10_test_165 : decode cX10_test 165 = .ok (.aload_n 0, 1) := by decide +kernel
theorem dX10_test_166 : decode cX10_test 166 = .ok (.invokevirtual 247, 3) := by decide +kernel
theorem dX10_test_169 : decode cX10_test 169 = .ok (.ireturn, 1) := by decide +kernel
theorem dX10_test_170 : decode cX10_test 170 = .ok (.aload_n 0, 1) := by decide +kernel
theorem dX10_test_171 : decode cX10_test 171 = .ok (.invokevirtual 251, 3) := by decide +kernel
theorem dX10_test_174 : decode cX10_test 174 = .ok (.aload_n 0, 1) := by decide +kernel
theorem dX10_test_175 : decode cX10_test 175 = .ok (.getfield 235, 3) := by decide +kernel
theorem dX10_test_178 : decode cX10_test 178 = .ok (.iconst 3, 1) := by decide +kernel
theorem dX10_test_179 : decode cX10_test 179 = .ok (.if_icmp .eq 8, 3) := by decide +kernel
theorem dX10_test_182 : decode cX10_test 182 = .ok (.aload_n 0, 1) := by decide +kernel
theorem dX10_test_183 : decode cX10_test 183 = .ok (.invokevirtual 247, 3) := by decide +kernel
theorem dX10_test_186 : decode cX10_test 186 = .ok (.ireturn, 1) := by decide +kernel
theorem dX10_test_187 : decode cX10_test 187 = .ok (.aload_n 0, 1) := by decide +kernel
theorem dX10_test_188 : decode cX10_test 188 = .ok (.getfield 228, 3) := by decide +kernel
theorem dX10_test_191 : decode cX10_test 191 = .ok (.istore 6, 2) := by decide +kernel
theorem dX10_test_193 : decode cX10_test 193 = .ok (.aload_n 0, 1) := by decide +kernel
theorem dX10_test_194 : decode cX10_test 194 = .ok (.invokevirtual 251, 3) := by decide +kernel
theorem dX10_test_197 : decode cX10_test 197 = .ok (.iload_n 2, 1) := by decide +kernel
theorem dX10_test_198 : decode cX10_test 198 = .ok (.iconst 4, 1) := by decide +kernel
theorem dX10_test_199 : decode cX10_test 199 = .ok (.if_icmp .ge 64, 3) := by decide +kernel
theorem dX10_test_202 : decode cX10_test 202 = .ok (.iload_n 1, 1) := by decide +kernel
theorem dX10_test_203 : decode cX10_test 203 = .ok (.bipush 16, 2) := by decide +kernel
theorem dX10_test_205 : decode cX10_test 205 = .ok (.if_icmp .ge 58, 3) := by decide +kernel
theorem dX10_test_208 : decode cX10_test 208 = .ok (.iconst 4, 1) := by decide +kernel
theorem dX10_test_209 : decode cX10_test 209 = .ok (.iload_n 1, 1) := by decide +kernel
theorem dX10_test_210 : decode cX10_test 210 = .ok (.imul, 1) := by decide +kernel
theorem dX10_test_211 : decode cX10_test 211 = .ok (.iload_n 2, 1) := by decide +kernel
theorem dX10_test_212 : decode cX10_test 212 = .ok (.iadd, 1) := by decide +kernel
theorem dX10_test_213 : decode cX10_test 213 = .ok (.istore 7, 2) := by decide +kernel
theorem dX10_test_215 : decode cX10_test 215 = .ok (.aload_n 0, 1) := by decide +kernel
theorem dX10_test_216 : decode cX10_test 216 = .ok (.getfield 120, 3) := by decide +kernel
theorem dX10_test_219 : decode cX10_test 219 = .ok (.iload 7, 2) := by decide +kernel
theorem dX10_test_221 : decode cX10_test 221 = .ok (.iload_n 3, 1) := by decide +kernel
theorem dX10_test_222 : decode cX10_test 222 = .ok (.ifCond .eq 11, 3) := by decide +kernel
theorem dX10_test_225 : decode cX10_test 225 = .ok (.iload 4, 2) := by decide +kernel
theorem dX10_test_227 : decode cX10_test 227 = .ok (.bipush 8, 2) := by decide +kernel
theorem dX10_test_229 : decode cX10_test 229 = .ok (.iadd, 1) := by decide +kernel
theorem dX10_test_230 : decode cX10_test 230 = .ok (.goto 5, 3) := by decide +kernel
theorem dX10_test_233 : decode cX10_test 233 = .ok (.iload 4, 2) := by decide +kernel
theorem dX10_test_235 : decode cX10_test 235 = .ok (.iastore, 1) := by decide +kernel
theorem dX10_test_236 : decode cX10_test 236 = .ok (.aload_n 0, 1) := by decide +kernel
theorem dX10_test_237 : decode cX10_test 237 = .ok (.getfield 123, 3) := by decide +kernel
theorem dX10_test_240 : decode cX10_test 240 = .ok (.iload 7, 2) := by decide +kernel
theorem dX10_test_242 : decode cX10_test 242 = .ok (.iload 5, 2) := by decide +kernel
theorem dX10_test_244 : decode cX10_test 244 = .ok (.iastore, 1) := by decide +kernel
theorem dX10_test_245 : decode cX10_test 245 = .ok (.aload_n 0, 1) := by decide +kernel
theorem dX10_test_246 : decode cX10_test 246 = .ok (.getfield 126, 3) := by decide +kernel
theorem dX10_test_249 : decode cX10_test 249 = .ok (.iload 7, 2) := by decide +kernel
theorem dX10_test_251 : decode cX10_test 251 = .ok (.iload 6, 2) := by decide +kernel
theorem dX10_test_253 : decode cX10_test 253 = .ok (.iastore, 1) := by decide +kernel
theorem dX10_test_254 : decode cX10_test 254 = .ok (.aload_n 0, 1) := by decide +kernel
theorem dX10_test_255 : decode cX10_test 255 = .ok (.getfield 117, 3) := by decide +kernel
theorem dX10_test_258 : decode cX10_test 258 = .ok (.iload_n 1, 1) := by decide +kernel
theorem dX10_test_259 : decode cX10_test 259 = .ok (.iload_n 2, 1) := by decide +kernel
theorem dX10_test_260 : decode cX10_test 260 = .ok (.iconst 1, 1) := by decide +kernel
theorem dX10_test_261 : decode cX10_test 261 = .ok (.iadd, 1) := by decide +kernel
theorem dX10_test_262 : decode cX10_test 262 = .ok (.iastore, 1) := by decide +kernel
theorem dX10_test_263 : decode cX10_test 263 = .ok (.iconst 1, 1) := by decide +kernel
theorem dX10_test_264 : decode cX10_test 264 = .ok (.ireturn, 1) := by decide +kernel
set_option maxRecDepth 20000 in
theorem ggX10_contract_X10_next : GoodIn wsX10_contract wsX10_next := goodIn_sub (gw_c (gw_X10_contract_X10_contract_r2 _ (gw_g 2 rfl)) (gw_a (gw_c (gw_X10_contract_X10_contract_r1 _ (gw_g 3 rfl)) (gw_c (gw_X10_contract_X10_contract_r2 _ (gw_g 3 rfl)) (gw_c (gw_X10_contract_X10_contract_r2 _ (gw_g 4 rfl)) (gw_c (gw_X10_contract_X10_contract_r2 _ (gw_g 5 rfl)) (gw_c (gw_X10_contract_X10_contract_r1 _ (gw_g 8 rfl)) (gw_c (gw_X10_contract_X10_contract_r2 _ (gw_g 6 rfl)) (gw_c (gw_X10_contract_X10_contract_r2 _ (gw_g 7 rfl)) (gw_c (gw_X10_contract_X10_contract_r2 _ (gw_g 8 rfl)) (gw_c (gw_X10_contract_X10_contract_r2 _ (gw_g 1 rfl)) (gw_c (gw_X10_contract_X10_contract_r2 _ (gw_g 9 rfl)) (gw_c (gw_X10_contract_X10_contract_r1 _ (gw_g 2 rfl)) (gw_c (gw_X10_contract_X10_contract_r2 _ (gw_g 10 rfl)) (gw_c (gw_X10_contract_X10_contract_r2 _ (gw_g 11 rfl)) (gw_c (gw_X10_contract_X10_contract_r2 _ (gw_g 12 rfl)) (gw_c (gw_X10_contract_X10_contract_r2 _ (gw_g 13 rfl)) gw_n))))))))))))))) gw_X10_contract_X100)) (by decide +kernel)
set_option maxRecDepth 20000 in
theorem gX10_contract_X10_next : GoodIn wsX10_contract (wsV RX10 251 RX10 yX10_next wsX10_next) := goodIn_app (goodIn_sub (gw_c (gw_X10_contract_X10_contract_r1 _ (gw_g 22 rfl)) (gw_c (gw_X10_contract_X10_contract_r1 _ (gw_g 23 rfl)) (gw_c (gw_X10_contract_X10_contract_r2 _ (gw_g 0 rfl)) (gw_c (gw_X10_contract_X10_contract_r2 _ (gw_g 1 rfl)) gw_n)))) (by decide +kernel)) ggX10_contract_X10_next
set_option maxRecDepth 20000 in
theorem ggX10_contract_X10_oneLine : GoodIn wsX10_contract wsX10_oneLine := goodIn_sub (gw_c (gw_X10_contract_X10_contract_r2 _ (gw_g 17 rfl)) (gw_a (gw_a (gw_c (gw_X10_contract_X10_contract_r1 _ (gw_g 7 rfl)) (gw_c (gw_X10_contract_X10_contract_r2 _ (gw_g 3 rfl)) (gw_c (gw_X10_contract_X10_contract_r1 _ (gw_g 11 rfl)) (gw_c (gw_X10_contract_X10_contract_r2 _ (gw_g 18 rfl)) (gw_c (gw_X10_contract_X10_contract_r2 _ (gw_g 19 rfl)) (gw_c (gw_X10_contract_X10_contract_r1 _ (gw_g 13 rfl)) (gw_c (gw_X10_contract_X10_contract_r2 _ (gw_g 20 rfl)) (gw_c (gw_X10_contract_X10_contract_r2 _ (gw_g 21 rfl)) (gw_c (gw_X10_contract_X10_contract_r2 _ (gw_g 22 rfl)) (gw_c (gw_X10_contract_X10_contract_r2 _ (gw_g 23 rfl)) (gw_c (gw_X10_contract_X10_contract_r1 _ (gw_g 8 rfl)) (gw_c (gw_X10_contract_X10_contract_r1 _ (gw_g 15 rfl)) (gw_c (gw_X10_contract_X10_contract_r2 _ (gw_g 4 rfl)) (gw_c (gw_X10_contract_X10_contract_r3 _ (gw_g 0 rfl)) (gw_c (gw_X10_contract_X10_contract_r3 _ (gw_g 1 rfl)) (gw_c (gw_X10_contract_X10_contract_r3 _ (gw_g 2 rfl)) (gw_c (gw_X10_contract_X10_contract_r2 _ (gw_g 1 rfl)) (gw_c (gw_X10_contract_X10_contract_r3 _ (gw_g 3 rfl)) (gw_c (gw_X10_contract_X10_contract_r1 _ (gw_g 6 rfl)) (gw_c (gw_X10_contract_X10_contract_r3 _ (gw_g 4 rfl)) (gw_c (gw_X10_contract_X10_contract_r3 _ (gw_g 5 rfl)) (gw_c (gw_X10_contract_X10_contract_r3 _ (gw_g 6 rfl)) (gw_c (gw_X10_contract_X10_contract_r3 _ (gw_g 7 rfl)) (gw_c (gw_X10_contract_X10_contract_r2 _ (gw_g 5 rfl)) gw_n)))))))))))))))))))))))) (gw_a (gw_c (gw_X10_contract_X10_contract_r1 _ (gw_g 22 rfl)) (gw_c (gw_X10_contract_X10_contract_r1 _ (gw_g 23 rfl)) (gw_c (gw_X10_contract_X10_contract_r2 _ (gw_g 0 rfl)) (gw_c (gw_X10_contract_X10_contract_r2 _ (gw_g 2 rfl)) (gw_c (gw_X10_contract_X10_contract_r1 _ (gw_g 3 rfl)) (gw_c (gw_X10_contract_X10_contract_r2 _ (gw_g 6 rfl)) (gw_c (gw_X10_contract_X10_contract_r2 _ (gw_g 7 rfl)) (gw_c (gw_X10_contract_X10_contract_r2 _ (gw_g 8 rfl)) (gw_c (gw_X10_contract_X10_contract_r2 _ (gw_g 9 rfl)) (gw_c (gw_X10_contract_X10_contract_r1 _ (gw_g 2 rfl)) (gw_c (gw_X10_contract_X10_contract_r2 _ (gw_g 10 rfl)) (gw_c (gw_X10_contract_X10_contract_r2 _ (gw_g 11 rfl)) (gw_c (gw_X10_contract_X10_contract_r2 _ (gw_g 12 rfl)) (gw_c (gw_X10_contract_X10_contract_r2 _ (gw_g 13 rfl)) (gw_c (gw_X10_contract_X10_contract_r3 _ (gw_g 8 rfl)) (gw_c (gw_X10_contract_X10_contract_r3 _ (gw_g 9 rfl)) (gw_c (gw_X10_contract_X10_contract_r3 _ (gw_g 10 rfl)) (gw_c (gw_X10_contract_X10_contract_r3 _ (gw_g 11 rfl)) (gw_c (gw_X10_contract_X10_contract_r3 _ (gw_g 12 rfl)) (gw_c (gw_X10_contract_X10_contract_r3 _ (gw_g 13 rfl)) (gw_c (gw_X10_contract_X10_contract_r3 _ (gw_g 14 rfl)) (gw_c (gw_X10_contract_X10_contract_r3 _ (gw_g 15 rfl)) (gw_c (gw_X10_contract_X10_contract_r3 _ (gw_g 16 rfl)) (gw_c (gw_X10_contract_X10_contract_r3 _ (gw_g 17 rfl)) gw_n)))))))))))))))))))))))) (gw_c (gw_X10_contract_X10_contract_r1 _ (gw_g 17 rfl)) (gw_c (gw_X10_contract_X10_contract_r1 _ (gw_g 19 rfl)) (gw_c (gw_X10_contract_X10_contract_r1 _ (gw_g 21 rfl)) (gw_c (gw_X10_contract_X10_contract_r3 _ (gw_g 18 rfl)) (gw_c (gw_X10_contract_X10_contract_r3 _ (gw_g 19 rfl)) (gw_c (gw_X10_contract_X10_contract_r3 _ (gw_g 20 rfl)) (gw_c (gw_X10_contract_X10_contract_r3 _ (gw_g 21 rfl)) (gw_c (gw_X10_contract_X10_contract_r1 _ (gw_g 4 rfl)) (gw_c (gw_X10_contract_X10_contract_r1 _ (gw_g 5 rfl)) (gw_c (gw_X10_contract_X10_contract_r3 _ (gw_g 22 rfl)) (gw_c (gw_X10_contract_X10_contract_r3 _ (gw_g 23 rfl)) (gw_c (gw_X10_contract_X10_contract_r4 _ (gw_g 0 rfl)) (gw_c (gw_X10_contract_X10_contract_r4 _ (gw_g 1 rfl)) (gw_c (gw_X10_contract_X10_contract_r4 _ (gw_g 2 rfl)) (gw_c (gw_X10_contract_X10_contract_r4 _ (gw_g 3 rfl)) (gw_c (gw_X10_contract_X10_contract_r4 _ (gw_g 4 rfl)) (gw_c (gw_X10_contract_X10_contract_r4 _ (gw_g 5 rfl)) gw_n))))))))))))))))))) gw_X10_contract_X100)) (by decide +kernel)
set_option maxRecDepth 20000 in
theorem gX10_contract_X10_oneLine : GoodIn wsX10_contract (wsV RX10 294 RX10 yX10_oneLine wsX10_oneLine) := goodIn_app (goodIn_sub (gw_c (gw_X10_contract_X10_contract_r2 _ (gw_g 14 rfl)) (gw_c (gw_X10_contract_X10_contract_r2 _ (gw_g 15 rfl)) (gw_c (gw_X10_contract_X10_contract_r2 _ (gw_g 16 rfl)) (gw_c (gw_X10_contract_X10_contract_r2 _ (gw_g 1 rfl)) gw_n)))) (by decide +kernel)) ggX10_contract_X10_oneLine
theorem dX10_contract_0 : decode cX10_contract 0 = .ok (.aload_n 0, 1) := by decide +kernel
theorem dX10_contract_1 : decode cX10_contract 1 = .ok (.iconst 0, 1) := by decide +kernel
theorem dX10_contract_2 : decode cX10_contract 2 = .ok (.putfield 139, 3) := by decide +kernel
theorem dX10_contract_5 : decode cX10_contract 5 = .ok (.aload_n 0, 1) := by decide +kernel
theorem dX10_contract_6 : decode cX10_contract 6 = .ok (.aload_n 0, 1) := by decide +kernel
theorem dX10_contract_7 : decode cX10_contract 7 = .ok (.getfield 209, 3) := by decide +kernel
theorem dX10_contract_10 : decode cX10_contract 10 = .ok (.putfield 219, 3) := by decide +kernel
theorem dX10_contract_13 : decode cX10_contract 13 = .ok (.aload_n 0, 1) := by decide +kernel
theorem dX10_contract_14 : decode cX10_contract 14 = .ok (.iconst 0, 1) := by decide +kernel
theorem dX10_contract_15 : decode cX10_contract 15 = .ok (.putfield 209, 3) := by decide +kernel
theorem dX10_contract_18 : decode cX10_contract 18 = .ok (.aload_n 0, 1) := by decide +kernel
theorem dX10_contract_19 : decode cX10_contract 19 = .ok (.iconst 0, 1) := by decide +kernel
theorem dX10_contract_20 : decode cX10_contract 20 = .ok (.putfield 216, 3) := by decide +kernel
theorem dX10_contract_23 : decode cX10_contract 23 = .ok (.aload_n 0, 1) := by decide +kernel
theorem dX10_contract_24 : decode cX10_contract 24 = .ok (.iconst 0, 1) := by decide +kernel
theorem dX10_contract_25 : decode cX10_contract 25 = .ok (.putfield 238, 3) := by decide +kernel
theorem dX10_contract_28 : decode cX10_contract 28 = .ok (.aload_n 0, 1) := by decide +kernel
theorem dX10_contract_29 : decode cX10_contract 29 = .ok (.iconst (-1), 1) := by decide +kernel
theorem dX10_contract_30 : decode cX10_contract 30 = .ok (.putfield 113, 3) := by decide +kernel
theorem dX10_contract_33 : decode cX10_contract 33 = .ok (.aload_n 0, 1) := by decide +kernel
theorem dX10_contract_34 : decode cX10_contract 34 = .ok (.iconst (-1), 1) := by decide +kernel
theorem dX10_contract_35 : decode cX10_contract 35 = .ok (.putfield 241, 3) := by decide +kernel
theorem dX10_contract_38 : decode cX10_contract 38 = .ok (.aload_n 0, 1) := by decide +kernel
theorem dX10_contract_39 : decode cX10_contract 39 = .ok (.iconst 0, 1) := by decide +kernel
theorem dX10_contract_40 : decode cX10_contract 40 = .ok (.putfield 254, 3) := by decide +kernel
theorem dX10_contract_43 : decode cX10_contract 43 = .ok (.iconst 1, 1) := by decide +kernel
theorem dX10_contract_44 : decode cX10_contract 44 = .ok (.istore_n 1, 1) := by decide +kernel
theorem dX10_contract_45 : decode cX10_contract 45 = .ok (.aload_n 0, 1) := by decide +kernel
theorem dX10_contract_46 : decode cX10_contract 46 = .ok (.invokevirtual 251, 3) := by decide +kernel
theorem dX10_contract_49 : decode cX10_contract 49 = .ok (.iload_n 1, 1) := by decide +kernel
theorem dX10_contract_50 : decode cX10_contract 50 = .ok (.ifCond .eq 18, 3) := by decide +kernel
theorem dX10_contract_53 : decode cX10_contract 53 = .ok (.aload_n 0, 1) := by decide +kernel
theorem dX10_contract_54 : decode cX10_contract 54 = .ok (.getfield 235, 3) := by decide +kernel
theorem dX10_contract_57 : decode cX10_contract 57 = .ok (.ifCond .eq 11, 3) := by decide +kernel
theorem dX10_contract_60 : decode cX10_contract 60 = .ok (.aload_n 0, 1) := by decide +kernel
theorem dX10_contract_61 : decode cX10_contract 61 = .ok (.invokevirtual 294, 3) := by decide +kernel
theorem dX10_contract_64 : decode cX10_contract 64 = .ok (.istore_n 1, 1) := by decide +kernel
theorem dX10_contract_65 : decode cX10_contract 65 = .ok (.goto (-16), 3) := by decide +kernel
theorem dX10_contract_68 : decode cX10_contract 68 = .ok (.aload_n 0, 1) := by decide +kernel
theorem dX10_contract_69 : decode cX10_contract 69 = .ok (.getfield 238, 3) := by decide +kernel
theorem dX10_contract_72 : decode cX10_contract 72 = .ok (.ifCond .ne 24, 3) := by decide +kernel
theorem dX10_contract_75 : decode cX10_contract 75 = .ok (.aload_n 0, 1) := by decide +kernel
theorem dX10_contract_76 : decode cX10_contract 76 = .ok (.getfield 241, 3) := by decide +kernel
theorem dX10_contract_79 : decode cX10_contract 79 = .ok (.iconst (-1), 1) := by decide +kernel
theorem dX10_contract_80 : decode cX10_contract 80 = .ok (.if_icmp .eq 16, 3) := by decide +kernel
theorem dX10_contract_83 : decode cX10_contract 83 = .ok (.aload_n 0, 1) := by decide +kernel
theorem dX10_contract_84 : decode cX10_contract 84 = .ok (.iconst 3, 1) := by decide +kernel
theorem dX10_contract_85 : decode cX10_contract 85 = .ok (.putfield 238, 3) := by decide +kernel
theorem dX10_contract_88 : decode cX10_contract 88 = .ok (.aload_n 0, 1) := by decide +kernel
theorem dX10_contract_89 : decode cX10_contract 89 = .ok (.aload_n 0, 1) := by decide +kernel
theorem dX10_contract_90 : decode cX10_contract 90 = .ok (.getfield 241, 3) := by decide +kernel
theorem dX10_contract_93 : decode cX10_contract 93 = .ok (.putfield 113, 3) := by decide +kernel
theorem dX10_contract_96 : decode cX10_contract 96 = .ok (.aload_n 0, 1) := by decide +kernel
theorem dX10_contract_97 : decode cX10_contract 97 = .ok (.getfield 238, 3) := by decide +kernel
theorem dX10_contract_100 : decode cX10_contract 100 = .ok (.ifCond .le 5, 3) := by decide +kernel
theorem dX10_contract_103 : decode cX10_contract 103 = .ok (.iconst (-1), 1) := by decide +kernel
theorem dX10_contract_104 : decode cX10_contract 104 = .ok (.ireturn, 1) := by decide +kernel
theorem dX10_contract_105 : decode cX10_contract 105 = .ok (.aload_n 0, 1) := by decide +kernel
theorem dX10_contract_106 : decode cX10_contract 106 = .ok (.getfield 86, 3) := by decide +kernel
theorem dX10_contract_109 : decode cX10_contract 109 = .ok (.iconst 0, 1) := by decide +kernel
theorem dX10_contract_110 : decode cX10_contract 110 = .ok (.aload_n 0, 1) := by decide +kernel
theorem dX10_contract_111 : decode cX10_contract 111 = .ok (.getfield 254, 3) := by decide +kernel
theorem dX10_contract_114 : decode cX10_contract 114 = .ok (.iastore, 1) := by decide +kernel
theorem dX10_contract_115 : decode cX10_contract 115 = .ok (.iconst 0, 1) := by decide +kernel
theorem dX10_contract_116 : decode cX10_contract 116 = .ok (.istore_n 2, 1) := by decide +kernel
theorem dX10_contract_117 : decode cX10_contract 117 = .ok (.iload_n 2, 1) := by decide +kernel
theorem dX10_contract_118 : decode cX10_contract 118 = .ok (.aload_n 0, 1) := by decide +kernel
theorem dX10_contract_119 : decode cX10_contract 119 = .ok (.getfield 254, 3) := by decide +kernel
theorem dX10_contract_122 : decode cX10_contract 122 = .ok (.if_icmp .ge 105, 3) := by decide +kernel
theorem dX10_contract_125 : decode cX10_contract 125 = .ok (.aload_n 0, 1) := by decide +kernel
theorem dX10_contract_126 : decode cX10_contract 126 = .ok (.getfield 89, 3) := by decide +kernel
theorem dX10_contract_129 : decode cX10_contract 129 = .ok (.iload_n 2, 1) := by decide +kernel
