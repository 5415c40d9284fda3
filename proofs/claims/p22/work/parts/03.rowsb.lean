theorem dX1_copyFrom_14 : decode cX1_copyFrom 14 = .ok (.getfield 9, 3) := by decide +kernel
theorem dX1_copyFrom_17 : decode cX1_copyFrom 17 = .ok (.iconst 0, 1) := by decide +kernel
theorem dX1_copyFrom_18 : decode cX1_copyFrom 18 = .ok (.aload_n 0, 1) := by decide +kernel
theorem dX1_copyFrom_19 : decode cX1_copyFrom 19 = .ok (.getfield 33, 3) := by decide +kernel
theorem dX1_copyFrom_22 : decode cX1_copyFrom 22 = .ok (.invokestatic 37, 3) := by decide +kernel
theorem dX1_copyFrom_25 : decode cX1_copyFrom 25 = .ok (.aload_n 1, 1) := by decide +kernel
theorem dX1_copyFrom_26 : decode cX1_copyFrom 26 = .ok (.getfield 15, 3) := by decide +kernel
theorem dX1_copyFrom_29 : decode cX1_copyFrom 29 = .ok (.iconst 0, 1) := by decide +kernel
theorem dX1_copyFrom_30 : decode cX1_copyFrom 30 = .ok (.aload_n 0, 1) := by decide +kernel
theorem dX1_copyFrom_31 : decode cX1_copyFrom 31 = .ok (.getfield 15, 3) := by decide +kernel
theorem dX1_copyFrom_34 : decode cX1_copyFrom 34 = .ok (.iconst 0, 1) := by decide +kernel
theorem dX1_copyFrom_35 : decode cX1_copyFrom 35 = .ok (.aload_n 0, 1) := by decide +kernel
theorem dX1_copyFrom_36 : decode cX1_copyFrom 36 = .ok (.getfield 33, 3) := by decide +kernel
theorem dX1_copyFrom_39 : decode cX1_copyFrom 39 = .ok (.invokestatic 37, 3) := by decide +kernel
theorem dX1_copyFrom_42 : decode cX1_copyFrom 42 = .ok (.aload_n 1, 1) := by decide +kernel
theorem dX1_copyFrom_43 : decode cX1_copyFrom 43 = .ok (.getfield 18, 3) := by decide +kernel
theorem dX1_copyFrom_46 : decode cX1_copyFrom 46 = .ok (.iconst 0, 1) := by decide +kernel
theorem dX1_copyFrom_47 : decode cX1_copyFrom 47 = .ok (.aload_n 0, 1) := by decide +kernel
theorem dX1_copyFrom_48 : decode cX1_copyFrom 48 = .ok (.getfield 18, 3) := by decide +kernel
theorem dX1_copyFrom_51 : decode cX1_copyFrom 51 = .ok (.iconst 0, 1) := by decide +kernel
theorem dX1_copyFrom_52 : decode cX1_copyFrom 52 = .ok (.aload_n 0, 1) := by decide +kernel
theorem dX1_copyFrom_53 : decode cX1_copyFrom 53 = .ok (.getfield 33, 3) := by decide +kernel
theorem dX1_copyFrom_56 : decode cX1_copyFrom 56 = .ok (.invokestatic 37, 3) := by decide +kernel
theorem dX1_copyFrom_59 : decode cX1_copyFrom 59 = .ok (.aload_n 1, 1) := by decide +kernel
theorem dX1_copyFrom_60 : decode cX1_copyFrom 60 = .ok (.getfield 21, 3) := by decide +kernel
theorem dX1_copyFrom_63 : decode cX1_copyFrom 63 = .ok (.iconst 0, 1) := by decide +kernel
theorem dX1_copyFrom_64 : decode cX1_copyFrom 64 = .ok (.aload_n 0, 1) := by decide +kernel
theorem dX1_copyFrom_65 : decode cX1_copyFrom 65 = .ok (.getfield 21, 3) := by decide +kernel
theorem dX1_copyFrom_68 : decode cX1_copyFrom 68 = .ok (.iconst 0, 1) := by decide +kernel
theorem dX1_copyFrom_69 : decode cX1_copyFrom 69 = .ok (.aload_n 0, 1) := by decide +kernel
theorem dX1_copyFrom_70 : decode cX1_copyFrom 70 = .ok (.getfield 33, 3) := by decide +kernel
theorem dX1_copyFrom_73 : decode cX1_copyFrom 73 = .ok (.invokestatic 37, 3) := by decide +kernel
theorem dX1_copyFrom_76 : decode cX1_copyFrom 76 = .ok (.aload_n 1, 1) := by decide +kernel
theorem dX1_copyFrom_77 : decode cX1_copyFrom 77 = .ok (.getfield 24, 3) := by decide +kernel
theorem dX1_copyFrom_80 : decode cX1_copyFrom 80 = .ok (.iconst 0, 1) := by decide +kernel
theorem dX1_copyFrom_81 : decode cX1_copyFrom 81 = .ok (.aload_n 0, 1) := by decide +kernel
theorem dX1_copyFrom_82 : decode cX1_copyFrom 82 = .ok (.getfield 24, 3) := by decide +kernel
theorem dX1_copyFrom_85 : decode cX1_copyFrom 85 = .ok (.iconst 0, 1) := by decide +kernel
theorem dX1_copyFrom_86 : decode cX1_copyFrom 86 = .ok (.aload_n 0, 1) := by decide +kernel
theorem dX1_copyFrom_87 : decode cX1_copyFrom 87 = .ok (.getfield 33, 3) := by decide +kernel
theorem dX1_copyFrom_90 : decode cX1_copyFrom 90 = .ok (.invokestatic 37, 3) := by decide +kernel
theorem dX1_copyFrom_93 : decode cX1_copyFrom 93 = .ok (.aload_n 1, 1) := by decide +kernel
theorem dX1_copyFrom_94 : decode cX1_copyFrom 94 = .ok (.getfield 27, 3) := by decide +kernel
theorem dX1_copyFrom_97 : decode cX1_copyFrom 97 = .ok (.iconst 0, 1) := by decide +kernel
theorem dX1_copyFrom_98 : decode cX1_copyFrom 98 = .ok (.aload_n 0, 1) := by decide +kernel
theorem dX1_copyFrom_99 : decode cX1_copyFrom 99 = .ok (.getfield 27, 3) := by decide +kernel
theorem dX1_copyFrom_102 : decode cX1_copyFrom 102 = .ok (.iconst 0, 1) := by decide +kernel
theorem dX1_copyFrom_103 : decode cX1_copyFrom 103 = .ok (.aload_n 0, 1) := by decide +kernel
theorem dX1_copyFrom_104 : decode cX1_copyFrom 104 = .ok (.getfield 33, 3) := by decide +kernel
theorem dX1_copyFrom_107 : decode cX1_copyFrom 107 = .ok (.invokestatic 37, 3) := by decide +kernel
theorem dX1_copyFrom_110 : decode cX1_copyFrom 110 = .ok (.aload_n 1, 1) := by decide +kernel
theorem dX1_copyFrom_111 : decode cX1_copyFrom 111 = .ok (.getfield 30, 3) := by decide +kernel
theorem dX1_copyFrom_114 : decode cX1_copyFrom 114 = .ok (.iconst 0, 1) := by decide +kernel
theorem dX1_copyFrom_115 : decode cX1_copyFrom 115 = .ok (.aload_n 0, 1) := by decide +kernel
theorem dX1_copyFrom_116 : decode cX1_copyFrom 116 = .ok (.getfield 30, 3) := by decide +kernel
theorem dX1_copyFrom_119 : decode cX1_copyFrom 119 = .ok (.iconst 0, 1) := by decide +kernel
theorem dX1_copyFrom_120 : decode cX1_copyFrom 120 = .ok (.aload_n 0, 1) := by decide +kernel
theorem dX1_copyFrom_121 : decode cX1_copyFrom 121 = .ok (.getfield 33, 3) := by decide +kernel
theorem dX1_copyFrom_124 : decode cX1_copyFrom 124 = .ok (.invokestatic 37, 3) := by decide +kernel
theorem dX1_copyFrom_127 : decode cX1_copyFrom 127 = .ok (.return_, 1) := by decide +kernel
theorem dX2_init_0 : decode cX2_init 0 = .ok (.aload_n 0, 1) := by decide +kernel
theorem dX2_init_1 : decode cX2_init 1 = .ok (.invokespecial 3, 3) := by decide +kernel
theorem dX2_init_4 : decode cX2_init 4 = .ok (.aload_n 0, 1) := by decide +kernel
theorem dX2_init_5 : decode cX2_init 5 = .ok (.bipush 16, 2) := by decide +kernel
theorem dX2_init_7 : decode cX2_init 7 = .ok (.newarray .int, 2) := by decide +kernel
theorem dX2_init_9 : decode cX2_init 9 = .ok (.putfield 9, 3) := by decide +kernel
theorem dX2_init_12 : decode cX2_init 12 = .ok (.aload_n 0, 1) := by decide +kernel
theorem dX2_init_13 : decode cX2_init 13 = .ok (.bipush 16, 2) := by decide +kernel
theorem dX2_init_15 : decode cX2_init 15 = .ok (.newarray .int, 2) := by decide +kernel
theorem dX2_init_17 : decode cX2_init 17 = .ok (.putfield 15, 3) := by decide +kernel
theorem dX2_init_20 : decode cX2_init 20 = .ok (.aload_n 0, 1) := by decide +kernel
theorem dX2_init_21 : decode cX2_init 21 = .ok (.bipush 16, 2) := by decide +kernel
theorem dX2_init_23 : decode cX2_init 23 = .ok (.newarray .int, 2) := by decide +kernel
theorem dX2_init_25 : decode cX2_init 25 = .ok (.putfield 18, 3) := by decide +kernel
theorem dX2_init_28 : decode cX2_init 28 = .ok (.aload_n 0, 1) := by decide +kernel
theorem dX2_init_29 : decode cX2_init 29 = .ok (.bipush 64, 2) := by decide +kernel
theorem dX2_init_31 : decode cX2_init 31 = .ok (.newarray .int, 2) := by decide +kernel
theorem dX2_init_33 : decode cX2_init 33 = .ok (.putfield 21, 3) := by decide +kernel
theorem dX2_init_36 : decode cX2_init 36 = .ok (.aload_n 0, 1) := by decide +kernel
theorem dX2_init_37 : decode cX2_init 37 = .ok (.bipush 64, 2) := by decide +kernel
theorem dX2_init_39 : decode cX2_init 39 = .ok (.newarray .int, 2) := by decide +kernel
theorem dX2_init_41 : decode cX2_init 41 = .ok (.putfield 24, 3) := by decide +kernel
theorem dX2_init_44 : decode cX2_init 44 = .ok (.aload_n 0, 1) := by decide +kernel
theorem dX2_init_45 : decode cX2_init 45 = .ok (.bipush 64, 2) := by decide +kernel
theorem dX2_init_47 : decode cX2_init 47 = .ok (.newarray .int, 2) := by decide +kernel
theorem dX2_init_49 : decode cX2_init 49 = .ok (.putfield 27, 3) := by decide +kernel
theorem dX2_init_52 : decode cX2_init 52 = .ok (.aload_n 0, 1) := by decide +kernel
theorem dX2_init_53 : decode cX2_init 53 = .ok (.bipush 64, 2) := by decide +kernel
theorem dX2_init_55 : decode cX2_init 55 = .ok (.newarray .int, 2) := by decide +kernel
theorem dX2_init_57 : decode cX2_init 57 = .ok (.putfield 30, 3) := by decide +kernel
theorem dX2_init_60 : decode cX2_init 60 = .ok (.return_, 1) := by decide +kernel
set_option maxRecDepth 20000 in
theorem ggX2_clear_J7_fill_53178 : GoodIn wsX2_clear wsJ7_fill_53178 := goodIn_sub (gw_c (gw_t (gw_l (gw_g 5 rfl))) gw_n) (by decide +kernel)
set_option maxRecDepth 20000 in
theorem gX2_clear_J7_fill_53178 : GoodIn wsX2_clear (va_wsS RX2 37 yJ7_fill_53178 wsJ7_fill_53178) := goodIn_app (goodIn_sub (gw_c (gw_t (gw_l (gw_g 2 rfl))) (gw_c (gw_t (gw_l (gw_g 3 rfl))) (gw_c (gw_t (gw_l (gw_g 4 rfl))) gw_n))) (by decide +kernel)) ggX2_clear_J7_fill_53178
theorem dX2_clear_0 : decode cX2_clear 0 = .ok (.aload_n 0, 1) := by decide +kernel
theorem dX2_clear_1 : decode cX2_clear 1 = .ok (.iconst 0, 1) := by decide +kernel
theorem dX2_clear_2 : decode cX2_clear 2 = .ok (.putfield 33, 3) := by decide +kernel
theorem dX2_clear_5 : decode cX2_clear 5 = .ok (.aload_n 0, 1) := by decide +kernel
theorem dX2_clear_6 : decode cX2_clear 6 = .ok (.getfield 18, 3) := by decide +kernel
theorem dX2_clear_9 : decode cX2_clear 9 = .ok (.iconst 0, 1) := by decide +kernel
theorem dX2_clear_10 : decode cX2_clear 10 = .ok (.invokestatic 37, 3) := by decide +kernel
theorem dX2_clear_13 : decode cX2_clear 13 = .ok (.return_, 1) := by decide +kernel
theorem dX2_addTest_0 : decode cX2_addTest 0 = .ok (.aload_n 0, 1) := by decide +kernel
theorem dX2_addTest_1 : decode cX2_addTest 1 = .ok (.getfield 33, 3) := by decide +kernel
theorem dX2_addTest_4 : decode cX2_addTest 4 = .ok (.bipush 16, 2) := by decide +kernel
theorem dX2_addTest_6 : decode cX2_addTest 6 = .ok (.if_icmp .ge 16, 3) := by decide +kernel
theorem dX2_addTest_9 : decode cX2_addTest 9 = .ok (.aload_n 0, 1) := by decide +kernel
theorem dX2_addTest_10 : decode cX2_addTest 10 = .ok (.getfield 18, 3) := by decide +kernel
theorem dX2_addTest_13 : decode cX2_addTest 13 = .ok (.aload_n 0, 1) := by decide +kernel
theorem dX2_addTest_14 : decode cX2_addTest 14 = .ok (.getfield 33, 3) := by decide +kernel
theorem dX2_addTest_17 : decode cX2_addTest 17 = .ok (.iaload, 1) := by decide +kernel
theorem dX2_addTest_18 : decode cX2_addTest 18 = .ok (.iconst 4, 1) := by decide +kernel
theorem dX2_addTest_19 : decode cX2_addTest 19 = .ok (.if_icmp .lt 4, 3) := by decide +kernel
theorem dX2_addTest_22 : decode cX2_addTest 22 = .ok (.return_, 1) := by decide +kernel
theorem dX2_addTest_23 : decode cX2_addTest 23 = .ok (.aload_n 0, 1) := by decide +kernel
theorem dX2_addTest_24 : decode cX2_addTest 24 = .ok (.getfield 33, 3) := by decide +kernel
theorem dX2_addTest_27 : decode cX2_addTest 27 = .ok (.iconst 4, 1) := by decide +kernel
theorem dX2_addTest_28 : decode cX2_addTest 28 = .ok (.imul, 1) := by decide +kernel
theorem dX2_addTest_29 : decode cX2_addTest 29 = .ok (.aload_n 0, 1) := by decide +kernel
theorem dX2_addTest_30 : decode cX2_addTest 30 = .ok (.getfield 18, 3) := by decide +kernel
theorem dX2_addTest_33 : decode cX2_addTest 33 = .ok (.aload_n 0, 1) := by decide +kernel
theorem dX2_addTest_34 : decode cX2_addTest 34 = .ok (.getfield 33, 3) := by decide +kernel
theorem dX2_addTest_37 : decode cX2_addTest 37 = .ok (.iaload, 1) := by decide +kernel
theorem dX2_addTest_38 : decode cX2_addTest 38 = .ok (.iadd, 1) := by decide +kernel
theorem dX2_addTest_39 : decode cX2_addTest 39 = .ok (.istore 5, 2) := by decide +kernel
theorem dX2_addTest_41 : decode cX2_addTest 41 = .ok (.aload_n 0, 1) := by decide +kernel
theorem dX2_addTest_42 : decode cX2_addTest 42 = .ok (.getfield 21, 3) := by decide +kernel
theorem dX2_addTest_45 : decode cX2_addTest 45 = .ok (.iload 5, 2) := by decide +kernel
theorem dX2_addTest_47 : decode cX2_addTest 47 = .ok (.iload_n 1, 1) := by decide +kernel
theorem dX2_addTest_48 : decode cX2_addTest 48 = .ok (.iastore, 1) := by decide +kernel
theorem dX2_addTest_49 : decode cX2_addTest 49 = .ok (.aload_n 0, 1) := by decide +kernel
theorem dX2_addTest_50 : decode cX2_addTest 50 = .ok (.getfield 24, 3) := by decide +kernel
theorem dX2_addTest_53 : decode cX2_addTest 53 = .ok (.iload 5, 2) := by decide +kernel
theorem dX2_addTest_55 : decode cX2_addTest 55 = .ok (.iload_n 2, 1) := by decide +kernel
theorem dX2_addTest_56 : decode cX2_addTest 56 = .ok (.iastore, 1) := by decide +kernel
theorem dX2_addTest_57 : decode cX2_addTest 57 = .ok (.aload_n 0, 1) := by decide +kernel
theorem dX2_addTest_58 : decode cX2_addTest 58 = .ok (.getfield 27, 3) := by decide +kernel
theorem dX2_addTest_61 : decode cX2_addTest 61 = .ok (.iload 5, 2) := by decide +kernel
theorem dX2_addTest_63 : decode cX2_addTest 63 = .ok (.iload_n 3, 1) := by decide +kernel
theorem dX2_addTest_64 : decode cX2_addTest 64 = .ok (.iastore, 1) := by decide +kernel
theorem dX2_addTest_65 : decode cX2_addTest 65 = .ok (.aload_n 0, 1) := by decide +kernel
theorem dX2_addTest_66 : decode cX2_addTest 66 = .ok (.getfield 30, 3) := by decide +kernel
theorem dX2_addTest_69 : decode cX2_addTest 69 = .ok (.iload 5, 2) := by decide +kernel
theorem dX2_addTest_71 : decode cX2_addTest 71 = .ok (.iload 4, 2) := by decide +kernel
theorem dX2_addTest_73 : decode cX2_addTest 73 = .ok (.ifCond .eq 7, 3) := by decide +kernel
theorem dX2_addTest_76 : decode cX2_addTest 76 = .ok (.iconst 1, 1) := by decide +kernel
theorem dX2_addTest_77 : decode cX2_addTest 77 = .ok (.goto 4, 3) := by decide +kernel
theorem dX2_addTest_80 : decode cX2_addTest 80 = .ok (.iconst 0, 1) := by decide +kernel
theorem dX2_addTest_81 : decode cX2_addTest 81 = .ok (.iastore, 1) := by decide +kernel
theorem dX2_addTest_82 : decode cX2_addTest 82 = .ok (.aload_n 0, 1) := by decide +kernel
theorem dX2_addTest_83 : decode cX2_addTest 83 = .ok (.getfield 18, 3) := by decide +kernel
theorem dX2_addTest_86 : decode cX2_addTest 86 = .ok (.aload_n 0, 1) := by decide +kernel
theorem dX2_addTest_87 : decode cX2_addTest 87 = .ok (.getfield 33, 3) := by decide +kernel
theorem dX2_addTest_90 : decode cX2_addTest 90 = .ok (.dup2, 1) := by decide +kernel
theorem dX2_addTest_91 : decode cX2_addTest 91 = .ok (.iaload, 1) := by decide +kernel
theorem dX2_addTest_92 : decode cX2_addTest 92 = .ok (.iconst 1, 1) := by decide +kernel
theorem dX2_addTest_93 : decode cX2_addTest 93 = .ok (.iadd, 1) := by decide +kernel
theorem dX2_addTest_94 : decode cX2_addTest 94 = .ok (.iastore, 1) := by decide +kernel
theorem dX2_addTest_95 : decode cX2_addTest 95 = .ok (.return_, 1) := by decide +kernel
theorem dX2_addLine_0 : decode cX2_addLine 0 = .ok (.aload_n 0, 1) := by decide +kernel
theorem dX2_addLine_1 : decode cX2_addLine 1 = .ok (.getfield 33, 3) := by decide +kernel
theorem dX2_addLine_4 : decode cX2_addLine 4 = .ok (.bipush 16, 2) := by decide +kernel
theorem dX2_addLine_6 : decode cX2_addLine 6 = .ok (.if_icmp .lt 4, 3) := by decide +kernel
theorem dX2_addLine_9 : decode cX2_addLine 9 = .ok (.return_, 1) := by decide +kernel
theorem dX2_addLine_10 : decode cX2_addLine 10 = .ok (.aload_n 0, 1) := by decide +kernel
theorem dX2_addLine_11 : decode cX2_addLine 11 = .ok (.getfield 9, 3) := by decide +kernel
theorem dX2_addLine_14 : decode cX2_addLine 14 = .ok (.aload_n 0, 1) := by decide +kernel
theorem dX2_addLine_15 : decode cX2_addLine 15 = .ok (.getfield 33, 3) := by decide +kernel
theorem dX2_addLine_18 : decode cX2_addLine 18 = .ok (.iload_n 1, 1) := by decide +kernel
theorem dX2_addLine_19 : decode cX2_addLine 19 = .ok (.iastore, 1) := by decide +kernel
theorem dX2_addLine_20 : decode cX2_addLine 20 = .ok (.aload_n 0, 1) := by decide +kernel
theorem dX2_addLine_21 : decode cX2_addLine 21 = .ok (.getfield 15, 3) := by decide +kernel
theorem dX2_addLine_24 : decode cX2_addLine 24 = .ok (.aload_n 0, 1) := by decide +kernel
theorem dX2_addLine_25 : decode cX2_addLine 25 = .ok (.getfield 33, 3) := by decide +kernel
theorem dX2_addLine_28 : decode cX2_addLine 28 = .ok (.iload_n 2, 1) := by decide +kernel
theorem dX2_addLine_29 : decode cX2_addLine 29 = .ok (.iastore, 1) := by decide +kernel
theorem dX2_addLine_30 : decode cX2_addLine 30 = .ok (.aload_n 0, 1) := by decide +kernel
theorem dX2_addLine_31 : decode cX2_addLine 31 = .ok (.dup, 1) := by decide +kernel
theorem dX2_addLine_32 : decode cX2_addLine 32 = .ok (.getfield 33, 3) := by decide +kernel
theorem dX2_addLine_35 : decode cX2_addLine 35 = .ok (.iconst 1, 1) := by decide +kernel
theorem dX2_addLine_36 : decode cX2_addLine 36 = .ok (.iadd, 1) := by decide +kernel
theorem dX2_addLine_37 : decode cX2_addLine 37 = .ok (.putfield 33, 3) := by decide +kernel
theorem dX2_addLine_40 : decode cX2_addLine 40 = .ok (.return_, 1) := by decide +kernel
set_option maxRecDepth 20000 in
theorem ggX2_priceOf_X2_allHold : GoodIn wsX2_priceOf wsX2_allHold := goodIn_sub (gw_c (gw_X2_priceOf_X2_priceOf_r1 _ (gw_g 7 rfl)) (gw_a (gw_c (gw_X2_priceOf_X2_priceOf_r1 _ (gw_g 8 rfl)) (gw_c (gw_X2_priceOf_X2_priceOf_r1 _ (gw_g 9 rfl)) (gw_c (gw_X2_priceOf_X2_priceOf_r1 _ (gw_g 10 rfl)) (gw_c (gw_X2_priceOf_X2_priceOf_r1 _ (gw_g 11 rfl)) (gw_c (gw_X2_priceOf_X2_priceOf_r1 _ (gw_g 6 rfl)) (gw_c (gw_X2_priceOf_X2_priceOf_r1 _ (gw_g 12 rfl)) (gw_c (gw_X2_priceOf_X2_priceOf_r1 _ (gw_g 13 rfl)) (gw_c (gw_X2_priceOf_X2_priceOf_r1 _ (gw_g 14 rfl)) (gw_c (gw_X2_priceOf_X2_priceOf_r1 _ (gw_g 15 rfl)) (gw_c (gw_X2_priceOf_X2_priceOf_r1 _ (gw_g 16 rfl)) (gw_c (gw_X2_priceOf_X2_priceOf_r1 _ (gw_g 17 rfl)) (gw_c (gw_X2_priceOf_X2_priceOf_r1 _ (gw_g 18 rfl)) (gw_c (gw_X2_priceOf_X2_priceOf_r1 _ (gw_g 19 rfl)) gw_n))))))))))))) gw_X2_priceOf_X20)) (by decide +kernel)
set_option maxRecDepth 20000 in
theorem gX2_priceOf_X2_allHold : GoodIn wsX2_priceOf (wsV RX2 43 RX2 yX2_allHold wsX2_allHold) := goodIn_app (goodIn_sub (gw_c (gw_X2_priceOf_X2_priceOf_r1 _ (gw_g 3 rfl)) (gw_c (gw_X2_priceOf_X2_priceOf_r1 _ (gw_g 4 rfl)) (gw_c (gw_X2_priceOf_X2_priceOf_r1 _ (gw_g 5 rfl)) (gw_c (gw_X2_priceOf_X2_priceOf_r1 _ (gw_g 6 rfl)) gw_n)))) (by decide +kernel)) ggX2_priceOf_X2_allHold
set_option maxRecDepth 20000 in
theorem ggX2_priceOf_X2_timesCharged : GoodIn wsX2_priceOf wsX2_timesCharged := goodIn_sub (gw_c (gw_X2_priceOf_X2_priceOf_r1 _ (gw_g 22 rfl)) (gw_c (gw_X2_priceOf_X2_priceOf_r1 _ (gw_g 23 rfl)) (gw_c (gw_X2_priceOf_X2_priceOf_r2 _ (gw_g 0 rfl)) gw_n))) (by decide +kernel)
set_option maxRecDepth 20000 in
theorem gX2_priceOf_X2_timesCharged : GoodIn wsX2_priceOf (va_wsS RX2 47 yX2_timesCharged wsX2_timesCharged) := goodIn_app (goodIn_sub (gw_c (gw_X2_priceOf_X2_priceOf_r1 _ (gw_g 20 rfl)) (gw_c (gw_X2_priceOf_X2_priceOf_r1 _ (gw_g 21 rfl)) (gw_c (gw_X2_priceOf_X2_priceOf_r1 _ (gw_g 6 rfl)) gw_n))) (by decide +kernel)) ggX2_priceOf_X2_timesCharged
theorem dX2_priceOf_0 : decode cX2_priceOf 0 = .ok (.lconst 0, 1) := by decide +kernel
theorem dX2_priceOf_1 : decode cX2_priceOf 1 = .ok (.lstore_n 2, 1) := by decide +kernel
theorem dX2_priceOf_2 : decode cX2_priceOf 2 = .ok (.iconst 0, 1) := by decide +kernel
theorem dX2_priceOf_3 : decode cX2_priceOf 3 = .ok (.istore 4, 2) := by decide +kernel
theorem dX2_priceOf_5 : decode cX2_priceOf 5 = .ok (.iload 4, 2) := by decide +kernel
theorem dX2_priceOf_7 : decode cX2_priceOf 7 = .ok (.aload_n 0, 1) := by decide +kernel
theorem dX2_priceOf_8 : decode cX2_priceOf 8 = .ok (.getfield 33, 3) := by decide +kernel
theorem dX2_priceOf_11 : decode cX2_priceOf 11 = .ok (.if_icmp .ge 42, 3) := by decide +kernel
theorem dX2_priceOf_14 : decode cX2_priceOf 14 = .ok (.aload_n 0, 1) := by decide +kernel
theorem dX2_priceOf_15 : decode cX2_priceOf 15 = .ok (.iload 4, 2) := by decide +kernel
theorem dX2_priceOf_17 : decode cX2_priceOf 17 = .ok (.aload_n 1, 1) := by decide +kernel
theorem dX2_priceOf_18 : decode cX2_priceOf 18 = .ok (.invokevirtual 43, 3) := by decide +kernel
theorem dX2_priceOf_21 : decode cX2_priceOf 21 = .ok (.ifCond .eq 26, 3) := by decide +kernel
theorem dX2_priceOf_24 : decode cX2_priceOf 24 = .ok (.lload_n 2, 1) := by decide +kernel
theorem dX2_priceOf_25 : decode cX2_priceOf 25 = .ok (.aload_n 0, 1) := by decide +kernel
theorem dX2_priceOf_26 : decode cX2_priceOf 26 = .ok (.getfield 15, 3) := by decide +kernel
theorem dX2_priceOf_29 : decode cX2_priceOf 29 = .ok (.iload 4, 2) := by decide +kernel
theorem dX2_priceOf_31 : decode cX2_priceOf 31 = .ok (.iaload, 1) := by decide +kernel
theorem dX2_priceOf_32 : decode cX2_priceOf 32 = .ok (.i2l, 1) := by decide +kernel
theorem dX2_priceOf_33 : decode cX2_priceOf 33 = .ok (.aload_n 0, 1) := by decide +kernel
theorem dX2_priceOf_34 : decode cX2_priceOf 34 = .ok (.getfield 9, 3) := by decide +kernel
theorem dX2_priceOf_37 : decode cX2_priceOf 37 = .ok (.iload 4, 2) := by decide +kernel
theorem dX2_priceOf_39 : decode cX2_priceOf 39 = .ok (.iaload, 1) := by decide +kernel
theorem dX2_priceOf_40 : decode cX2_priceOf 40 = .ok (.aload_n 1, 1) := by decide +kernel
theorem dX2_priceOf_41 : decode cX2_priceOf 41 = .ok (.invokestatic 47, 3) := by decide +kernel
theorem dX2_priceOf_44 : decode cX2_priceOf 44 = .ok (.lmul, 1) := by decide +kernel
theorem dX2_priceOf_45 : decode cX2_priceOf 45 = .ok (.ladd, 1) := by decide +kernel
theorem dX2_priceOf_46 : decode cX2_priceOf 46 = .ok (.lstore_n 2, 1) := by decide +kernel
theorem dX2_priceOf_47 : decode cX2_priceOf 47 = .ok (.iinc 4 1, 3) := by decide +kernel
theorem dX2_priceOf_50 : decode cX2_priceOf 50 = .ok (.goto (-45), 3) := by decide +kernel
theorem dX2_priceOf_53 : decode cX2_priceOf 53 = .ok (.lload_n 2, 1) := by decide +kernel
theorem dX2_priceOf_54 : decode cX2_priceOf 54 = .ok (.lreturn, 1) := by decide +kernel
set_option maxRecDepth 20000 in
theorem ggX2_allHold_X2_holds : GoodIn wsX2_allHold wsX2_holds := goodIn_sub (gw_c (gw_t (gw_l (gw_g 5 rfl))) (gw_a (gw_c (gw_t (gw_l (gw_g 6 rfl))) (gw_c (gw_t (gw_l (gw_g 7 rfl))) (gw_c (gw_t (gw_l (gw_g 8 rfl))) (gw_c (gw_t (gw_l (gw_g 9 rfl))) (gw_c (gw_t (gw_l (gw_g 10 rfl))) (gw_c (gw_t (gw_l (gw_g 11 rfl))) (gw_c (gw_t (gw_l (gw_g 4 rfl))) (gw_c (gw_t (gw_l (gw_g 12 rfl))) gw_n)))))))) gw_X2_allHold_X20)) (by decide +kernel)
set_option maxRecDepth 20000 in
theorem gX2_allHold_X2_holds : GoodIn wsX2_allHold (wsV RX2 51 RX2 yX2_holds wsX2_holds) := goodIn_app (goodIn_sub (gw_c (gw_t (gw_l (gw_g 1 rfl))) (gw_c (gw_t (gw_l (gw_g 2 rfl))) (gw_c (gw_t (gw_l (gw_g 3 rfl))) (gw_c (gw_t (gw_l (gw_g 4 rfl))) gw_n)))) (by decide +kernel)) ggX2_allHold_X2_holds
theorem dX2_allHold_0 : decode cX2_allHold 0 = .ok (.iconst 0, 1) := by decide +kernel
theorem dX2_allHold_1 : decode cX2_allHold 1 = .ok (.istore_n 3, 1) := by decide +kernel
theorem dX2_allHold_2 : decode cX2_allHold 2 = .ok (.iload_n 3, 1) := by decide +kernel
theorem dX2_allHold_3 : decode cX2_allHold 3 = .ok (.aload_n 0, 1) := by decide +kernel
theorem dX2_allHold_4 : decode cX2_allHold 4 = .ok (.getfield 18, 3) := by decide +kernel
theorem dX2_allHold_7 : decode cX2_allHold 7 = .ok (.iload_n 1, 1) := by decide +kernel
theorem dX2_allHold_8 : decode cX2_allHold 8 = .ok (.iaload, 1) := by decide +kernel
theorem dX2_allHold_9 : decode cX2_allHold 9 = .ok (.if_icmp .ge 24, 3) := by decide +kernel
theorem dX2_allHold_12 : decode cX2_allHold 12 = .ok (.aload_n 0, 1) := by decide +kernel
theorem dX2_allHold_13 : decode cX2_allHold 13 = .ok (.iload_n 1, 1) := by decide +kernel
theorem dX2_allHold_14 : decode cX2_allHold 14 = .ok (.iconst 4, 1) := by decide +kernel
theorem dX2_allHold_15 : decode cX2_allHold 15 = .ok (.imul, 1) := by decide +kernel
theorem dX2_allHold_16 : decode cX2_allHold 16 = .ok (.iload_n 3, 1) := by decide +kernel
theorem dX2_allHold_17 : decode cX2_allHold 17 = .ok (.iadd, 1) := by decide +kernel
theorem dX2_allHold_18 : decode cX2_allHold 18 = .ok (.aload_n 2, 1) := by decide +kernel
theorem dX2_allHold_19 : decode cX2_allHold 19 = .ok (.invokevirtual 51, 3) := by decide +kernel
theorem dX2_allHold_22 : decode cX2_allHold 22 = .ok (.ifCond .ne 5, 3) := by decide +kernel
theorem dX2_allHold_25 : decode cX2_allHold 25 = .ok (.iconst 0, 1) := by decide +kernel
theorem dX2_allHold_26 : decode cX2_allHold 26 = .ok (.ireturn, 1) := by decide +kernel
theorem dX2_allHold_27 : decode cX2_allHold 27 = .ok (.iinc 3 1, 3) := by decide +kernel
theorem dX2_allHold_30 : decode cX2_allHold 30 = .ok (.goto (-28), 3) := by decide +kernel
theorem dX2_allHold_33 : decode cX2_allHold 33 = .ok (.iconst 1, 1) := by decide +kernel
theorem dX2_allHold_34 : decode cX2_allHold 34 = .ok (.ireturn, 1) := by decide +kernel
set_option maxRecDepth 20000 in
theorem ggX2_holds_X2_compares : GoodIn wsX2_holds wsX2_compares := goodIn_sub (gw_c (gw_t (gw_l (gw_g 7 rfl))) gw_n) (by decide +kernel)
set_option maxRecDepth 20000 in
theorem gX2_holds_X2_compares : GoodIn wsX2_holds (va_wsS RX2 54 yX2_compares wsX2_compares) := goodIn_app (goodIn_sub (gw_c (gw_t (gw_l (gw_g 4 rfl))) (gw_c (gw_t (gw_l (gw_g 5 rfl))) (gw_c (gw_t (gw_l (gw_g 6 rfl))) gw_n))) (by decide +kernel)) ggX2_holds_X2_compares
theorem dX2_holds_0 : decode cX2_holds 0 = .ok (.aload_n 2, 1) := by decide +kernel
theorem dX2_holds_1 : decode cX2_holds 1 = .ok (.aload_n 0, 1) := by decide +kernel
theorem dX2_holds_2 : decode cX2_holds 2 = .ok (.getfield 21, 3) := by decide +kernel
theorem dX2_holds_5 : decode cX2_holds 5 = .ok (.iload_n 1, 1) := by decide +kernel
theorem dX2_holds_6 : decode cX2_holds 6 = .ok (.iaload, 1) := by decide +kernel
theorem dX2_holds_7 : decode cX2_holds 7 = .ok (.iaload, 1) := by decide +kernel
theorem dX2_holds_8 : decode cX2_holds 8 = .ok (.aload_n 0, 1) := by decide +kernel
theorem dX2_holds_9 : decode cX2_holds 9 = .ok (.getfield 24, 3) := by decide +kernel
theorem dX2_holds_12 : decode cX2_holds 12 = .ok (.iload_n 1, 1) := by decide +kernel
theorem dX2_holds_13 : decode cX2_holds 13 = .ok (.iaload, 1) := by decide +kernel
theorem dX2_holds_14 : decode cX2_holds 14 = .ok (.aload_n 0, 1) := by decide +kernel
theorem dX2_holds_15 : decode cX2_holds 15 = .ok (.getfield 27, 3) := by decide +kernel
theorem dX2_holds_18 : decode cX2_holds 18 = .ok (.iload_n 1, 1) := by decide +kernel
theorem dX2_holds_19 : decode cX2_holds 19 = .ok (.iaload, 1) := by decide +kernel
theorem dX2_holds_20 : decode cX2_holds 20 = .ok (.invokestatic 54, 3) := by decide +kernel
theorem dX2_holds_23 : decode cX2_holds 23 = .ok (.istore_n 3, 1) := by decide +kernel
theorem dX2_holds_24 : decode cX2_holds 24 = .ok (.iload_n 3, 1) := by decide +kernel
theorem dX2_holds_25 : decode cX2_holds 25 = .ok (.aload_n 0, 1) := by decide +kernel
theorem dX2_holds_26 : decode cX2_holds 26 = .ok (.getfield 30, 3) := by decide +kernel
theorem dX2_holds_29 : decode cX2_holds 29 = .ok (.iload_n 1, 1) := by decide +kernel
theorem dX2_holds_30 : decode cX2_holds 30 = .ok (.iaload, 1) := by decide +kernel
theorem dX2_holds_31 : decode cX2_holds 31 = .ok (.iconst 1, 1) := by decide +kernel
theorem dX2_holds_32 : decode cX2_holds 32 = .ok (.if_icmp .ne 7, 3) := by decide +kernel
theorem dX2_holds_35 : decode cX2_holds 35 = .ok (.iconst 1, 1) := by decide +kernel
theorem dX2_holds_36 : decode cX2_holds 36 = .ok (.goto 4, 3) := by decide +kernel
theorem dX2_holds_39 : decode cX2_holds 39 = .ok (.iconst 0, 1) := by decide +kernel
theorem dX2_holds_40 : decode cX2_holds 40 = .ok (.if_icmp .eq 7, 3) := by decide +kernel
theorem dX2_holds_43 : decode cX2_holds 43 = .ok (.iconst 1, 1) := by decide +kernel
theorem dX2_holds_44 : decode cX2_holds 44 = .ok (.goto 4, 3) := by decide +kernel
theorem dX2_holds_47 : decode cX2_holds 47 = .ok (.iconst 0, 1) := by decide +kernel
theorem dX2_holds_48 : decode cX2_holds 48 = .ok (.ireturn, 1) := by decide +kernel
theorem dX2_compares_0 : decode cX2_compares 0 = .ok (.iload_n 1, 1) := by decide +kernel
theorem dX2_compares_1 : decode cX2_compares 1 = .ok (.bipush 15, 2) := by decide +kernel
theorem dX2_compares_3 : decode cX2_compares 3 = .ok (.if_icmp .ne 14, 3) := by decide +kernel
theorem dX2_compares_6 : decode cX2_compares 6 = .ok (.iload_n 0, 1) := by decide +kernel
theorem dX2_compares_7 : decode cX2_compares 7 = .ok (.iload_n 2, 1) := by decide +kernel
theorem dX2_compares_8 : decode cX2_compares 8 = .ok (.if_icmp .ge 7, 3) := by decide +kernel
theorem dX2_compares_11 : decode cX2_compares 11 = .ok (.iconst 1, 1) := by decide +kernel
theorem dX2_compares_12 : decode cX2_compares 12 = .ok (.goto 4, 3) := by decide +kernel
theorem dX2_compares_15 : decode cX2_compares 15 = .ok (.iconst 0, 1) := by decide +kernel
theorem dX2_compares_16 : decode cX2_compares 16 = .ok (.ireturn, 1) := by decide +kernel
theorem dX2_compares_17 : decode cX2_compares 17 = .ok (.iload_n 1, 1) := by decide +kernel
theorem dX2_compares_18 : decode cX2_compares 18 = .ok (.bipush 16, 2) := by decide +kernel
theorem dX2_compares_20 : decode cX2_compares 20 = .ok (.if_icmp .ne 16, 3) := by decide +kernel
theorem dX2_compares_23 : decode cX2_compares 23 = .ok (.iload_n 0, 1) := by decide +kernel
theorem dX2_compares_24 : decode cX2_compares 24 = .ok (.iload_n 2, 1) := by decide +kernel
theorem dX2_compares_25 : decode cX2_compares 25 = .ok (.if_icmp .le 7, 3) := by decide +kernel
theorem dX2_compares_28 : decode cX2_compares 28 = .ok (.iconst 1, 1) := by decide +kernel
theorem dX2_compares_29 : decode cX2_compares 29 = .ok (.goto 17, 3) := by decide +kernel
theorem dX2_compares_32 : decode cX2_compares 32 = .ok (.iconst 0, 1) := by decide +kernel
theorem dX2_compares_33 : decode cX2_compares 33 = .ok (.goto 13, 3) := by decide +kernel
theorem dX2_compares_36 : decode cX2_compares 36 = .ok (.iload_n 0, 1) := by decide +kernel
theorem dX2_compares_37 : decode cX2_compares 37 = .ok (.iload_n 2, 1) := by decide +kernel
theorem dX2_compares_38 : decode cX2_compares 38 = .ok (.if_icmp .ne 7, 3) := by decide +kernel
theorem dX2_compares_41 : decode cX2_compares 41 = .ok (.iconst 1, 1) := by decide +kernel
theorem dX2_compares_42 : decode cX2_compares 42 = .ok (.goto 4, 3) := by decide +kernel
theorem dX2_compares_45 : decode cX2_compares 45 = .ok (.iconst 0, 1) := by decide +kernel
theorem dX2_compares_46 : decode cX2_compares 46 = .ok (.ireturn, 1) := by decide +kernel
theorem dX2_timesCharged_0 : decode cX2_timesCharged 0 = .ok (.iload_n 0, 1) := by decide +kernel
theorem dX2_timesCharged_1 : decode cX2_timesCharged 1 = .ok (.tableswitch 49 8 11 #[31, 40, 49, 45], 31) := by decide +kernel
theorem dX2_timesCharged_32 : decode cX2_timesCharged 32 = .ok (.ldc2_w 58, 3) := by decide +kernel
theorem dX2_timesCharged_35 : decode cX2_timesCharged 35 = .ok (.aload_n 1, 1) := by decide +kernel
theorem dX2_timesCharged_36 : decode cX2_timesCharged 36 = .ok (.iconst 1, 1) := by decide +kernel
theorem dX2_timesCharged_37 : decode cX2_timesCharged 37 = .ok (.iaload, 1) := by decide +kernel
theorem dX2_timesCharged_38 : decode cX2_timesCharged 38 = .ok (.i2l, 1) := by decide +kernel
theorem dX2_timesCharged_39 : decode cX2_timesCharged 39 = .ok (.lmul, 1) := by decide +kernel
theorem dX2_timesCharged_40 : decode cX2_timesCharged 40 = .ok (.lreturn, 1) := by decide +kernel
theorem dX2_timesCharged_41 : decode cX2_timesCharged 41 = .ok (.aload_n 1, 1) := by decide +kernel
theorem dX2_timesCharged_42 : decode cX2_timesCharged 42 = .ok (.iconst 3, 1) := by decide +kernel
theorem dX2_timesCharged_43 : decode cX2_timesCharged 43 = .ok (.iaload, 1) := by decide +kernel
theorem dX2_timesCharged_44 : decode cX2_timesCharged 44 = .ok (.i2l, 1) := by decide +kernel
theorem dX2_timesCharged_45 : decode cX2_timesCharged 45 = .ok (.lreturn, 1) := by decide +kernel
theorem dX2_timesCharged_46 : decode cX2_timesCharged 46 = .ok (.ldc2_w 60, 3) := by decide +kernel
theorem dX2_timesCharged_49 : decode cX2_timesCharged 49 = .ok (.lreturn, 1) := by decide +kernel
theorem dX2_timesCharged_50 : decode cX2_timesCharged 50 = .ok (.lconst 1, 1) := by decide +kernel
theorem dX2_timesCharged_51 : decode cX2_timesCharged 51 = .ok (.lreturn, 1) := by decide +kernel
theorem dX2_copyFrom_0 : decode cX2_copyFrom 0 = .ok (.aload_n 0, 1) := by decide +kernel
theorem dX2_copyFrom_1 : decode cX2_copyFrom 1 = .ok (.aload_n 1, 1) := by decide +kernel
theorem dX2_copyFrom_2 : decode cX2_copyFrom 2 = .ok (.getfield 33, 3) := by decide +kernel
theorem dX2_copyFrom_5 : decode cX2_copyFrom 5 = .ok (.putfield 33, 3) := by decide +kernel
theorem dX2_copyFrom_8 : decode cX2_copyFrom 8 = .ok (.aload_n 1, 1) := by decide +kernel
theorem dX2_copyFrom_9 : decode cX2_copyFrom 9 = .ok (.getfield 9, 3) := by decide +kernel
theorem dX2_copyFrom_12 : decode cX2_copyFrom 12 = .ok (.iconst 0, 1) := by decide +kernel
theorem dX2_copyFrom_13 : decode cX2_copyFrom 13 = .ok (.aload_n 0, 1) := by decide +kernel
theorem dX2_copyFrom_14 : decode cX2_copyFrom 14 = .ok (.getfield 9, 3) := by decide +kernel
theorem dX2_copyFrom_17 : decode cX2_copyFrom 17 = .ok (.iconst 0, 1) := by decide +kernel
theorem dX2_copyFrom_18 : decode cX2_copyFrom 18 = .ok (.aload_n 0, 1) := by decide +kernel
theorem dX2_copyFrom_19 : decode cX2_copyFrom 19 = .ok (.getfield 9, 3) := by decide +kernel
theorem dX2_copyFrom_22 : decode cX2_copyFrom 22 = .ok (.arraylength, 1) := by decide +kernel
theorem dX2_copyFrom_23 : decode cX2_copyFrom 23 = .ok (.invokestatic 62, 3) := by decide +kernel
theorem dX2_copyFrom_26 : decode cX2_copyFrom 26 = .ok (.aload_n 1, 1) := by decide +kernel
theorem dX2_copyFrom_27 : decode cX2_copyFrom 27 = .ok (.getfield 15, 3) := by decide +kernel
theorem dX2_copyFrom_30 : decode cX2_copyFrom 30 = .ok (.iconst 0, 1) := by decide +kernel
theorem dX2_copyFrom_31 : decode cX2_copyFrom 31 = .ok (.aload_n 0, 1) := by decide +kernel
theorem dX2_copyFrom_32 : decode cX2_copyFrom 32 = .ok (.getfield 15, 3) := by decide +kernel
theorem dX2_copyFrom_35 : decode cX2_copyFrom 35 = .ok (.iconst 0, 1) := by decide +kernel
theorem dX2_copyFrom_36 : decode cX2_copyFrom 36 = .ok (.aload_n 0, 1) := by decide +kernel
theorem dX2_copyFrom_37 : decode cX2_copyFrom 37 = .ok (.getfield 15, 3) := by decide +kernel
theorem dX2_copyFrom_40 : decode cX2_copyFrom 40 = .ok (.arraylength, 1) := by decide +kernel
theorem dX2_copyFrom_41 : decode cX2_copyFrom 41 = .ok (.invokestatic 62, 3) := by decide +kernel
theorem dX2_copyFrom_44 : decode cX2_copyFrom 44 = .ok (.aload_n 1, 1) := by decide +kernel
theorem dX2_copyFrom_45 : decode cX2_copyFrom 45 = .ok (.getfield 18, 3) := by decide +kernel
theorem dX2_copyFrom_48 : decode cX2_copyFrom 48 = .ok (.iconst 0, 1) := by decide +kernel
theorem dX2_copyFrom_49 : decode cX2_copyFrom 49 = .ok (.aload_n 0, 1) := by decide +kernel
theorem dX2_copyFrom_50 : decode cX2_copyFrom 50 = .ok (.getfield 18, 3) := by decide +kernel
theorem dX2_copyFrom_53 : decode cX2_copyFrom 53 = .ok (.iconst 0, 1) := by decide +kernel
theorem dX2_copyFrom_54 : decode cX2_copyFrom 54 = .ok (.aload_n 0, 1) := by decide +kernel
theorem dX2_copyFrom_55 : decode cX2_copyFrom 55 = .ok (.getfield 18, 3) := by decide +kernel
theorem dX2_copyFrom_58 : decode cX2_copyFrom 58 = .ok (.arraylength, 1) := by decide +kernel
theorem dX2_copyFrom_59 : decode cX2_copyFrom 59 = .ok (.invokestatic 62, 3) := by decide +kernel
theorem dX2_copyFrom_62 : decode cX2_copyFrom 62 = .ok (.aload_n 1, 1) := by decide +kernel
theorem dX2_copyFrom_63 : decode cX2_copyFrom 63 = .ok (.getfield 21, 3) := by decide +kernel
theorem dX2_copyFrom_66 : decode cX2_copyFrom 66 = .ok (.iconst 0, 1) := by decide +kernel
theorem dX2_copyFrom_67 : decode cX2_copyFrom 67 = .ok (.aload_n 0, 1) := by decide +kernel
theorem dX2_copyFrom_68 : decode cX2_copyFrom 68 = .ok (.getfield 21, 3) := by decide +kernel
theorem dX2_copyFrom_71 : decode cX2_copyFrom 71 = .ok (.iconst 0, 1) := by decide +kernel
theorem dX2_copyFrom_72 : decode cX2_copyFrom 72 = .ok (.aload_n 0, 1) := by decide +kernel
theorem dX2_copyFrom_73 : decode cX2_copyFrom 73 = .ok (.getfield 21, 3) := by decide +kernel
theorem dX2_copyFrom_76 : decode cX2_copyFrom 76 = .ok (.arraylength, 1) := by decide +kernel
theorem dX2_copyFrom_77 : decode cX2_copyFrom 77 = .ok (.invokestatic 62, 3) := by decide +kernel
theorem dX2_copyFrom_80 : decode cX2_copyFrom 80 = .ok (.aload_n 1, 1) := by decide +kernel
theorem dX2_copyFrom_81 : decode cX2_copyFrom 81 = .ok (.getfield 24, 3) := by decide +kernel
theorem dX2_copyFrom_84 : decode cX2_copyFrom 84 = .ok (.iconst 0, 1) := by decide +kernel
theorem dX2_copyFrom_85 : decode cX2_copyFrom 85 = .ok (.aload_n 0, 1) := by decide +kernel
theorem dX2_copyFrom_86 : decode cX2_copyFrom 86 = .ok (.getfield 24, 3) := by decide +kernel
theorem dX2_copyFrom_89 : decode cX2_copyFrom 89 = .ok (.iconst 0, 1) := by decide +kernel
theorem dX2_copyFrom_90 : decode cX2_copyFrom 90 = .ok (.aload_n 0, 1) := by decide +kernel
theorem dX2_copyFrom_91 : decode cX2_copyFrom 91 = .ok (.getfield 24, 3) := by decide +kernel
theorem dX2_copyFrom_94 : decode cX2_copyFrom 94 = .ok (.arraylength, 1) := by decide +kernel
theorem dX2_copyFrom_95 : decode cX2_copyFrom 95 = .ok (.invokestatic 62, 3) := by decide +kernel
theorem dX2_copyFrom_98 : decode cX2_copyFrom 98 = .ok (.aload_n 1, 1) := by decide +kernel
theorem dX2_copyFrom_99 : decode cX2_copyFrom 99 = .ok (.getfield 27, 3) := by decide +kernel
theorem dX2_copyFrom_102 : decode cX2_copyFrom 102 = .ok (.iconst 0, 1) := by decide +kernel
theorem dX2_copyFrom_103 : decode cX2_copyFrom 103 = .ok (.aload_n 0, 1) := by decide +kernel
theorem dX2_copyFrom_104 : decode cX2_copyFrom 104 = .ok (.getfield 27, 3) := by decide +kernel
theorem dX2_copyFrom_107 : decode cX2_copyFrom 107 = .ok (.iconst 0, 1) := by decide +kernel
theorem dX2_copyFrom_108 : decode cX2_copyFrom 108 = .ok (.aload_n 0, 1) := by decide +kernel
theorem dX2_copyFrom_109 : decode cX2_copyFrom 109 = .ok (.getfield 27, 3) := by decide +kernel
theorem dX2_copyFrom_112 : decode cX2_copyFrom 112 = .ok (.arraylength, 1) := by decide +kernel
theorem dX2_copyFrom_113 : decode cX2_copyFrom 113 = .ok (.invokestatic 62, 3) := by decide +kernel
theorem dX2_copyFrom_116 : decode cX2_copyFrom 116 = .ok (.aload_n 1, 1) := by decide +kernel
theorem dX2_copyFrom_117 : decode cX2_copyFrom 117 = .ok (.getfield 30, 3) := by decide +kernel
theorem dX2_copyFrom_120 : decode cX2_copyFrom 120 = .ok (.iconst 0, 1) := by decide +kernel
theorem dX2_copyFrom_121 : decode cX2_copyFrom 121 = .ok (.aload_n 0, 1) := by decide +kernel
theorem dX2_copyFrom_122 : decode cX2_copyFrom 122 = .ok (.getfield 30, 3) := by decide +kernel
theorem dX2_copyFrom_125 : decode cX2_copyFrom 125 = .ok (.iconst 0, 1) := by decide +kernel
theorem dX2_copyFrom_126 : decode cX2_copyFrom 126 = .ok (.aload_n 0, 1) := by decide +kernel
theorem dX2_copyFrom_127 : decode cX2_copyFrom 127 = .ok (.getfield 30, 3) := by decide +kernel
theorem dX2_copyFrom_130 : decode cX2_copyFrom 130 = .ok (.arraylength, 1) := by decide +kernel
theorem dX2_copyFrom_131 : decode cX2_copyFrom 131 = .ok (.invokestatic 62, 3) := by decide +kernel
theorem dX2_copyFrom_134 : decode cX2_copyFrom 134 = .ok (.return_, 1) := by decide +kernel
set_option maxRecDepth 20000 in
theorem ggX3_init_X2_init : GoodIn wsX3_init wsX2_init := goodIn_sub (gw_c (gw_X3_init_X3_init_r1 _ (gw_g 14 rfl)) (gw_a (gw_c (gw_X3_init_X3_init_r1 _ (gw_g 15 rfl)) (gw_c (gw_X3_init_X3_init_r1 _ (gw_g 1 rfl)) (gw_c (gw_X3_init_X3_init_r1 _ (gw_g 2 rfl)) (gw_c (gw_X3_init_X3_init_r1 _ (gw_g 16 rfl)) (gw_c (gw_X3_init_X3_init_r1 _ (gw_g 17 rfl)) (gw_c (gw_X3_init_X3_init_r1 _ (gw_g 18 rfl)) (gw_c (gw_X3_init_X3_init_r1 _ (gw_g 19 rfl)) (gw_c (gw_X3_init_X3_init_r1 _ (gw_g 20 rfl)) (gw_c (gw_X3_init_X3_init_r1 _ (gw_g 21 rfl)) (gw_c (gw_X3_init_X3_init_r1 _ (gw_g 22 rfl)) (gw_c (gw_X3_init_X3_init_r1 _ (gw_g 23 rfl)) gw_n))))))))))) gw_X3_init_X20)) (by decide +kernel)
set_option maxRecDepth 20000 in
theorem gX3_init_X2_init_n20 : GoodIn wsX3_init (wsX2_init) := ggX3_init_X2_init
set_option maxRecDepth 20000 in
theorem ggX3_init_X8_init : GoodIn wsX3_init wsX8_init := goodIn_sub (gw_c (gw_X3_init_X3_init_r2 _ (gw_g 1 rfl)) (gw_a (gw_c (gw_X3_init_X3_init_r2 _ (gw_g 2 rfl)) (gw_c (gw_X3_init_X3_init_r1 _ (gw_g 1 rfl)) (gw_c (gw_X3_init_X3_init_r1 _ (gw_g 2 rfl)) (gw_c (gw_X3_init_X3_init_r1 _ (gw_g 16 rfl)) (gw_c (gw_X3_init_X3_init_r2 _ (gw_g 3 rfl)) (gw_c (gw_X3_init_X3_init_r2 _ (gw_g 4 rfl)) (gw_c (gw_X3_init_X3_init_r2 _ (gw_g 5 rfl)) gw_n))))))) gw_X3_init_X80)) (by decide +kernel)
set_option maxRecDepth 20000 in
theorem gX3_init_X8_init_n27 : GoodIn wsX3_init (wsX8_init) := ggX3_init_X8_init
theorem dX3_init_0 : decode cX3_init 0 = .ok (.aload_n 0, 1) := by decide +kernel
theorem dX3_init_1 : decode cX3_init 1 = .ok (.invokespecial 3, 3) := by decide +kernel
theorem dX3_init_4 : decode cX3_init 4 = .ok (.aload_n 0, 1) := by decide +kernel
theorem dX3_init_5 : decode cX3_init 5 = .ok (.iconst 0, 1) := by decide +kernel
theorem dX3_init_6 : decode cX3_init 6 = .ok (.putfield 9, 3) := by decide +kernel
theorem dX3_init_9 : decode cX3_init 9 = .ok (.aload_n 0, 1) := by decide +kernel
theorem dX3_init_10 : decode cX3_init 10 = .ok (.iconst (-1), 1) := by decide +kernel
theorem dX3_init_11 : decode cX3_init 11 = .ok (.putfield 15, 3) := by decide +kernel
theorem dX3_init_14 : decode cX3_init 14 = .ok (.aload_n 0, 1) := by decide +kernel
theorem dX3_init_15 : decode cX3_init 15 = .ok (.new 18, 3) := by decide +kernel
theorem dX3_init_18 : decode cX3_init 18 = .ok (.dup, 1) := by decide +kernel
theorem dX3_init_19 : decode cX3_init 19 = .ok (.invokespecial 20, 3) := by decide +kernel
theorem dX3_init_22 : decode cX3_init 22 = .ok (.putfield 21, 3) := by decide +kernel
theorem dX3_init_25 : decode cX3_init 25 = .ok (.aload_n 0, 1) := by decide +kernel
theorem dX3_init_26 : decode cX3_init 26 = .ok (.new 25, 3) := by decide +kernel
theorem dX3_init_29 : decode cX3_init 29 = .ok (.dup, 1) := by decide +kernel
theorem dX3_init_30 : decode cX3_init 30 = .ok (.invokespecial 27, 3) := by decide +kernel
theorem dX3_init_33 : decode cX3_init 33 = .ok (.putfield 28, 3) := by decide +kernel
theorem dX3_init_36 : decode cX3_init 36 = .ok (.return_, 1) := by decide +kernel
set_option maxRecDepth 20000 in
theorem ggX3_read_X2_clear : GoodIn wsX3_read wsX2_clear := goodIn_sub (gw_c (gw_X3_read_X3_read_r1 _ (gw_g 10 rfl)) (gw_a (gw_c (gw_X3_read_X3_read_r1 _ (gw_g 11 rfl)) (gw_c (gw_X3_read_X3_read_r1 _ (gw_g 12 rfl)) (gw_c (gw_X3_read_X3_read_r1 _ (gw_g 13 rfl)) (gw_c (gw_X3_read_X3_read_r1 _ (gw_g 14 rfl)) (gw_c (gw_X3_read_X3_read_r1 _ (gw_g 15 rfl)) (gw_c (gw_X3_read_X3_read_r1 _ (gw_g 16 rfl)) gw_n)))))) gw_X3_read_X20)) (by decide +kernel)
set_option maxRecDepth 20000 in
theorem gX3_read_X2_clear : GoodIn wsX3_read (wsV RX3 38 RX2 yX2_clear wsX2_clear) := goodIn_app (goodIn_sub (gw_c (gw_X3_read_X3_read_r1 _ (gw_g 6 rfl)) (gw_c (gw_X3_read_X3_read_r1 _ (gw_g 7 rfl)) (gw_c (gw_X3_read_X3_read_r1 _ (gw_g 8 rfl)) (gw_c (gw_X3_read_X3_read_r1 _ (gw_g 9 rfl)) gw_n)))) (by decide +kernel)) ggX3_read_X2_clear
set_option maxRecDepth 20000 in
theorem ggX3_read_X8_split : GoodIn wsX3_read wsX8_split := goodIn_sub (gw_c (gw_X3_read_X3_read_r1 _ (gw_g 21 rfl)) (gw_a (gw_a (gw_a (gw_c (gw_X3_read_X3_read_r1 _ (gw_g 22 rfl)) (gw_c (gw_X3_read_X3_read_r1 _ (gw_g 23 rfl)) (gw_c (gw_X3_read_X3_read_r2 _ (gw_g 0 rfl)) (gw_c (gw_X3_read_X3_read_r2 _ (gw_g 1 rfl)) (gw_c (gw_X3_read_X3_read_r2 _ (gw_g 2 rfl)) (gw_c (gw_X3_read_X3_read_r2 _ (gw_g 3 rfl)) (gw_c (gw_X3_read_X3_read_r2 _ (gw_g 4 rfl)) (gw_c (gw_X3_read_X3_read_r2 _ (gw_g 5 rfl)) (gw_c (gw_X3_read_X3_read_r2 _ (gw_g 6 rfl)) (gw_c (gw_X3_read_X3_read_r1 _ (gw_g 20 rfl)) (gw_c (gw_X3_read_X3_read_r2 _ (gw_g 7 rfl)) (gw_c (gw_X3_read_X3_read_r2 _ (gw_g 8 rfl)) (gw_c (gw_X3_read_X3_read_r2 _ (gw_g 9 rfl)) (gw_c (gw_X3_read_X3_read_r2 _ (gw_g 10 rfl)) (gw_c (gw_X3_read_X3_read_r2 _ (gw_g 11 rfl)) (gw_c (gw_X3_read_X3_read_r2 _ (gw_g 12 rfl)) (gw_c (gw_X3_read_X3_read_r2 _ (gw_g 13 rfl)) (gw_c (gw_X3_read_X3_read_r2 _ (gw_g 14 rfl)) (gw_c (gw_X3_read_X3_read_r2 _ (gw_g 15 rfl)) (gw_c (gw_X3_read_X3_read_r2 _ (gw_g 16 rfl)) (gw_c (gw_X3_read_X3_read_r2 _ (gw_g 17 rfl)) (gw_c (gw_X3_read_X3_read_r2 _ (gw_g 18 rfl)) (gw_c (gw_X3_read_X3_read_r2 _ (gw_g 19 rfl)) (gw_c (gw_X3_read_X3_read_r2 _ (gw_g 20 rfl)) gw_n)))))))))))))))))))))))) (gw_a (gw_c (gw_X3_read_X3_read_r2 _ (gw_g 21 rfl)) (gw_c (gw_X3_read_X3_read_r2 _ (gw_g 22 rfl)) (gw_c (gw_X3_read_X3_read_r2 _ (gw_g 23 rfl)) (gw_c (gw_X3_read_X3_read_r3 _ (gw_g 0 rfl)) (gw_c (gw_X3_read_X3_read_r3 _ (gw_g 1 rfl)) (gw_c (gw_X3_read_X3_read_r3 _ (gw_g 2 rfl)) (gw_c (gw_X3_read_X3_read_r3 _ (gw_g 3 rfl)) (gw_c (gw_X3_read_X3_read_r3 _ (gw_g 4 rfl)) (gw_c (gw_X3_read_X3_read_r3 _ (gw_g 5 rfl)) (gw_c (gw_X3_read_X3_read_r3 _ (gw_g 6 rfl)) (gw_c (gw_X3_read_X3_read_r3 _ (gw_g 7 rfl)) (gw_c (gw_X3_read_X3_read_r3 _ (gw_g 8 rfl)) (gw_c (gw_X3_read_X3_read_r3 _ (gw_g 9 rfl)) (gw_c (gw_X3_read_X3_read_r3 _ (gw_g 10 rfl)) (gw_c (gw_X3_read_X3_read_r3 _ (gw_g 11 rfl)) (gw_c (gw_X3_read_X3_read_r3 _ (gw_g 12 rfl)) (gw_c (gw_X3_read_X3_read_r3 _ (gw_g 13 rfl)) (gw_c (gw_X3_read_X3_read_r3 _ (gw_g 14 rfl)) (gw_c (gw_X3_read_X3_read_r3 _ (gw_g 15 rfl)) (gw_c (gw_X3_read_X3_read_r3 _ (gw_g 16 rfl)) (gw_c (gw_X3_read_X3_read_r3 _ (gw_g 17 rfl)) (gw_c (gw_X3_read_X3_read_r3 _ (gw_g 18 rfl)) (gw_c (gw_X3_read_X3_read_r3 _ (gw_g 19 rfl)) (gw_c (gw_X3_read_X3_read_r3 _ (gw_g 20 rfl)) gw_n)))))))))))))))))))))))) (gw_a (gw_c (gw_X3_read_X3_read_r3 _ (gw_g 21 rfl)) (gw_c (gw_X3_read_X3_read_r3 _ (gw_g 22 rfl)) (gw_c (gw_X3_read_X3_read_r3 _ (gw_g 23 rfl)) (gw_c (gw_X3_read_X3_read_r4 _ (gw_g 0 rfl)) (gw_c (gw_X3_read_X3_read_r4 _ (gw_g 1 rfl)) (gw_c (gw_X3_read_X3_read_r4 _ (gw_g 2 rfl)) (gw_c (gw_X3_read_X3_read_r4 _ (gw_g 3 rfl)) (gw_c (gw_X3_read_X3_read_r4 _ (gw_g 4 rfl)) (gw_c (gw_X3_read_X3_read_r4 _ (gw_g 5 rfl)) (gw_c (gw_X3_read_X3_read_r4 _ (gw_g 6 rfl)) (gw_c (gw_X3_read_X3_read_r4 _ (gw_g 7 rfl)) (gw_c (gw_X3_read_X3_read_r4 _ (gw_g 8 rfl)) (gw_c (gw_X3_read_X3_read_r4 _ (gw_g 9 rfl)) (gw_c (gw_X3_read_X3_read_r4 _ (gw_g 10 rfl)) (gw_c (gw_X3_read_X3_read_r4 _ (gw_g 11 rfl)) (gw_c (gw_X3_read_X3_read_r4 _ (gw_g 12 rfl)) (gw_c (gw_X3_read_X3_read_r4 _ (gw_g 13 rfl)) (gw_c (gw_X3_read_X3_read_r4 _ (gw_g 14 rfl)) (gw_c (gw_X3_read_X3_read_r4 _ (gw_g 15 rfl)) (gw_c (gw_X3_read_X3_read_r4 _ (gw_g 16 rfl)) (gw_c (gw_X3_read_X3_read_r4 _ (gw_g 17 rfl)) (gw_c (gw_X3_read_X3_read_r4 _ (gw_g 18 rfl)) (gw_c (gw_X3_read_X3_read_r4 _ (gw_g 19 rfl)) (gw_c (gw_X3_read_X3_read_r4 _ (gw_g 20 rfl)) gw_n)))))))))))))))))))))))) (gw_c (gw_X3_read_X3_read_r4 _ (gw_g 21 rfl)) (gw_c (gw_X3_read_X3_read_r4 _ (gw_g 22 rfl)) (gw_c (gw_X3_read_X3_read_r4 _ (gw_g 23 rfl)) (gw_c (gw_X3_read_X3_read_r5 _ (gw_g 0 rfl)) (gw_c (gw_X3_read_X3_read_r5 _ (gw_g 1 rfl)) (gw_c (gw_X3_read_X3_read_r5 _ (gw_g 2 rfl)) (gw_c (gw_X3_read_X3_read_r5 _ (gw_g 3 rfl)) (gw_c (gw_X3_read_X3_read_r5 _ (gw_g 4 rfl)) (gw_c (gw_X3_read_X3_read_r5 _ (gw_g 5 rfl)) (gw_c (gw_X3_read_X3_read_r5 _ (gw_g 6 rfl)) (gw_c (gw_X3_read_X3_read_r5 _ (gw_g 7 rfl)) (gw_c (gw_X3_read_X3_read_r5 _ (gw_g 8 rfl)) (gw_c (gw_X3_read_X3_read_r5 _ (gw_g 9 rfl)) (gw_c (gw_X3_read_X3_read_r5 _ (gw_g 10 rfl)) (gw_c (gw_X3_read_X3_read_r5 _ (gw_g 11 rfl)) (gw_c (gw_X3_read_X3_read_r5 _ (gw_g 12 rfl)) (gw_c (gw_X3_read_X3_read_r5 _ (gw_g 13 rfl)) gw_n)))))))))))))))))))) gw_X3_read_X80) gw_X3_read_X60)) (by decide +kernel)
set_option maxRecDepth 20000 in
theorem gX3_read_X8_split : GoodIn wsX3_read (wsV RX3 41 RX8 yX8_split wsX8_split) := goodIn_app (goodIn_sub (gw_c (gw_X3_read_X3_read_r1 _ (gw_g 17 rfl)) (gw_c (gw_X3_read_X3_read_r1 _ (gw_g 18 rfl)) (gw_c (gw_X3_read_X3_read_r1 _ (gw_g 19 rfl)) (gw_c (gw_X3_read_X3_read_r1 _ (gw_g 20 rfl)) gw_n)))) (by decide +kernel)) ggX3_read_X8_split
set_option maxRecDepth 20000 in
theorem ggX3_read_X3_isSound : GoodIn wsX3_read wsX3_isSound := goodIn_sub (gw_c (gw_X3_read_X3_read_r5 _ (gw_g 18 rfl)) (gw_a (gw_c (gw_X3_read_X3_read_r1 _ (gw_g 0 rfl)) gw_n) gw_X3_read_X30)) (by decide +kernel)
set_option maxRecDepth 20000 in
theorem gX3_read_X3_isSound : GoodIn wsX3_read (wsV RX3 45 RX3 yX3_isSound wsX3_isSound) := goodIn_app (goodIn_sub (gw_c (gw_X3_read_X3_read_r5 _ (gw_g 14 rfl)) (gw_c (gw_X3_read_X3_read_r5 _ (gw_g 15 rfl)) (gw_c (gw_X3_read_X3_read_r5 _ (gw_g 16 rfl)) (gw_c (gw_X3_read_X3_read_r5 _ (gw_g 17 rfl)) gw_n)))) (by decide +kernel)) ggX3_read_X3_isSound
set_option maxRecDepth 20000 in
theorem ggX3_read_X3_isNext : GoodIn wsX3_read wsX3_isNext := goodIn_sub (gw_c (gw_X3_read_X3_read_r5 _ (gw_g 22 rfl)) (gw_a (gw_a (gw_c (gw_X3_read_X3_read_r1 _ (gw_g 5 rfl)) (gw_c (gw_X3_read_X3_read_r1 _ (gw_g 3 rfl)) (gw_c (gw_X3_read_X3_read_r5 _ (gw_g 23 rfl)) (gw_c (gw_X3_read_X3_read_r6 _ (gw_g 0 rfl)) (gw_c (gw_X3_read_X3_read_r6 _ (gw_g 1 rfl)) (gw_c (gw_X3_read_X3_read_r1 _ (gw_g 20 rfl)) (gw_c (gw_X3_read_X3_read_r6 _ (gw_g 2 rfl)) (gw_c (gw_X3_read_X3_read_r1 _ (gw_g 22 rfl)) (gw_c (gw_X3_read_X3_read_r5 _ (gw_g 5 rfl)) gw_n))))))))) gw_X3_read_X30) gw_X3_read_X80)) (by decide +kernel)
set_option maxRecDepth 20000 in
theorem gX3_read_X3_isNext : GoodIn wsX3_read (wsV RX3 49 RX3 yX3_isNext wsX3_isNext) := goodIn_app (goodIn_sub (gw_c (gw_X3_read_X3_read_r5 _ (gw_g 19 rfl)) (gw_c (gw_X3_read_X3_read_r5 _ (gw_g 20 rfl)) (gw_c (gw_X3_read_X3_read_r5 _ (gw_g 21 rfl)) (gw_c (gw_X3_read_X3_read_r5 _ (gw_g 17 rfl)) gw_n)))) (by decide +kernel)) ggX3_read_X3_isNext
set_option maxRecDepth 20000 in
theorem ggX3_read_X3_readLine : GoodIn wsX3_read wsX3_readLine := goodIn_sub (gw_c (gw_X3_read_X3_read_r6 _ (gw_g 6 rfl)) (gw_a (gw_a (gw_a (gw_a (gw_c (gw_X3_read_X3_read_r1 _ (gw_g 5 rfl)) (gw_c (gw_X3_read_X3_read_r1 _ (gw_g 3 rfl)) (gw_c (gw_X3_read_X3_read_r1 _ (gw_g 4 rfl)) (gw_c (gw_X3_read_X3_read_r6 _ (gw_g 7 rfl)) (gw_c (gw_X3_read_X3_read_r6 _ (gw_g 8 rfl)) (gw_c (gw_X3_read_X3_read_r6 _ (gw_g 9 rfl)) (gw_c (gw_X3_read_X3_read_r5 _ (gw_g 17 rfl)) (gw_c (gw_X3_read_X3_read_r6 _ (gw_g 10 rfl)) (gw_c (gw_X3_read_X3_read_r1 _ (gw_g 2 rfl)) (gw_c (gw_X3_read_X3_read_r6 _ (gw_g 11 rfl)) (gw_c (gw_X3_read_X3_read_r6 _ (gw_g 12 rfl)) (gw_c (gw_X3_read_X3_read_r6 _ (gw_g 13 rfl)) (gw_c (gw_X3_read_X3_read_r1 _ (gw_g 20 rfl)) (gw_c (gw_X3_read_X3_read_r6 _ (gw_g 14 rfl)) (gw_c (gw_X3_read_X3_read_r1 _ (gw_g 22 rfl)) (gw_c (gw_X3_read_X3_read_r5 _ (gw_g 7 rfl)) (gw_c (gw_X3_read_X3_read_r5 _ (gw_g 19 rfl)) (gw_c (gw_X3_read_X3_read_r5 _ (gw_g 20 rfl)) (gw_c (gw_X3_read_X3_read_r5 _ (gw_g 21 rfl)) (gw_c (gw_X3_read_X3_read_r5 _ (gw_g 22 rfl)) (gw_c (gw_X3_read_X3_read_r5 _ (gw_g 23 rfl)) (gw_c (gw_X3_read_X3_read_r6 _ (gw_g 0 rfl)) (gw_c (gw_X3_read_X3_read_r6 _ (gw_g 1 rfl)) (gw_c (gw_X3_read_X3_read_r6 _ (gw_g 2 rfl)) gw_n)))))))))))))))))))))))) (gw_a (gw_c (gw_X3_read_X3_read_r5 _ (gw_g 5 rfl)) (gw_c (gw_X3_read_X3_read_r6 _ (gw_g 15 rfl)) (gw_c (gw_X3_read_X3_read_r6 _ (gw_g 16 rfl)) (gw_c (gw_X3_read_X3_read_r6 _ (gw_g 17 rfl)) (gw_c (gw_X3_read_X3_read_r6 _ (gw_g 18 rfl)) (gw_c (gw_X3_read_X3_read_r6 _ (gw_g 19 rfl)) (gw_c (gw_X3_read_X3_read_r6 _ (gw_g 20 rfl)) (gw_c (gw_X3_read_X3_read_r6 _ (gw_g 21 rfl)) (gw_c (gw_X3_read_X3_read_r6 _ (gw_g 22 rfl)) (gw_c (gw_X3_read_X3_read_r6 _ (gw_g 23 rfl)) (gw_c (gw_X3_read_X3_read_r7 _ (gw_g 0 rfl)) (gw_c (gw_X3_read_X3_read_r7 _ (gw_g 1 rfl)) (gw_c (gw_X3_read_X3_read_r7 _ (gw_g 2 rfl)) (gw_c (gw_X3_read_X3_read_r1 _ (gw_g 0 rfl)) (gw_c (gw_X3_read_X3_read_r1 _ (gw_g 1 rfl)) (gw_c (gw_X3_read_X3_read_r5 _ (gw_g 14 rfl)) (gw_c (gw_X3_read_X3_read_r5 _ (gw_g 15 rfl)) (gw_c (gw_X3_read_X3_read_r5 _ (gw_g 16 rfl)) (gw_c (gw_X3_read_X3_read_r5 _ (gw_g 18 rfl)) (gw_c (gw_X3_read_X3_read_r7 _ (gw_g 3 rfl)) (gw_c (gw_X3_read_X3_read_r7 _ (gw_g 4 rfl)) (gw_c (gw_X3_read_X3_read_r7 _ (gw_g 5 rfl)) (gw_c (gw_X3_read_X3_read_r1 _ (gw_g 9 rfl)) (gw_c (gw_X3_read_X3_read_r7 _ (gw_g 6 rfl)) gw_n)))))))))))))))))))))))) (gw_c (gw_X3_read_X3_read_r1 _ (gw_g 11 rfl)) (gw_c (gw_X3_read_X3_read_r1 _ (gw_g 12 rfl)) (gw_c (gw_X3_read_X3_read_r7 _ (gw_g 7 rfl)) (gw_c (gw_X3_read_X3_read_r7 _ (gw_g 8 rfl)) (gw_c (gw_X3_read_X3_read_r7 _ (gw_g 9 rfl)) (gw_c (gw_X3_read_X3_read_r7 _ (gw_g 10 rfl)) (gw_c (gw_X3_read_X3_read_r7 _ (gw_g 11 rfl)) (gw_c (gw_X3_read_X3_read_r7 _ (gw_g 12 rfl)) (gw_c (gw_X3_read_X3_read_r7 _ (gw_g 13 rfl)) (gw_c (gw_X3_read_X3_read_r7 _ (gw_g 14 rfl)) (gw_c (gw_X3_read_X3_read_r5 _ (gw_g 6 rfl)) (gw_c (gw_X3_read_X3_read_r7 _ (gw_g 15 rfl)) (gw_c (gw_X3_read_X3_read_r7 _ (gw_g 16 rfl)) (gw_c (gw_X3_read_X3_read_r7 _ (gw_g 17 rfl)) (gw_c (gw_X3_read_X3_read_r7 _ (gw_g 18 rfl)) (gw_c (gw_X3_read_X3_read_r7 _ (gw_g 19 rfl)) (gw_c (gw_X3_read_X3_read_r7 _ (gw_g 20 rfl)) gw_n))))))))))))))))))) gw_X3_read_X30) gw_X3_read_X80) gw_X3_read_X20)) (by decide +kernel)
set_option maxRecDepth 20000 in
theorem gX3_read_X3_readLine : GoodIn wsX3_read (wsV RX3 53 RX3 yX3_readLine wsX3_readLine) := goodIn_app (goodIn_sub (gw_c (gw_X3_read_X3_read_r6 _ (gw_g 3 rfl)) (gw_c (gw_X3_read_X3_read_r6 _ (gw_g 4 rfl)) (gw_c (gw_X3_read_X3_read_r6 _ (gw_g 5 rfl)) (gw_c (gw_X3_read_X3_read_r5 _ (gw_g 17 rfl)) gw_n)))) (by decide +kernel)) ggX3_read_X3_readLine
theorem dX3_read_0 : decode cX3_read 0 = .ok (.aload_n 0, 1) := by decide +kernel
theorem dX3_read_1 : decode cX3_read 1 = .ok (.iconst 0, 1) := by decide +kernel
theorem dX3_read_2 : decode cX3_read 2 = .ok (.putfield 9, 3) := by decide +kernel
theorem dX3_read_5 : decode cX3_read 5 = .ok (.aload_n 0, 1) := by decide +kernel
theorem dX3_read_6 : decode cX3_read 6 = .ok (.iconst (-1), 1) := by decide +kernel
theorem dX3_read_7 : decode cX3_read 7 = .ok (.putfield 15, 3) := by decide +kernel
theorem dX3_read_10 : decode cX3_read 10 = .ok (.aload_n 0, 1) := by decide +kernel
theorem dX3_read_11 : decode cX3_read 11 = .ok (.iconst (-1), 1) := by decide +kernel
theorem dX3_read_12 : decode cX3_read 12 = .ok (.putfield 32, 3) := by decide +kernel
theorem dX3_read_15 : decode cX3_read 15 = .ok (.aload_n 0, 1) := by decide +kernel
theorem dX3_read_16 : decode cX3_read 16 = .ok (.iconst 0, 1) := by decide +kernel
theorem dX3_read_17 : decode cX3_read 17 = .ok (.putfield 35, 3) := by decide +kernel
theorem dX3_read_20 : decode cX3_read 20 = .ok (.aload_n 0, 1) := by decide +kernel
theorem dX3_read_21 : decode cX3_read 21 = .ok (.getfield 21, 3) := by decide +kernel
theorem dX3_read_24 : decode cX3_read 24 = .ok (.invokevirtual 38, 3) := by decide +kernel
theorem dX3_read_27 : decode cX3_read 27 = .ok (.aload_n 0, 1) := by decide +kernel
theorem dX3_read_28 : decode cX3_read 28 = .ok (.getfield 28, 3) := by decide +kernel
theorem dX3_read_31 : decode cX3_read 31 = .ok (.aload_n 1, 1) := by decide +kernel
theorem dX3_read_32 : decode cX3_read 32 = .ok (.invokevirtual 41, 3) := by decide +kernel
theorem dX3_read_35 : decode cX3_read 35 = .ok (.iconst 0, 1) := by decide +kernel
theorem dX3_read_36 : decode cX3_read 36 = .ok (.istore_n 2, 1) := by decide +kernel
theorem dX3_read_37 : decode cX3_read 37 = .ok (.iload_n 2, 1) := by decide +kernel
theorem dX3_read_38 : decode cX3_read 38 = .ok (.sipush 400, 3) := by decide +kernel
theorem dX3_read_41 : decode cX3_read 41 = .ok (.if_icmp .ge 40, 3) := by decide +kernel
theorem dX3_read_44 : decode cX3_read 44 = .ok (.aload_n 0, 1) := by decide +kernel
theorem dX3_read_45 : decode cX3_read 45 = .ok (.invokevirtual 45, 3) := by decide +kernel
theorem dX3_read_48 : decode cX3_read 48 = .ok (.ifCond .eq 33, 3) := by decide +kernel
theorem dX3_read_51 : decode cX3_read 51 = .ok (.aload_n 0, 1) := by decide +kernel
theorem dX3_read_52 : decode cX3_read 52 = .ok (.bipush 20, 2) := by decide +kernel
theorem dX3_read_54 : decode cX3_read 54 = .ok (.invokevirtual 49, 3) := by decide +kernel
theorem dX3_read_57 : decode cX3_read 57 = .ok (.ifCond .ne 24, 3) := by decide +kernel
theorem dX3_read_60 : decode cX3_read 60 = .ok (.aload_n 0, 1) := by decide +kernel
theorem dX3_read_61 : decode cX3_read 61 = .ok (.iload_n 2, 1) := by decide +kernel
theorem dX3_read_62 : decode cX3_read 62 = .ok (.bipush 16, 2) := by decide +kernel
theorem dX3_read_64 : decode cX3_read 64 = .ok (.if_icmp .lt 7, 3) := by decide +kernel
theorem dX3_read_67 : decode cX3_read 67 = .ok (.iconst 1, 1) := by decide +kernel
theorem dX3_read_68 : decode cX3_read 68 = .ok (.goto 4, 3) := by decide +kernel
theorem dX3_read_71 : decode cX3_read 71 = .ok (.iconst 0, 1) := by decide +kernel
theorem dX3_read_72 : decode cX3_read 72 = .ok (.invokevirtual 53, 3) := by decide +kernel
theorem dX3_read_75 : decode cX3_read 75 = .ok (.iinc 2 1, 3) := by decide +kernel
theorem dX3_read_78 : decode cX3_read 78 = .ok (.goto (-41), 3) := by decide +kernel
theorem dX3_read_81 : decode cX3_read 81 = .ok (.aload_n 0, 1) := by decide +kernel
theorem dX3_read_82 : decode cX3_read 82 = .ok (.invokevirtual 45, 3) := by decide +kernel
theorem dX3_read_85 : decode cX3_read 85 = .ok (.ifCond .eq 24, 3) := by decide +kernel
theorem dX3_read_88 : decode cX3_read 88 = .ok (.aload_n 0, 1) := by decide +kernel
theorem dX3_read_89 : decode cX3_read 89 = .ok (.getfield 32, 3) := by decide +kernel
theorem dX3_read_92 : decode cX3_read 92 = .ok (.iconst (-1), 1) := by decide +kernel
theorem dX3_read_93 : decode cX3_read 93 = .ok (.if_icmp .eq 16, 3) := by decide +kernel
theorem dX3_read_96 : decode cX3_read 96 = .ok (.aload_n 0, 1) := by decide +kernel
theorem dX3_read_97 : decode cX3_read 97 = .ok (.iconst 3, 1) := by decide +kernel
theorem dX3_read_98 : decode cX3_read 98 = .ok (.putfield 9, 3) := by decide +kernel
theorem dX3_read_101 : decode cX3_read 101 = .ok (.aload_n 0, 1) := by decide +kernel
theorem dX3_read_102 : decode cX3_read 102 = .ok (.aload_n 0, 1) := by decide +kernel
theorem dX3_read_103 : decode cX3_read 103 = .ok (.getfield 32, 3) := by decide +kernel
theorem dX3_read_106 : decode cX3_read 106 = .ok (.putfield 15, 3) := by decide +kernel
theorem dX3_read_109 : decode cX3_read 109 = .ok (.return_, 1) := by decide +kernel
set_option maxRecDepth 20000 in
theorem ggX3_readLine_X3_noteSurplus : GoodIn wsX3_readLine wsX3_noteSurplus := goodIn_sub (gw_c (gw_X3_readLine_X3_readLine_r1 _ (gw_g 7 rfl)) (gw_a (gw_a (gw_c (gw_X3_readLine_X3_readLine_r1 _ (gw_g 8 rfl)) (gw_c (gw_X3_readLine_X3_readLine_r1 _ (gw_g 0 rfl)) (gw_c (gw_X3_readLine_X3_readLine_r1 _ (gw_g 1 rfl)) (gw_c (gw_X3_readLine_X3_readLine_r1 _ (gw_g 9 rfl)) (gw_c (gw_X3_readLine_X3_readLine_r1 _ (gw_g 10 rfl)) (gw_c (gw_X3_readLine_X3_readLine_r1 _ (gw_g 11 rfl)) (gw_c (gw_X3_readLine_X3_readLine_r1 _ (gw_g 12 rfl)) (gw_c (gw_X3_readLine_X3_readLine_r1 _ (gw_g 13 rfl)) (gw_c (gw_X3_readLine_X3_readLine_r1 _ (gw_g 14 rfl)) (gw_c (gw_X3_readLine_X3_readLine_r1 _ (gw_g 15 rfl)) gw_n)))))))))) gw_X3_readLine_X30) gw_X3_readLine_X80)) (by decide +kernel)
set_option maxRecDepth 20000 in
theorem gX3_readLine_X3_noteSurplus : GoodIn wsX3_readLine (wsV RX3 57 RX3 yX3_noteSurplus wsX3_noteSurplus) := goodIn_app (goodIn_sub (gw_c (gw_X3_readLine_X3_readLine_r1 _ (gw_g 3 rfl)) (gw_c (gw_X3_readLine_X3_readLine_r1 _ (gw_g 4 rfl)) (gw_c (gw_X3_readLine_X3_readLine_r1 _ (gw_g 5 rfl)) (gw_c (gw_X3_readLine_X3_readLine_r1 _ (gw_g 6 rfl)) gw_n)))) (by decide +kernel)) ggX3_readLine_X3_noteSurplus
set_option maxRecDepth 20000 in
theorem ggX3_readLine_X3_isNext : GoodIn wsX3_readLine wsX3_isNext := goodIn_sub (gw_c (gw_X3_readLine_X3_readLine_r1 _ (gw_g 19 rfl)) (gw_a (gw_a (gw_c (gw_X3_readLine_X3_readLine_r1 _ (gw_g 0 rfl)) (gw_c (gw_X3_readLine_X3_readLine_r1 _ (gw_g 1 rfl)) (gw_c (gw_X3_readLine_X3_readLine_r1 _ (gw_g 20 rfl)) (gw_c (gw_X3_readLine_X3_readLine_r1 _ (gw_g 21 rfl)) (gw_c (gw_X3_readLine_X3_readLine_r1 _ (gw_g 22 rfl)) (gw_c (gw_X3_readLine_X3_readLine_r1 _ (gw_g 12 rfl)) (gw_c (gw_X3_readLine_X3_readLine_r1 _ (gw_g 23 rfl)) (gw_c (gw_X3_readLine_X3_readLine_r1 _ (gw_g 14 rfl)) (gw_c (gw_X3_readLine_X3_readLine_r2 _ (gw_g 0 rfl)) gw_n))))))))) gw_X3_readLine_X30) gw_X3_readLine_X80)) (by decide +kernel)
set_option maxRecDepth 20000 in
theorem gX3_readLine_X3_isNext : GoodIn wsX3_readLine (wsV RX3 49 RX3 yX3_isNext wsX3_isNext) := goodIn_app (goodIn_sub (gw_c (gw_X3_readLine_X3_readLine_r1 _ (gw_g 16 rfl)) (gw_c (gw_X3_readLine_X3_readLine_r1 _ (gw_g 17 rfl)) (gw_c (gw_X3_readLine_X3_readLine_r1 _ (gw_g 18 rfl)) (gw_c (gw_X3_readLine_X3_readLine_r1 _ (gw_g 6 rfl)) gw_n)))) (by decide +kernel)) ggX3_readLine_X3_isNext
set_option maxRecDepth 20000 in
theorem ggX3_readLine_X3_readTests : GoodIn wsX3_readLine wsX3_readTests := goodIn_sub (gw_c (gw_X3_readLine_X3_readLine_r2 _ (gw_g 4 rfl)) (gw_a (gw_a (gw_a (gw_a (gw_c (gw_X3_readLine_X3_readLine_r1 _ (gw_g 1 rfl)) (gw_c (gw_X3_readLine_X3_readLine_r2 _ (gw_g 5 rfl)) (gw_c (gw_X3_readLine_X3_readLine_r2 _ (gw_g 6 rfl)) (gw_c (gw_X3_readLine_X3_readLine_r2 _ (gw_g 7 rfl)) (gw_c (gw_X3_readLine_X3_readLine_r1 _ (gw_g 6 rfl)) (gw_c (gw_X3_readLine_X3_readLine_r2 _ (gw_g 8 rfl)) (gw_c (gw_X3_readLine_X3_readLine_r1 _ (gw_g 0 rfl)) (gw_c (gw_X3_readLine_X3_readLine_r1 _ (gw_g 2 rfl)) (gw_c (gw_X3_readLine_X3_readLine_r1 _ (gw_g 3 rfl)) (gw_c (gw_X3_readLine_X3_readLine_r1 _ (gw_g 4 rfl)) (gw_c (gw_X3_readLine_X3_readLine_r1 _ (gw_g 5 rfl)) (gw_c (gw_X3_readLine_X3_readLine_r1 _ (gw_g 7 rfl)) (gw_c (gw_X3_readLine_X3_readLine_r1 _ (gw_g 8 rfl)) (gw_c (gw_X3_readLine_X3_readLine_r1 _ (gw_g 9 rfl)) (gw_c (gw_X3_readLine_X3_readLine_r1 _ (gw_g 10 rfl)) (gw_c (gw_X3_readLine_X3_readLine_r1 _ (gw_g 11 rfl)) (gw_c (gw_X3_readLine_X3_readLine_r1 _ (gw_g 12 rfl)) (gw_c (gw_X3_readLine_X3_readLine_r1 _ (gw_g 13 rfl)) (gw_c (gw_X3_readLine_X3_readLine_r1 _ (gw_g 14 rfl)) (gw_c (gw_X3_readLine_X3_readLine_r1 _ (gw_g 15 rfl)) (gw_c (gw_X3_readLine_X3_readLine_r1 _ (gw_g 16 rfl)) (gw_c (gw_X3_readLine_X3_readLine_r1 _ (gw_g 17 rfl)) (gw_c (gw_X3_readLine_X3_readLine_r1 _ (gw_g 18 rfl)) (gw_c (gw_X3_readLine_X3_readLine_r1 _ (gw_g 19 rfl)) gw_n)))))))))))))))))))))))) (gw_a (gw_c (gw_X3_readLine_X3_readLine_r1 _ (gw_g 20 rfl)) (gw_c (gw_X3_readLine_X3_readLine_r1 _ (gw_g 21 rfl)) (gw_c (gw_X3_readLine_X3_readLine_r1 _ (gw_g 22 rfl)) (gw_c (gw_X3_readLine_X3_readLine_r1 _ (gw_g 23 rfl)) (gw_c (gw_X3_readLine_X3_readLine_r2 _ (gw_g 0 rfl)) (gw_c (gw_X3_readLine_X3_readLine_r2 _ (gw_g 9 rfl)) (gw_c (gw_X3_readLine_X3_readLine_r2 _ (gw_g 10 rfl)) (gw_c (gw_X3_readLine_X3_readLine_r2 _ (gw_g 11 rfl)) (gw_c (gw_X3_readLine_X3_readLine_r2 _ (gw_g 12 rfl)) (gw_c (gw_X3_readLine_X3_readLine_r2 _ (gw_g 13 rfl)) (gw_c (gw_X3_readLine_X3_readLine_r2 _ (gw_g 14 rfl)) (gw_c (gw_X3_readLine_X3_readLine_r2 _ (gw_g 15 rfl)) (gw_c (gw_X3_readLine_X3_readLine_r2 _ (gw_g 16 rfl)) (gw_c (gw_X3_readLine_X3_readLine_r2 _ (gw_g 17 rfl)) (gw_c (gw_X3_readLine_X3_readLine_r2 _ (gw_g 18 rfl)) (gw_c (gw_X3_readLine_X3_readLine_r2 _ (gw_g 19 rfl)) (gw_c (gw_X3_readLine_X3_readLine_r2 _ (gw_g 20 rfl)) (gw_c (gw_X3_readLine_X3_readLine_r2 _ (gw_g 21 rfl)) (gw_c (gw_X3_readLine_X3_readLine_r2 _ (gw_g 22 rfl)) (gw_c (gw_X3_readLine_X3_readLine_r2 _ (gw_g 23 rfl)) (gw_c (gw_X3_readLine_X3_readLine_r3 _ (gw_g 0 rfl)) (gw_c (gw_X3_readLine_X3_readLine_r3 _ (gw_g 1 rfl)) (gw_c (gw_X3_readLine_X3_readLine_r3 _ (gw_g 2 rfl)) (gw_c (gw_X3_readLine_X3_readLine_r3 _ (gw_g 3 rfl)) gw_n)))))))))))))))))))))))) (gw_c (gw_X3_readLine_X3_readLine_r3 _ (gw_g 4 rfl)) (gw_c (gw_X3_readLine_X3_readLine_r3 _ (gw_g 5 rfl)) (gw_c (gw_X3_readLine_X3_readLine_r3 _ (gw_g 6 rfl)) (gw_c (gw_X3_readLine_X3_readLine_r3 _ (gw_g 7 rfl)) (gw_c (gw_X3_readLine_X3_readLine_r3 _ (gw_g 8 rfl)) (gw_c (gw_X3_readLine_X3_readLine_r3 _ (gw_g 9 rfl)) (gw_c (gw_X3_readLine_X3_readLine_r3 _ (gw_g 10 rfl)) gw_n))))))))) gw_X3_readLine_X30) gw_X3_readLine_X80) gw_X3_readLine_X20)) (by decide +kernel)
set_option maxRecDepth 20000 in
theorem gX3_readLine_X3_readTests : GoodIn wsX3_readLine (wsV RX3 60 RX3 yX3_readTests wsX3_readTests) := goodIn_app (goodIn_sub (gw_c (gw_X3_readLine_X3_readLine_r2 _ (gw_g 1 rfl)) (gw_c (gw_X3_readLine_X3_readLine_r2 _ (gw_g 2 rfl)) (gw_c (gw_X3_readLine_X3_readLine_r2 _ (gw_g 3 rfl)) (gw_c (gw_X3_readLine_X3_readLine_r1 _ (gw_g 6 rfl)) gw_n)))) (by decide +kernel)) ggX3_readLine_X3_readTests
set_option maxRecDepth 20000 in
theorem ggX3_readLine_X3_takeIf : GoodIn wsX3_readLine wsX3_takeIf := goodIn_sub (gw_c (gw_X3_readLine_X3_readLine_r2 _ (gw_g 12 rfl)) (gw_a (gw_a (gw_c (gw_X3_readLine_X3_readLine_r1 _ (gw_g 1 rfl)) (gw_c (gw_X3_readLine_X3_readLine_r2 _ (gw_g 13 rfl)) (gw_c (gw_X3_readLine_X3_readLine_r1 _ (gw_g 0 rfl)) (gw_c (gw_X3_readLine_X3_readLine_r2 _ (gw_g 14 rfl)) (gw_c (gw_X3_readLine_X3_readLine_r2 _ (gw_g 15 rfl)) (gw_c (gw_X3_readLine_X3_readLine_r2 _ (gw_g 16 rfl)) (gw_c (gw_X3_readLine_X3_readLine_r2 _ (gw_g 17 rfl)) (gw_c (gw_X3_readLine_X3_readLine_r1 _ (gw_g 6 rfl)) (gw_c (gw_X3_readLine_X3_readLine_r2 _ (gw_g 18 rfl)) (gw_c (gw_X3_readLine_X3_readLine_r1 _ (gw_g 9 rfl)) (gw_c (gw_X3_readLine_X3_readLine_r1 _ (gw_g 10 rfl)) (gw_c (gw_X3_readLine_X3_readLine_r1 _ (gw_g 11 rfl)) (gw_c (gw_X3_readLine_X3_readLine_r1 _ (gw_g 12 rfl)) (gw_c (gw_X3_readLine_X3_readLine_r1 _ (gw_g 13 rfl)) (gw_c (gw_X3_readLine_X3_readLine_r1 _ (gw_g 14 rfl)) (gw_c (gw_X3_readLine_X3_readLine_r1 _ (gw_g 15 rfl)) gw_n)))))))))))))))) gw_X3_readLine_X30) gw_X3_readLine_X80)) (by decide +kernel)
set_option maxRecDepth 20000 in
theorem gX3_readLine_X3_takeIf : GoodIn wsX3_readLine (wsV RX3 63 RX3 yX3_takeIf wsX3_takeIf) := goodIn_app (goodIn_sub (gw_c (gw_X3_readLine_X3_readLine_r2 _ (gw_g 9 rfl)) (gw_c (gw_X3_readLine_X3_readLine_r2 _ (gw_g 10 rfl)) (gw_c (gw_X3_readLine_X3_readLine_r2 _ (gw_g 11 rfl)) (gw_c (gw_X3_readLine_X3_readLine_r1 _ (gw_g 6 rfl)) gw_n)))) (by decide +kernel)) ggX3_readLine_X3_takeIf
set_option maxRecDepth 20000 in
theorem ggX3_readLine_X8_kindAt : GoodIn wsX3_readLine wsX8_kindAt := goodIn_sub (gw_c (gw_X3_readLine_X3_readLine_r1 _ (gw_g 23 rfl)) (gw_a (gw_c (gw_X3_readLine_X3_readLine_r1 _ (gw_g 14 rfl)) (gw_c (gw_X3_readLine_X3_readLine_r2 _ (gw_g 0 rfl)) gw_n)) gw_X3_readLine_X80)) (by decide +kernel)
set_option maxRecDepth 20000 in
theorem gX3_readLine_X8_kindAt : GoodIn wsX3_readLine (wsV RX3 66 RX8 yX8_kindAt wsX8_kindAt) := goodIn_app (goodIn_sub (gw_c (gw_X3_readLine_X3_readLine_r1 _ (gw_g 20 rfl)) (gw_c (gw_X3_readLine_X3_readLine_r1 _ (gw_g 21 rfl)) (gw_c (gw_X3_readLine_X3_readLine_r1 _ (gw_g 22 rfl)) (gw_c (gw_X3_readLine_X3_readLine_r1 _ (gw_g 12 rfl)) gw_n)))) (by decide +kernel)) ggX3_readLine_X8_kindAt
set_option maxRecDepth 20000 in
theorem ggX3_readLine_X8_numberAt : GoodIn wsX3_readLine wsX8_numberAt := goodIn_sub (gw_c (gw_X3_readLine_X3_readLine_r3 _ (gw_g 9 rfl)) (gw_a (gw_c (gw_X3_readLine_X3_readLine_r1 _ (gw_g 14 rfl)) (gw_c (gw_X3_readLine_X3_readLine_r3 _ (gw_g 10 rfl)) gw_n)) gw_X3_readLine_X80)) (by decide +kernel)
set_option maxRecDepth 20000 in
theorem gX3_readLine_X8_numberAt : GoodIn wsX3_readLine (wsV RX3 70 RX8 yX8_numberAt wsX8_numberAt) := goodIn_app (goodIn_sub (gw_c (gw_X3_readLine_X3_readLine_r3 _ (gw_g 6 rfl)) (gw_c (gw_X3_readLine_X3_readLine_r3 _ (gw_g 7 rfl)) (gw_c (gw_X3_readLine_X3_readLine_r3 _ (gw_g 8 rfl)) (gw_c (gw_X3_readLine_X3_readLine_r1 _ (gw_g 12 rfl)) gw_n)))) (by decide +kernel)) ggX3_readLine_X8_numberAt
set_option maxRecDepth 20000 in
theorem ggX3_readLine_X3_isSound : GoodIn wsX3_readLine wsX3_isSound := goodIn_sub (gw_c (gw_X3_readLine_X3_readLine_r2 _ (gw_g 18 rfl)) (gw_a (gw_c (gw_X3_readLine_X3_readLine_r2 _ (gw_g 13 rfl)) gw_n) gw_X3_readLine_X30)) (by decide +kernel)
set_option maxRecDepth 20000 in
theorem gX3_readLine_X3_isSound : GoodIn wsX3_readLine (wsV RX3 45 RX3 yX3_isSound wsX3_isSound) := goodIn_app (goodIn_sub (gw_c (gw_X3_readLine_X3_readLine_r2 _ (gw_g 15 rfl)) (gw_c (gw_X3_readLine_X3_readLine_r2 _ (gw_g 16 rfl)) (gw_c (gw_X3_readLine_X3_readLine_r2 _ (gw_g 17 rfl)) (gw_c (gw_X3_readLine_X3_readLine_r1 _ (gw_g 6 rfl)) gw_n)))) (by decide +kernel)) ggX3_readLine_X3_isSound
set_option maxRecDepth 20000 in
theorem ggX3_readLine_X2_addLine : GoodIn wsX3_readLine wsX2_addLine := goodIn_sub (gw_c (gw_X3_readLine_X3_readLine_r3 _ (gw_g 14 rfl)) (gw_a (gw_c (gw_X3_readLine_X3_readLine_r3 _ (gw_g 0 rfl)) (gw_c (gw_X3_readLine_X3_readLine_r3 _ (gw_g 15 rfl)) (gw_c (gw_X3_readLine_X3_readLine_r3 _ (gw_g 16 rfl)) gw_n))) gw_X3_readLine_X20)) (by decide +kernel)
set_option maxRecDepth 20000 in
theorem gX3_readLine_X2_addLine : GoodIn wsX3_readLine (wsV RX3 73 RX2 yX2_addLine wsX2_addLine) := goodIn_app (goodIn_sub (gw_c (gw_X3_readLine_X3_readLine_r3 _ (gw_g 11 rfl)) (gw_c (gw_X3_readLine_X3_readLine_r3 _ (gw_g 12 rfl)) (gw_c (gw_X3_readLine_X3_readLine_r3 _ (gw_g 13 rfl)) (gw_c (gw_X3_readLine_X3_readLine_r2 _ (gw_g 22 rfl)) gw_n)))) (by decide +kernel)) ggX3_readLine_X2_addLine
theorem dX3_readLine_0 : decode cX3_readLine 0 = .ok (.iload_n 1, 1) := by decide +kernel
theorem dX3_readLine_1 : decode cX3_readLine 1 = .ok (.ifCond .eq 7, 3) := by decide +kernel
theorem dX3_readLine_4 : decode cX3_readLine 4 = .ok (.aload_n 0, 1) := by decide +kernel
theorem dX3_readLine_5 : decode cX3_readLine 5 = .ok (.invokevirtual 57, 3) := by decide +kernel
theorem dX3_readLine_8 : decode cX3_readLine 8 = .ok (.aload_n 0, 1) := by decide +kernel
theorem dX3_readLine_9 : decode cX3_readLine 9 = .ok (.iconst 5, 1) := by decide +kernel
theorem dX3_readLine_10 : decode cX3_readLine 10 = .ok (.invokevirtual 49, 3) := by decide +kernel
theorem dX3_readLine_13 : decode cX3_readLine 13 = .ok (.ifCond .eq 17, 3) := by decide +kernel
theorem dX3_readLine_16 : decode cX3_readLine 16 = .ok (.aload_n 0, 1) := by decide +kernel
theorem dX3_readLine_17 : decode cX3_readLine 17 = .ok (.invokevirtual 60, 3) := by decide +kernel
theorem dX3_readLine_20 : decode cX3_readLine 20 = .ok (.aload_n 0, 1) := by decide +kernel
theorem dX3_readLine_21 : decode cX3_readLine 21 = .ok (.aload_n 0, 1) := by decide +kernel
theorem dX3_readLine_22 : decode cX3_readLine 22 = .ok (.bipush 13, 2) := by decide +kernel
theorem dX3_readLine_24 : decode cX3_readLine 24 = .ok (.invokevirtual 49, 3) := by decide +kernel
theorem dX3_readLine_27 : decode cX3_readLine 27 = .ok (.invokevirtual 63, 3) := by decide +kernel
theorem dX3_readLine_30 : decode cX3_readLine 30 = .ok (.aload_n 0, 1) := by decide +kernel
theorem dX3_readLine_31 : decode cX3_readLine 31 = .ok (.getfield 28, 3) := by decide +kernel
theorem dX3_readLine_34 : decode cX3_readLine 34 = .ok (.aload_n 0, 1) := by decide +kernel
theorem dX3_readLine_35 : decode cX3_readLine 35 = .ok (.getfield 35, 3) := by decide +kernel
theorem dX3_readLine_38 : decode cX3_readLine 38 = .ok (.invokevirtual 66, 3) := by decide +kernel
theorem dX3_readLine_41 : decode cX3_readLine 41 = .ok (.istore_n 2, 1) := by decide +kernel
theorem dX3_readLine_42 : decode cX3_readLine 42 = .ok (.aload_n 0, 1) := by decide +kernel
theorem dX3_readLine_43 : decode cX3_readLine 43 = .ok (.iload_n 2, 1) := by decide +kernel
theorem dX3_readLine_44 : decode cX3_readLine 44 = .ok (.bipush 8, 2) := by decide +kernel
theorem dX3_readLine_46 : decode cX3_readLine 46 = .ok (.if_icmp .lt 13, 3) := by decide +kernel
theorem dX3_readLine_49 : decode cX3_readLine 49 = .ok (.iload_n 2, 1) := by decide +kernel
theorem dX3_readLine_50 : decode cX3_readLine 50 = .ok (.bipush 11, 2) := by decide +kernel
theorem dX3_readLine_52 : decode cX3_readLine 52 = .ok (.if_icmp .gt 7, 3) := by decide +kernel
theorem dX3_readLine_55 : decode cX3_readLine 55 = .ok (.iconst 1, 1) := by decide +kernel
theorem dX3_readLine_56 : decode cX3_readLine 56 = .ok (.goto 4, 3) := by decide +kernel
theorem dX3_readLine_59 : decode cX3_readLine 59 = .ok (.iconst 0, 1) := by decide +kernel
theorem dX3_readLine_60 : decode cX3_readLine 60 = .ok (.invokevirtual 63, 3) := by decide +kernel
theorem dX3_readLine_63 : decode cX3_readLine 63 = .ok (.aload_n 0, 1) := by decide +kernel
theorem dX3_readLine_64 : decode cX3_readLine 64 = .ok (.getfield 28, 3) := by decide +kernel
theorem dX3_readLine_67 : decode cX3_readLine 67 = .ok (.aload_n 0, 1) := by decide +kernel
theorem dX3_readLine_68 : decode cX3_readLine 68 = .ok (.getfield 35, 3) := by decide +kernel
theorem dX3_readLine_71 : decode cX3_readLine 71 = .ok (.invokevirtual 70, 3) := by decide +kernel
theorem dX3_readLine_74 : decode cX3_readLine 74 = .ok (.istore_n 3, 1) := by decide +kernel
theorem dX3_readLine_75 : decode cX3_readLine 75 = .ok (.aload_n 0, 1) := by decide +kernel
theorem dX3_readLine_76 : decode cX3_readLine 76 = .ok (.aload_n 0, 1) := by decide +kernel
theorem dX3_readLine_77 : decode cX3_readLine 77 = .ok (.bipush 12, 2) := by decide +kernel
theorem dX3_readLine_79 : decode cX3_readLine 79 = .ok (.invokevirtual 49, 3) := by decide +kernel
theorem dX3_readLine_82 : decode cX3_readLine 82 = .ok (.invokevirtual 63, 3) := by decide +kernel
theorem dX3_readLine_85 : decode cX3_readLine 85 = .ok (.aload_n 0, 1) := by decide +kernel
theorem dX3_readLine_86 : decode cX3_readLine 86 = .ok (.aload_n 0, 1) := by decide +kernel
theorem dX3_readLine_87 : decode cX3_readLine 87 = .ok (.bipush 14, 2) := by decide +kernel
theorem dX3_readLine_89 : decode cX3_readLine 89 = .ok (.invokevirtual 49, 3) := by decide +kernel
theorem dX3_readLine_92 : decode cX3_readLine 92 = .ok (.invokevirtual 63, 3) := by decide +kernel
theorem dX3_readLine_95 : decode cX3_readLine 95 = .ok (.aload_n 0, 1) := by decide +kernel
theorem dX3_readLine_96 : decode cX3_readLine 96 = .ok (.invokevirtual 45, 3) := by decide +kernel
theorem dX3_readLine_99 : decode cX3_readLine 99 = .ok (.ifCond .eq 12, 3) := by decide +kernel
theorem dX3_readLine_102 : decode cX3_readLine 102 = .ok (.aload_n 0, 1) := by decide +kernel
theorem dX3_readLine_103 : decode cX3_readLine 103 = .ok (.getfield 21, 3) := by decide +kernel
theorem dX3_readLine_106 : decode cX3_readLine 106 = .ok (.iload_n 2, 1) := by decide +kernel
theorem dX3_readLine_107 : decode cX3_readLine 107 = .ok (.iload_n 3, 1) := by decide +kernel
theorem dX3_readLine_108 : decode cX3_readLine 108 = .ok (.invokevirtual 73, 3) := by decide +kernel
theorem dX3_readLine_111 : decode cX3_readLine 111 = .ok (.return_, 1) := by decide +kernel
set_option maxRecDepth 20000 in
theorem ggX3_readTests_X3_readTest : GoodIn wsX3_readTests wsX3_readTest := goodIn_sub (gw_c (gw_X3_readTests_X3_readTests_r1 _ (gw_g 5 rfl)) (gw_a (gw_a (gw_a (gw_a (gw_c (gw_X3_readTests_X3_readTests_r1 _ (gw_g 0 rfl)) (gw_c (gw_X3_readTests_X3_readTests_r1 _ (gw_g 6 rfl)) (gw_c (gw_X3_readTests_X3_readTests_r1 _ (gw_g 7 rfl)) (gw_c (gw_X3_readTests_X3_readTests_r1 _ (gw_g 8 rfl)) (gw_c (gw_X3_readTests_X3_readTests_r1 _ (gw_g 9 rfl)) (gw_c (gw_X3_readTests_X3_readTests_r1 _ (gw_g 10 rfl)) (gw_c (gw_X3_readTests_X3_readTests_r1 _ (gw_g 4 rfl)) (gw_c (gw_X3_readTests_X3_readTests_r1 _ (gw_g 11 rfl)) (gw_c (gw_X3_readTests_X3_readTests_r1 _ (gw_g 12 rfl)) (gw_c (gw_X3_readTests_X3_readTests_r1 _ (gw_g 13 rfl)) (gw_c (gw_X3_readTests_X3_readTests_r1 _ (gw_g 14 rfl)) (gw_c (gw_X3_readTests_X3_readTests_r1 _ (gw_g 15 rfl)) (gw_c (gw_X3_readTests_X3_readTests_r1 _ (gw_g 16 rfl)) (gw_c (gw_X3_readTests_X3_readTests_r1 _ (gw_g 17 rfl)) (gw_c (gw_X3_readTests_X3_readTests_r1 _ (gw_g 18 rfl)) (gw_c (gw_X3_readTests_X3_readTests_r1 _ (gw_g 19 rfl)) (gw_c (gw_X3_readTests_X3_readTests_r1 _ (gw_g 20 rfl)) (gw_c (gw_X3_readTests_X3_readTests_r1 _ (gw_g 21 rfl)) (gw_c (gw_X3_readTests_X3_readTests_r1 _ (gw_g 22 rfl)) (gw_c (gw_X3_readTests_X3_readTests_r1 _ (gw_g 23 rfl)) (gw_c (gw_X3_readTests_X3_readTests_r2 _ (gw_g 0 rfl)) (gw_c (gw_X3_readTests_X3_readTests_r2 _ (gw_g 1 rfl)) (gw_c (gw_X3_readTests_X3_readTests_r2 _ (gw_g 2 rfl)) (gw_c (gw_X3_readTests_X3_readTests_r2 _ (gw_g 3 rfl)) gw_n)))))))))))))))))))))))) (gw_a (gw_c (gw_X3_readTests_X3_readTests_r2 _ (gw_g 4 rfl)) (gw_c (gw_X3_readTests_X3_readTests_r2 _ (gw_g 5 rfl)) (gw_c (gw_X3_readTests_X3_readTests_r2 _ (gw_g 6 rfl)) (gw_c (gw_X3_readTests_X3_readTests_r2 _ (gw_g 7 rfl)) (gw_c (gw_X3_readTests_X3_readTests_r2 _ (gw_g 8 rfl)) (gw_c (gw_X3_readTests_X3_readTests_r2 _ (gw_g 9 rfl)) (gw_c (gw_X3_readTests_X3_readTests_r2 _ (gw_g 10 rfl)) (gw_c (gw_X3_readTests_X3_readTests_r2 _ (gw_g 11 rfl)) (gw_c (gw_X3_readTests_X3_readTests_r2 _ (gw_g 12 rfl)) (gw_c (gw_X3_readTests_X3_readTests_r2 _ (gw_g 13 rfl)) (gw_c (gw_X3_readTests_X3_readTests_r2 _ (gw_g 14 rfl)) (gw_c (gw_X3_readTests_X3_readTests_r2 _ (gw_g 15 rfl)) (gw_c (gw_X3_readTests_X3_readTests_r2 _ (gw_g 16 rfl)) (gw_c (gw_X3_readTests_X3_readTests_r2 _ (gw_g 17 rfl)) (gw_c (gw_X3_readTests_X3_readTests_r2 _ (gw_g 18 rfl)) (gw_c (gw_X3_readTests_X3_readTests_r2 _ (gw_g 19 rfl)) (gw_c (gw_X3_readTests_X3_readTests_r2 _ (gw_g 20 rfl)) (gw_c (gw_X3_readTests_X3_readTests_r2 _ (gw_g 21 rfl)) (gw_c (gw_X3_readTests_X3_readTests_r2 _ (gw_g 22 rfl)) (gw_c (gw_X3_readTests_X3_readTests_r2 _ (gw_g 23 rfl)) (gw_c (gw_X3_readTests_X3_readTests_r3 _ (gw_g 0 rfl)) (gw_c (gw_X3_readTests_X3_readTests_r3 _ (gw_g 1 rfl)) (gw_c (gw_X3_readTests_X3_readTests_r3 _ (gw_g 2 rfl)) (gw_c (gw_X3_readTests_X3_readTests_r3 _ (gw_g 3 rfl)) gw_n)))))))))))))))))))))))) (gw_c (gw_X3_readTests_X3_readTests_r3 _ (gw_g 4 rfl)) (gw_c (gw_X3_readTests_X3_readTests_r3 _ (gw_g 5 rfl)) (gw_c (gw_X3_readTests_X3_readTests_r3 _ (gw_g 6 rfl)) gw_n))))) gw_X3_readTests_X30) gw_X3_readTests_X80) gw_X3_readTests_X20)) (by decide +kernel)
set_option maxRecDepth 20000 in
theorem gX3_readTests_X3_readTest : GoodIn wsX3_readTests (wsV RX3 77 RX3 yX3_readTest wsX3_readTest) := goodIn_app (goodIn_sub (gw_c (gw_X3_readTests_X3_readTests_r1 _ (gw_g 1 rfl)) (gw_c (gw_X3_readTests_X3_readTests_r1 _ (gw_g 2 rfl)) (gw_c (gw_X3_readTests_X3_readTests_r1 _ (gw_g 3 rfl)) (gw_c (gw_X3_readTests_X3_readTests_r1 _ (gw_g 4 rfl)) gw_n)))) (by decide +kernel)) ggX3_readTests_X3_readTest
set_option maxRecDepth 20000 in
theorem ggX3_readTests_X3_isSound : GoodIn wsX3_readTests wsX3_isSound := goodIn_sub (gw_c (gw_X3_readTests_X3_readTests_r2 _ (gw_g 14 rfl)) (gw_a (gw_c (gw_X3_readTests_X3_readTests_r2 _ (gw_g 9 rfl)) gw_n) gw_X3_readTests_X30)) (by decide +kernel)
set_option maxRecDepth 20000 in
theorem gX3_readTests_X3_isSound : GoodIn wsX3_readTests (wsV RX3 45 RX3 yX3_isSound wsX3_isSound) := goodIn_app (goodIn_sub (gw_c (gw_X3_readTests_X3_readTests_r2 _ (gw_g 11 rfl)) (gw_c (gw_X3_readTests_X3_readTests_r2 _ (gw_g 12 rfl)) (gw_c (gw_X3_readTests_X3_readTests_r2 _ (gw_g 13 rfl)) (gw_c (gw_X3_readTests_X3_readTests_r1 _ (gw_g 4 rfl)) gw_n)))) (by decide +kernel)) ggX3_readTests_X3_isSound
set_option maxRecDepth 20000 in
theorem ggX3_readTests_X3_isNext : GoodIn wsX3_readTests wsX3_isNext := goodIn_sub (gw_c (gw_X3_readTests_X3_readTests_r1 _ (gw_g 23 rfl)) (gw_a (gw_a (gw_c (gw_X3_readTests_X3_readTests_r1 _ (gw_g 6 rfl)) (gw_c (gw_X3_readTests_X3_readTests_r1 _ (gw_g 0 rfl)) (gw_c (gw_X3_readTests_X3_readTests_r2 _ (gw_g 0 rfl)) (gw_c (gw_X3_readTests_X3_readTests_r2 _ (gw_g 1 rfl)) (gw_c (gw_X3_readTests_X3_readTests_r2 _ (gw_g 2 rfl)) (gw_c (gw_X3_readTests_X3_readTests_r1 _ (gw_g 16 rfl)) (gw_c (gw_X3_readTests_X3_readTests_r2 _ (gw_g 3 rfl)) (gw_c (gw_X3_readTests_X3_readTests_r1 _ (gw_g 18 rfl)) (gw_c (gw_X3_readTests_X3_readTests_r2 _ (gw_g 4 rfl)) gw_n))))))))) gw_X3_readTests_X30) gw_X3_readTests_X80)) (by decide +kernel)
set_option maxRecDepth 20000 in
theorem gX3_readTests_X3_isNext : GoodIn wsX3_readTests (wsV RX3 49 RX3 yX3_isNext wsX3_isNext) := goodIn_app (goodIn_sub (gw_c (gw_X3_readTests_X3_readTests_r1 _ (gw_g 20 rfl)) (gw_c (gw_X3_readTests_X3_readTests_r1 _ (gw_g 21 rfl)) (gw_c (gw_X3_readTests_X3_readTests_r1 _ (gw_g 22 rfl)) (gw_c (gw_X3_readTests_X3_readTests_r1 _ (gw_g 4 rfl)) gw_n)))) (by decide +kernel)) ggX3_readTests_X3_isNext
theorem dX3_readTests_0 : decode cX3_readTests 0 = .ok (.iconst 0, 1) := by decide +kernel
theorem dX3_readTests_1 : decode cX3_readTests 1 = .ok (.istore_n 1, 1) := by decide +kernel
theorem dX3_readTests_2 : decode cX3_readTests 2 = .ok (.aload_n 0, 1) := by decide +kernel
theorem dX3_readTests_3 : decode cX3_readTests 3 = .ok (.dup, 1) := by decide +kernel
theorem dX3_readTests_4 : decode cX3_readTests 4 = .ok (.getfield 35, 3) := by decide +kernel
theorem dX3_readTests_7 : decode cX3_readTests 7 = .ok (.iconst 1, 1) := by decide +kernel
theorem dX3_readTests_8 : decode cX3_readTests 8 = .ok (.iadd, 1) := by decide +kernel
theorem dX3_readTests_9 : decode cX3_readTests 9 = .ok (.putfield 35, 3) := by decide +kernel
theorem dX3_readTests_12 : decode cX3_readTests 12 = .ok (.aload_n 0, 1) := by decide +kernel
theorem dX3_readTests_13 : decode cX3_readTests 13 = .ok (.iload_n 1, 1) := by decide +kernel
theorem dX3_readTests_14 : decode cX3_readTests 14 = .ok (.iconst 4, 1) := by decide +kernel
theorem dX3_readTests_15 : decode cX3_readTests 15 = .ok (.if_icmp .lt 7, 3) := by decide +kernel
theorem dX3_readTests_18 : decode cX3_readTests 18 = .ok (.iconst 1, 1) := by decide +kernel
theorem dX3_readTests_19 : decode cX3_readTests 19 = .ok (.goto 4, 3) := by decide +kernel
theorem dX3_readTests_22 : decode cX3_readTests 22 = .ok (.iconst 0, 1) := by decide +kernel
theorem dX3_readTests_23 : decode cX3_readTests 23 = .ok (.invokevirtual 77, 3) := by decide +kernel
theorem dX3_readTests_26 : decode cX3_readTests 26 = .ok (.iinc 1 1, 3) := by decide +kernel
theorem dX3_readTests_29 : decode cX3_readTests 29 = .ok (.iload_n 1, 1) := by decide +kernel
theorem dX3_readTests_30 : decode cX3_readTests 30 = .ok (.sipush 400, 3) := by decide +kernel
theorem dX3_readTests_33 : decode cX3_readTests 33 = .ok (.if_icmp .ge 19, 3) := by decide +kernel
theorem dX3_readTests_36 : decode cX3_readTests 36 = .ok (.aload_n 0, 1) := by decide +kernel
theorem dX3_readTests_37 : decode cX3_readTests 37 = .ok (.invokevirtual 45, 3) := by decide +kernel
theorem dX3_readTests_40 : decode cX3_readTests 40 = .ok (.ifCond .eq 12, 3) := by decide +kernel
theorem dX3_readTests_43 : decode cX3_readTests 43 = .ok (.aload_n 0, 1) := by decide +kernel
theorem dX3_readTests_44 : decode cX3_readTests 44 = .ok (.bipush 6, 2) := by decide +kernel
theorem dX3_readTests_46 : decode cX3_readTests 46 = .ok (.invokevirtual 49, 3) := by decide +kernel
theorem dX3_readTests_49 : decode cX3_readTests 49 = .ok (.ifCond .ne (-47), 3) := by decide +kernel
theorem dX3_readTests_52 : decode cX3_readTests 52 = .ok (.return_, 1) := by decide +kernel
set_option maxRecDepth 20000 in
theorem ggX3_readTest_X3_noteSurplus : GoodIn wsX3_readTest wsX3_noteSurplus := goodIn_sub (gw_c (gw_X3_readTest_X3_readTest_r1 _ (gw_g 7 rfl)) (gw_a (gw_a (gw_c (gw_X3_readTest_X3_readTest_r1 _ (gw_g 8 rfl)) (gw_c (gw_X3_readTest_X3_readTest_r1 _ (gw_g 1 rfl)) (gw_c (gw_X3_readTest_X3_readTest_r1 _ (gw_g 0 rfl)) (gw_c (gw_X3_readTest_X3_readTest_r1 _ (gw_g 9 rfl)) (gw_c (gw_X3_readTest_X3_readTest_r1 _ (gw_g 10 rfl)) (gw_c (gw_X3_readTest_X3_readTest_r1 _ (gw_g 11 rfl)) (gw_c (gw_X3_readTest_X3_readTest_r1 _ (gw_g 12 rfl)) (gw_c (gw_X3_readTest_X3_readTest_r1 _ (gw_g 13 rfl)) (gw_c (gw_X3_readTest_X3_readTest_r1 _ (gw_g 14 rfl)) (gw_c (gw_X3_readTest_X3_readTest_r1 _ (gw_g 15 rfl)) gw_n)))))))))) gw_X3_readTest_X30) gw_X3_readTest_X80)) (by decide +kernel)
set_option maxRecDepth 20000 in
theorem gX3_readTest_X3_noteSurplus : GoodIn wsX3_readTest (wsV RX3 57 RX3 yX3_noteSurplus wsX3_noteSurplus) := goodIn_app (goodIn_sub (gw_c (gw_X3_readTest_X3_readTest_r1 _ (gw_g 3 rfl)) (gw_c (gw_X3_readTest_X3_readTest_r1 _ (gw_g 4 rfl)) (gw_c (gw_X3_readTest_X3_readTest_r1 _ (gw_g 5 rfl)) (gw_c (gw_X3_readTest_X3_readTest_r1 _ (gw_g 6 rfl)) gw_n)))) (by decide +kernel)) ggX3_readTest_X3_noteSurplus
set_option maxRecDepth 20000 in
theorem ggX3_readTest_X3_isNext : GoodIn wsX3_readTest wsX3_isNext := goodIn_sub (gw_c (gw_X3_readTest_X3_readTest_r1 _ (gw_g 19 rfl)) (gw_a (gw_a (gw_c (gw_X3_readTest_X3_readTest_r1 _ (gw_g 1 rfl)) (gw_c (gw_X3_readTest_X3_readTest_r1 _ (gw_g 0 rfl)) (gw_c (gw_X3_readTest_X3_readTest_r1 _ (gw_g 20 rfl)) (gw_c (gw_X3_readTest_X3_readTest_r1 _ (gw_g 21 rfl)) (gw_c (gw_X3_readTest_X3_readTest_r1 _ (gw_g 22 rfl)) (gw_c (gw_X3_readTest_X3_readTest_r1 _ (gw_g 12 rfl)) (gw_c (gw_X3_readTest_X3_readTest_r1 _ (gw_g 23 rfl)) (gw_c (gw_X3_readTest_X3_readTest_r1 _ (gw_g 14 rfl)) (gw_c (gw_X3_readTest_X3_readTest_r2 _ (gw_g 0 rfl)) gw_n))))))))) gw_X3_readTest_X30) gw_X3_readTest_X80)) (by decide +kernel)
set_option maxRecDepth 20000 in
theorem gX3_readTest_X3_isNext : GoodIn wsX3_readTest (wsV RX3 49 RX3 yX3_isNext wsX3_isNext) := goodIn_app (goodIn_sub (gw_c (gw_X3_readTest_X3_readTest_r1 _ (gw_g 16 rfl)) (gw_c (gw_X3_readTest_X3_readTest_r1 _ (gw_g 17 rfl)) (gw_c (gw_X3_readTest_X3_readTest_r1 _ (gw_g 18 rfl)) (gw_c (gw_X3_readTest_X3_readTest_r1 _ (gw_g 6 rfl)) gw_n)))) (by decide +kernel)) ggX3_readTest_X3_isNext
set_option maxRecDepth 20000 in
theorem ggX3_readTest_X8_kindAt : GoodIn wsX3_readTest wsX8_kindAt := goodIn_sub (gw_c (gw_X3_readTest_X3_readTest_r1 _ (gw_g 23 rfl)) (gw_a (gw_c (gw_X3_readTest_X3_readTest_r1 _ (gw_g 14 rfl)) (gw_c (gw_X3_readTest_X3_readTest_r2 _ (gw_g 0 rfl)) gw_n)) gw_X3_readTest_X80)) (by decide +kernel)
set_option maxRecDepth 20000 in
theorem gX3_readTest_X8_kindAt : GoodIn wsX3_readTest (wsV RX3 66 RX8 yX8_kindAt wsX8_kindAt) := goodIn_app (goodIn_sub (gw_c (gw_X3_readTest_X3_readTest_r1 _ (gw_g 20 rfl)) (gw_c (gw_X3_readTest_X3_readTest_r1 _ (gw_g 21 rfl)) (gw_c (gw_X3_readTest_X3_readTest_r1 _ (gw_g 22 rfl)) (gw_c (gw_X3_readTest_X3_readTest_r1 _ (gw_g 12 rfl)) gw_n)))) (by decide +kernel)) ggX3_readTest_X8_kindAt
set_option maxRecDepth 20000 in
theorem ggX3_readTest_X3_takeIf : GoodIn wsX3_readTest wsX3_takeIf := goodIn_sub (gw_c (gw_X3_readTest_X3_readTest_r2 _ (gw_g 4 rfl)) (gw_a (gw_a (gw_c (gw_X3_readTest_X3_readTest_r1 _ (gw_g 0 rfl)) (gw_c (gw_X3_readTest_X3_readTest_r2 _ (gw_g 5 rfl)) (gw_c (gw_X3_readTest_X3_readTest_r1 _ (gw_g 1 rfl)) (gw_c (gw_X3_readTest_X3_readTest_r2 _ (gw_g 6 rfl)) (gw_c (gw_X3_readTest_X3_readTest_r2 _ (gw_g 7 rfl)) (gw_c (gw_X3_readTest_X3_readTest_r2 _ (gw_g 8 rfl)) (gw_c (gw_X3_readTest_X3_readTest_r2 _ (gw_g 9 rfl)) (gw_c (gw_X3_readTest_X3_readTest_r1 _ (gw_g 6 rfl)) (gw_c (gw_X3_readTest_X3_readTest_r2 _ (gw_g 10 rfl)) (gw_c (gw_X3_readTest_X3_readTest_r1 _ (gw_g 9 rfl)) (gw_c (gw_X3_readTest_X3_readTest_r1 _ (gw_g 10 rfl)) (gw_c (gw_X3_readTest_X3_readTest_r1 _ (gw_g 11 rfl)) (gw_c (gw_X3_readTest_X3_readTest_r1 _ (gw_g 12 rfl)) (gw_c (gw_X3_readTest_X3_readTest_r1 _ (gw_g 13 rfl)) (gw_c (gw_X3_readTest_X3_readTest_r1 _ (gw_g 14 rfl)) (gw_c (gw_X3_readTest_X3_readTest_r1 _ (gw_g 15 rfl)) gw_n)))))))))))))))) gw_X3_readTest_X30) gw_X3_readTest_X80)) (by decide +kernel)
set_option maxRecDepth 20000 in
theorem gX3_readTest_X3_takeIf : GoodIn wsX3_readTest (wsV RX3 63 RX3 yX3_takeIf wsX3_takeIf) := goodIn_app (goodIn_sub (gw_c (gw_X3_readTest_X3_readTest_r2 _ (gw_g 1 rfl)) (gw_c (gw_X3_readTest_X3_readTest_r2 _ (gw_g 2 rfl)) (gw_c (gw_X3_readTest_X3_readTest_r2 _ (gw_g 3 rfl)) (gw_c (gw_X3_readTest_X3_readTest_r1 _ (gw_g 6 rfl)) gw_n)))) (by decide +kernel)) ggX3_readTest_X3_takeIf
set_option maxRecDepth 20000 in
theorem ggX3_readTest_X2_addTest : GoodIn wsX3_readTest wsX2_addTest := goodIn_sub (gw_c (gw_X3_readTest_X3_readTest_r2 _ (gw_g 15 rfl)) (gw_a (gw_c (gw_X3_readTest_X3_readTest_r2 _ (gw_g 16 rfl)) (gw_c (gw_X3_readTest_X3_readTest_r2 _ (gw_g 17 rfl)) (gw_c (gw_X3_readTest_X3_readTest_r2 _ (gw_g 18 rfl)) (gw_c (gw_X3_readTest_X3_readTest_r2 _ (gw_g 19 rfl)) (gw_c (gw_X3_readTest_X3_readTest_r2 _ (gw_g 20 rfl)) (gw_c (gw_X3_readTest_X3_readTest_r2 _ (gw_g 21 rfl)) gw_n)))))) gw_X3_readTest_X20)) (by decide +kernel)
set_option maxRecDepth 20000 in
theorem gX3_readTest_X2_addTest : GoodIn wsX3_readTest (wsV RX3 80 RX2 yX2_addTest wsX2_addTest) := goodIn_app (goodIn_sub (gw_c (gw_X3_readTest_X3_readTest_r2 _ (gw_g 11 rfl)) (gw_c (gw_X3_readTest_X3_readTest_r2 _ (gw_g 12 rfl)) (gw_c (gw_X3_readTest_X3_readTest_r2 _ (gw_g 13 rfl)) (gw_c (gw_X3_readTest_X3_readTest_r2 _ (gw_g 14 rfl)) gw_n)))) (by decide +kernel)) ggX3_readTest_X2_addTest
set_option maxRecDepth 20000 in
theorem ggX3_readTest_X8_numberAt : GoodIn wsX3_readTest wsX8_numberAt := goodIn_sub (gw_c (gw_X3_readTest_X3_readTest_r3 _ (gw_g 1 rfl)) (gw_a (gw_c (gw_X3_readTest_X3_readTest_r1 _ (gw_g 14 rfl)) (gw_c (gw_X3_readTest_X3_readTest_r3 _ (gw_g 2 rfl)) gw_n)) gw_X3_readTest_X80)) (by decide +kernel)
set_option maxRecDepth 20000 in
theorem gX3_readTest_X8_numberAt : GoodIn wsX3_readTest (wsV RX3 70 RX8 yX8_numberAt wsX8_numberAt) := goodIn_app (goodIn_sub (gw_c (gw_X3_readTest_X3_readTest_r2 _ (gw_g 22 rfl)) (gw_c (gw_X3_readTest_X3_readTest_r2 _ (gw_g 23 rfl)) (gw_c (gw_X3_readTest_X3_readTest_r3 _ (gw_g 0 rfl)) (gw_c (gw_X3_readTest_X3_readTest_r1 _ (gw_g 12 rfl)) gw_n)))) (by decide +kernel)) ggX3_readTest_X8_numberAt
set_option maxRecDepth 20000 in
theorem ggX3_readTest_X3_isSound : GoodIn wsX3_readTest wsX3_isSound := goodIn_sub (gw_c (gw_X3_readTest_X3_readTest_r2 _ (gw_g 10 rfl)) (gw_a (gw_c (gw_X3_readTest_X3_readTest_r2 _ (gw_g 5 rfl)) gw_n) gw_X3_readTest_X30)) (by decide +kernel)
set_option maxRecDepth 20000 in
theorem gX3_readTest_X3_isSound : GoodIn wsX3_readTest (wsV RX3 45 RX3 yX3_isSound wsX3_isSound) := goodIn_app (goodIn_sub (gw_c (gw_X3_readTest_X3_readTest_r2 _ (gw_g 7 rfl)) (gw_c (gw_X3_readTest_X3_readTest_r2 _ (gw_g 8 rfl)) (gw_c (gw_X3_readTest_X3_readTest_r2 _ (gw_g 9 rfl)) (gw_c (gw_X3_readTest_X3_readTest_r1 _ (gw_g 6 rfl)) gw_n)))) (by decide +kernel)) ggX3_readTest_X3_isSound
theorem dX3_readTest_0 : decode cX3_readTest 0 = .ok (.iload_n 1, 1) := by decide +kernel
theorem dX3_readTest_1 : decode cX3_readTest 1 = .ok (.ifCond .eq 7, 3) := by decide +kernel
theorem dX3_readTest_4 : decode cX3_readTest 4 = .ok (.aload_n 0, 1) := by decide +kernel
theorem dX3_readTest_5 : decode cX3_readTest 5 = .ok (.invokevirtual 57, 3) := by decide +kernel
theorem dX3_readTest_8 : decode cX3_readTest 8 = .ok (.aload_n 0, 1) := by decide +kernel
theorem dX3_readTest_9 : decode cX3_readTest 9 = .ok (.bipush 7, 2) := by decide +kernel
theorem dX3_readTest_11 : decode cX3_readTest 11 = .ok (.invokevirtual 49, 3) := by decide +kernel
theorem dX3_readTest_14 : decode cX3_readTest 14 = .ok (.istore_n 2, 1) := by decide +kernel
theorem dX3_readTest_15 : decode cX3_readTest 15 = .ok (.iload_n 2, 1) := by decide +kernel
theorem dX3_readTest_16 : decode cX3_readTest 16 = .ok (.ifCond .eq 13, 3) := by decide +kernel
theorem dX3_readTest_19 : decode cX3_readTest 19 = .ok (.aload_n 0, 1) := by decide +kernel
theorem dX3_readTest_20 : decode cX3_readTest 20 = .ok (.dup, 1) := by decide +kernel
theorem dX3_readTest_21 : decode cX3_readTest 21 = .ok (.getfield 35, 3) := by decide +kernel
theorem dX3_readTest_24 : decode cX3_readTest 24 = .ok (.iconst 1, 1) := by decide +kernel
theorem dX3_readTest_25 : decode cX3_readTest 25 = .ok (.iadd, 1) := by decide +kernel
theorem dX3_readTest_26 : decode cX3_readTest 26 = .ok (.putfield 35, 3) := by decide +kernel
theorem dX3_readTest_29 : decode cX3_readTest 29 = .ok (.aload_n 0, 1) := by decide +kernel
theorem dX3_readTest_30 : decode cX3_readTest 30 = .ok (.getfield 28, 3) := by decide +kernel
theorem dX3_readTest_33 : decode cX3_readTest 33 = .ok (.aload_n 0, 1) := by decide +kernel
theorem dX3_readTest_34 : decode cX3_readTest 34 = .ok (.getfield 35, 3) := by decide +kernel
theorem dX3_readTest_37 : decode cX3_readTest 37 = .ok (.invokevirtual 66, 3) := by decide +kernel
theorem dX3_readTest_40 : decode cX3_readTest 40 = .ok (.istore_n 3, 1) := by decide +kernel
theorem dX3_readTest_41 : decode cX3_readTest 41 = .ok (.aload_n 0, 1) := by decide +kernel
theorem dX3_readTest_42 : decode cX3_readTest 42 = .ok (.iload_n 3, 1) := by decide +kernel
theorem dX3_readTest_43 : decode cX3_readTest 43 = .ok (.ifCond .lt 12, 3) := by decide +kernel
theorem dX3_readTest_46 : decode cX3_readTest 46 = .ok (.iload_n 3, 1) := by decide +kernel
theorem dX3_readTest_47 : decode cX3_readTest 47 = .ok (.iconst 4, 1) := by decide +kernel
theorem dX3_readTest_48 : decode cX3_readTest 48 = .ok (.if_icmp .gt 7, 3) := by decide +kernel
theorem dX3_readTest_51 : decode cX3_readTest 51 = .ok (.iconst 1, 1) := by decide +kernel
theorem dX3_readTest_52 : decode cX3_readTest 52 = .ok (.goto 4, 3) := by decide +kernel
theorem dX3_readTest_55 : decode cX3_readTest 55 = .ok (.iconst 0, 1) := by decide +kernel
theorem dX3_readTest_56 : decode cX3_readTest 56 = .ok (.invokevirtual 63, 3) := by decide +kernel
theorem dX3_readTest_59 : decode cX3_readTest 59 = .ok (.iload_n 3, 1) := by decide +kernel
theorem dX3_readTest_60 : decode cX3_readTest 60 = .ok (.iconst 4, 1) := by decide +kernel
theorem dX3_readTest_61 : decode cX3_readTest 61 = .ok (.if_icmp .ne 16, 3) := by decide +kernel
theorem dX3_readTest_64 : decode cX3_readTest 64 = .ok (.aload_n 0, 1) := by decide +kernel
theorem dX3_readTest_65 : decode cX3_readTest 65 = .ok (.getfield 21, 3) := by decide +kernel
theorem dX3_readTest_68 : decode cX3_readTest 68 = .ok (.iconst 4, 1) := by decide +kernel
theorem dX3_readTest_69 : decode cX3_readTest 69 = .ok (.bipush 17, 2) := by decide +kernel
theorem dX3_readTest_71 : decode cX3_readTest 71 = .ok (.iconst 1, 1) := by decide +kernel
theorem dX3_readTest_72 : decode cX3_readTest 72 = .ok (.iload_n 2, 1) := by decide +kernel
theorem dX3_readTest_73 : decode cX3_readTest 73 = .ok (.invokevirtual 80, 3) := by decide +kernel
theorem dX3_readTest_76 : decode cX3_readTest 76 = .ok (.return_, 1) := by decide +kernel
theorem dX3_readTest_77 : decode cX3_readTest 77 = .ok (.aload_n 0, 1) := by decide +kernel
theorem dX3_readTest_78 : decode cX3_readTest 78 = .ok (.getfield 28, 3) := by decide +kernel
theorem dX3_readTest_81 : decode cX3_readTest 81 = .ok (.aload_n 0, 1) := by decide +kernel
theorem dX3_readTest_82 : decode cX3_readTest 82 = .ok (.getfield 35, 3) := by decide +kernel
theorem dX3_readTest_85 : decode cX3_readTest 85 = .ok (.invokevirtual 66, 3) := by decide +kernel
theorem dX3_readTest_88 : decode cX3_readTest 88 = .ok (.istore 4, 2) := by decide +kernel
theorem dX3_readTest_90 : decode cX3_readTest 90 = .ok (.aload_n 0, 1) := by decide +kernel
theorem dX3_readTest_91 : decode cX3_readTest 91 = .ok (.iload 4, 2) := by decide +kernel
theorem dX3_readTest_93 : decode cX3_readTest 93 = .ok (.bipush 15, 2) := by decide +kernel
theorem dX3_readTest_95 : decode cX3_readTest 95 = .ok (.if_icmp .lt 14, 3) := by decide +kernel
theorem dX3_readTest_98 : decode cX3_readTest 98 = .ok (.iload 4, 2) := by decide +kernel
theorem dX3_readTest_100 : decode cX3_readTest 100 = .ok (.bipush 17, 2) := by decide +kernel
theorem dX3_readTest_102 : decode cX3_readTest 102 = .ok (.if_icmp .gt 7, 3) := by decide +kernel
theorem dX3_readTest_105 : decode cX3_readTest 105 = .ok (.iconst 1, 1) := by decide +kernel
theorem dX3_readTest_106 : decode cX3_readTest 106 = .ok (.goto 4, 3) := by decide +kernel
theorem dX3_readTest_109 : decode cX3_readTest 109 = .ok (.iconst 0, 1) := by decide +kernel
theorem dX3_readTest_110 : decode cX3_readTest 110 = .ok (.invokevirtual 63, 3) := by decide +kernel
theorem dX3_readTest_113 : decode cX3_readTest 113 = .ok (.aload_n 0, 1) := by decide +kernel
theorem dX3_readTest_114 : decode cX3_readTest 114 = .ok (.getfield 28, 3) := by decide +kernel
theorem dX3_readTest_117 : decode cX3_readTest 117 = .ok (.aload_n 0, 1) := by decide +kernel
theorem dX3_readTest_118 : decode cX3_readTest 118 = .ok (.getfield 35, 3) := by decide +kernel
theorem dX3_readTest_121 : decode cX3_readTest 121 = .ok (.invokevirtual 70, 3) := by decide +kernel
theorem dX3_readTest_124 : decode cX3_readTest 124 = .ok (.istore 5, 2) := by decide +kernel
theorem dX3_readTest_126 : decode cX3_readTest 126 = .ok (.aload_n 0, 1) := by decide +kernel
theorem dX3_readTest_127 : decode cX3_readTest 127 = .ok (.aload_n 0, 1) := by decide +kernel
theorem dX3_readTest_128 : decode cX3_readTest 128 = .ok (.bipush 12, 2) := by decide +kernel
theorem dX3_readTest_130 : decode cX3_readTest 130 = .ok (.invokevirtual 49, 3) := by decide +kernel
theorem dX3_readTest_133 : decode cX3_readTest 133 = .ok (.invokevirtual 63, 3) := by decide +kernel
theorem dX3_readTest_136 : decode cX3_readTest 136 = .ok (.aload_n 0, 1) := by decide +kernel
theorem dX3_readTest_137 : decode cX3_readTest 137 = .ok (.invokevirtual 45, 3) := by decide +kernel
theorem dX3_readTest_140 : decode cX3_readTest 140 = .ok (.ifCond .eq 16, 3) := by decide +kernel
theorem dX3_readTest_143 : decode cX3_readTest 143 = .ok (.aload_n 0, 1) := by decide +kernel
theorem dX3_readTest_144 : decode cX3_readTest 144 = .ok (.getfield 21, 3) := by decide +kernel
theorem dX3_readTest_147 : decode cX3_readTest 147 = .ok (.iload_n 3, 1) := by decide +kernel
theorem dX3_readTest_148 : decode cX3_readTest 148 = .ok (.iload 4, 2) := by decide +kernel
theorem dX3_readTest_150 : decode cX3_readTest 150 = .ok (.iload 5, 2) := by decide +kernel
theorem dX3_readTest_152 : decode cX3_readTest 152 = .ok (.iload_n 2, 1) := by decide +kernel
theorem dX3_readTest_153 : decode cX3_readTest 153 = .ok (.invokevirtual 80, 3) := by decide +kernel
theorem dX3_readTest_156 : decode cX3_readTest 156 = .ok (.return_, 1) := by decide +kernel
theorem dX3_isSound_0 : decode cX3_isSound 0 = .ok (.aload_n 0, 1) := by decide +kernel
theorem dX3_isSound_1 : decode cX3_isSound 1 = .ok (.getfield 9, 3) := by decide +kernel
theorem dX3_isSound_4 : decode cX3_isSound 4 = .ok (.ifCond .ne 7, 3) := by decide +kernel
theorem dX3_isSound_7 : decode cX3_isSound 7 = .ok (.iconst 1, 1) := by decide +kernel
theorem dX3_isSound_8 : decode cX3_isSound 8 = .ok (.goto 4, 3) := by decide +kernel
theorem dX3_isSound_11 : decode cX3_isSound 11 = .ok (.iconst 0, 1) := by decide +kernel
theorem dX3_isSound_12 : decode cX3_isSound 12 = .ok (.ireturn, 1) := by decide +kernel
set_option maxRecDepth 20000 in
theorem ggX3_isNext_X8_kindAt : GoodIn wsX3_isNext wsX8_kindAt := goodIn_sub (gw_c (gw_t (gw_l (gw_l (gw_g 6 rfl)))) (gw_a (gw_c (gw_t (gw_l (gw_l (gw_g 7 rfl)))) (gw_c (gw_t (gw_l (gw_l (gw_g 8 rfl)))) gw_n)) gw_X3_isNext_X80)) (by decide +kernel)
set_option maxRecDepth 20000 in
theorem gX3_isNext_X8_kindAt : GoodIn wsX3_isNext (wsV RX3 66 RX8 yX8_kindAt wsX8_kindAt) := goodIn_app (goodIn_sub (gw_c (gw_t (gw_l (gw_l (gw_g 2 rfl)))) (gw_c (gw_t (gw_l (gw_l (gw_g 3 rfl)))) (gw_c (gw_t (gw_l (gw_l (gw_g 4 rfl)))) (gw_c (gw_t (gw_l (gw_l (gw_g 5 rfl)))) gw_n)))) (by decide +kernel)) ggX3_isNext_X8_kindAt
theorem dX3_isNext_0 : decode cX3_isNext 0 = .ok (.aload_n 0, 1) := by decide +kernel
theorem dX3_isNext_1 : decode cX3_isNext 1 = .ok (.getfield 28, 3) := by decide +kernel
theorem dX3_isNext_4 : decode cX3_isNext 4 = .ok (.aload_n 0, 1) := by decide +kernel
theorem dX3_isNext_5 : decode cX3_isNext 5 = .ok (.getfield 35, 3) := by decide +kernel
theorem dX3_isNext_8 : decode cX3_isNext 8 = .ok (.invokevirtual 66, 3) := by decide +kernel
theorem dX3_isNext_11 : decode cX3_isNext 11 = .ok (.iload_n 1, 1) := by decide +kernel
theorem dX3_isNext_12 : decode cX3_isNext 12 = .ok (.if_icmp .ne 7, 3) := by decide +kernel
theorem dX3_isNext_15 : decode cX3_isNext 15 = .ok (.iconst 1, 1) := by decide +kernel
theorem dX3_isNext_16 : decode cX3_isNext 16 = .ok (.goto 4, 3) := by decide +kernel
theorem dX3_isNext_19 : decode cX3_isNext 19 = .ok (.iconst 0, 1) := by decide +kernel
theorem dX3_isNext_20 : decode cX3_isNext 20 = .ok (.ireturn, 1) := by decide +kernel
set_option maxRecDepth 20000 in
theorem ggX3_takeIf_X3_isSound : GoodIn wsX3_takeIf wsX3_isSound := goodIn_sub (gw_c (gw_t (gw_l (gw_l (gw_g 8 rfl)))) (gw_a (gw_c (gw_t (gw_l (gw_l (gw_g 1 rfl)))) gw_n) gw_X3_takeIf_X30)) (by decide +kernel)
set_option maxRecDepth 20000 in
theorem gX3_takeIf_X3_isSound : GoodIn wsX3_takeIf (wsV RX3 45 RX3 yX3_isSound wsX3_isSound) := goodIn_app (goodIn_sub (gw_c (gw_t (gw_l (gw_l (gw_g 4 rfl)))) (gw_c (gw_t (gw_l (gw_l (gw_g 5 rfl)))) (gw_c (gw_t (gw_l (gw_l (gw_g 6 rfl)))) (gw_c (gw_t (gw_l (gw_l (gw_g 7 rfl)))) gw_n)))) (by decide +kernel)) ggX3_takeIf_X3_isSound
set_option maxRecDepth 20000 in
theorem ggX3_takeIf_X8_placeAt : GoodIn wsX3_takeIf wsX8_placeAt := goodIn_sub (gw_c (gw_t (gw_l (gw_l (gw_g 13 rfl)))) (gw_a (gw_c (gw_t (gw_l (gw_l (gw_g 14 rfl)))) (gw_c (gw_t (gw_l (gw_l (gw_g 15 rfl)))) gw_n)) gw_X3_takeIf_X80)) (by decide +kernel)
set_option maxRecDepth 20000 in
theorem gX3_takeIf_X8_placeAt : GoodIn wsX3_takeIf (wsV RX3 84 RX8 yX8_placeAt wsX8_placeAt) := goodIn_app (goodIn_sub (gw_c (gw_t (gw_l (gw_l (gw_g 9 rfl)))) (gw_c (gw_t (gw_l (gw_l (gw_g 10 rfl)))) (gw_c (gw_t (gw_l (gw_l (gw_g 11 rfl)))) (gw_c (gw_t (gw_l (gw_l (gw_g 12 rfl)))) gw_n)))) (by decide +kernel)) ggX3_takeIf_X8_placeAt
theorem dX3_takeIf_0 : decode cX3_takeIf 0 = .ok (.aload_n 0, 1) := by decide +kernel
theorem dX3_takeIf_1 : decode cX3_takeIf 1 = .ok (.invokevirtual 45, 3) := by decide +kernel
theorem dX3_takeIf_4 : decode cX3_takeIf 4 = .ok (.ifCond .ne 4, 3) := by decide +kernel
theorem dX3_takeIf_7 : decode cX3_takeIf 7 = .ok (.return_, 1) := by decide +kernel
theorem dX3_takeIf_8 : decode cX3_takeIf 8 = .ok (.iload_n 1, 1) := by decide +kernel
theorem dX3_takeIf_9 : decode cX3_takeIf 9 = .ok (.ifCond .eq 14, 3) := by decide +kernel
theorem dX3_takeIf_12 : decode cX3_takeIf 12 = .ok (.aload_n 0, 1) := by decide +kernel
theorem dX3_takeIf_13 : decode cX3_takeIf 13 = .ok (.dup, 1) := by decide +kernel
theorem dX3_takeIf_14 : decode cX3_takeIf 14 = .ok (.getfield 35, 3) := by decide +kernel
theorem dX3_takeIf_17 : decode cX3_takeIf 17 = .ok (.iconst 1, 1) := by decide +kernel
theorem dX3_takeIf_18 : decode cX3_takeIf 18 = .ok (.iadd, 1) := by decide +kernel
theorem dX3_takeIf_19 : decode cX3_takeIf 19 = .ok (.putfield 35, 3) := by decide +kernel
theorem dX3_takeIf_22 : decode cX3_takeIf 22 = .ok (.return_, 1) := by decide +kernel
theorem dX3_takeIf_23 : decode cX3_takeIf 23 = .ok (.aload_n 0, 1) := by decide +kernel
theorem dX3_takeIf_24 : decode cX3_takeIf 24 = .ok (.iconst 1, 1) := by decide +kernel
theorem dX3_takeIf_25 : decode cX3_takeIf 25 = .ok (.putfield 9, 3) := by decide +kernel
theorem dX3_takeIf_28 : decode cX3_takeIf 28 = .ok (.aload_n 0, 1) := by decide +kernel
theorem dX3_takeIf_29 : decode cX3_takeIf 29 = .ok (.aload_n 0, 1) := by decide +kernel
theorem dX3_takeIf_30 : decode cX3_takeIf 30 = .ok (.getfield 28, 3) := by decide +kernel
theorem dX3_takeIf_33 : decode cX3_takeIf 33 = .ok (.aload_n 0, 1) := by decide +kernel
theorem dX3_takeIf_34 : decode cX3_takeIf 34 = .ok (.getfield 35, 3) := by decide +kernel
theorem dX3_takeIf_37 : decode cX3_takeIf 37 = .ok (.invokevirtual 84, 3) := by decide +kernel
theorem dX3_takeIf_40 : decode cX3_takeIf 40 = .ok (.putfield 15, 3) := by decide +kernel
theorem dX3_takeIf_43 : decode cX3_takeIf 43 = .ok (.return_, 1) := by decide +kernel
set_option maxRecDepth 20000 in
theorem ggX3_noteSurplus_X8_placeAt : GoodIn wsX3_noteSurplus wsX8_placeAt := goodIn_sub (gw_c (gw_t (gw_l (gw_l (gw_g 7 rfl)))) (gw_a (gw_c (gw_t (gw_l (gw_l (gw_g 8 rfl)))) (gw_c (gw_t (gw_l (gw_l (gw_g 9 rfl)))) gw_n)) gw_X3_noteSurplus_X80)) (by decide +kernel)
set_option maxRecDepth 20000 in
theorem gX3_noteSurplus_X8_placeAt : GoodIn wsX3_noteSurplus (wsV RX3 84 RX8 yX8_placeAt wsX8_placeAt) := goodIn_app (goodIn_sub (gw_c (gw_t (gw_l (gw_l (gw_g 3 rfl)))) (gw_c (gw_t (gw_l (gw_l (gw_g 4 rfl)))) (gw_c (gw_t (gw_l (gw_l (gw_g 5 rfl)))) (gw_c (gw_t (gw_l (gw_l (gw_g 6 rfl)))) gw_n)))) (by decide +kernel)) ggX3_noteSurplus_X8_placeAt
theorem dX3_noteSurplus_0 : decode cX3_noteSurplus 0 = .ok (.aload_n 0, 1) := by decide +kernel
theorem dX3_noteSurplus_1 : decode cX3_noteSurplus 1 = .ok (.getfield 32, 3) := by decide +kernel
theorem dX3_noteSurplus_4 : decode cX3_noteSurplus 4 = .ok (.iconst (-1), 1) := by decide +kernel
theorem dX3_noteSurplus_5 : decode cX3_noteSurplus 5 = .ok (.if_icmp .ne 18, 3) := by decide +kernel
theorem dX3_noteSurplus_8 : decode cX3_noteSurplus 8 = .ok (.aload_n 0, 1) := by decide +kernel
theorem dX3_noteSurplus_9 : decode cX3_noteSurplus 9 = .ok (.aload_n 0, 1) := by decide +kernel
theorem dX3_noteSurplus_10 : decode cX3_noteSurplus 10 = .ok (.getfield 28, 3) := by decide +kernel
theorem dX3_noteSurplus_13 : decode cX3_noteSurplus 13 = .ok (.aload_n 0, 1) := by decide +kernel
theorem dX3_noteSurplus_14 : decode cX3_noteSurplus 14 = .ok (.getfield 35, 3) := by decide +kernel
theorem dX3_noteSurplus_17 : decode cX3_noteSurplus 17 = .ok (.invokevirtual 84, 3) := by decide +kernel
theorem dX3_noteSurplus_20 : decode cX3_noteSurplus 20 = .ok (.putfield 32, 3) := by decide +kernel
theorem dX3_noteSurplus_23 : decode cX3_noteSurplus 23 = .ok (.return_, 1) := by decide +kernel
set_option maxRecDepth 20000 in
theorem ggX4_init_X4_lay : GoodIn wsX4_init wsX4_lay := goodIn_sub (gw_c (gw_t (gw_l (gw_g 10 rfl))) (gw_a (gw_c (gw_t (gw_l (gw_g 11 rfl))) (gw_c (gw_t (gw_l (gw_g 4 rfl))) (gw_c (gw_t (gw_l (gw_g 5 rfl))) (gw_c (gw_t (gw_l (gw_g 12 rfl))) (gw_c (gw_t (gw_l (gw_g 13 rfl))) (gw_c (gw_t (gw_l (gw_g 14 rfl))) (gw_c (gw_t (gw_l (gw_g 15 rfl))) gw_n))))))) gw_X4_init_X40)) (by decide +kernel)
set_option maxRecDepth 20000 in
theorem gX4_init_X4_lay : GoodIn wsX4_init (wsV RX4 18 RX4 yX4_lay wsX4_lay) := goodIn_app (goodIn_sub (gw_c (gw_t (gw_l (gw_g 6 rfl))) (gw_c (gw_t (gw_l (gw_g 7 rfl))) (gw_c (gw_t (gw_l (gw_g 8 rfl))) (gw_c (gw_t (gw_l (gw_g 9 rfl))) gw_n)))) (by decide +kernel)) ggX4_init_X4_lay
theorem dX4_init_0 : decode cX4_init 0 = .ok (.aload_n 0, 1) := by decide +kernel
theorem dX4_init_1 : decode cX4_init 1 = .ok (.invokespecial 3, 3) := by decide +kernel
theorem dX4_init_4 : decode cX4_init 4 = .ok (.aload_n 0, 1) := by decide +kernel
theorem dX4_init_5 : decode cX4_init 5 = .ok (.bipush 9, 2) := by decide +kernel
theorem dX4_init_7 : decode cX4_init 7 = .ok (.newarray .int, 2) := by decide +kernel
theorem dX4_init_9 : decode cX4_init 9 = .ok (.putfield 9, 3) := by decide +kernel
theorem dX4_init_12 : decode cX4_init 12 = .ok (.aload_n 0, 1) := by decide +kernel
theorem dX4_init_13 : decode cX4_init 13 = .ok (.bipush 9, 2) := by decide +kernel
theorem dX4_init_15 : decode cX4_init 15 = .ok (.newarray .int, 2) := by decide +kernel
theorem dX4_init_17 : decode cX4_init 17 = .ok (.putfield 15, 3) := by decide +kernel
theorem dX4_init_20 : decode cX4_init 20 = .ok (.aload_n 0, 1) := by decide +kernel
theorem dX4_init_21 : decode cX4_init 21 = .ok (.iconst 2, 1) := by decide +kernel
theorem dX4_init_22 : decode cX4_init 22 = .ok (.invokevirtual 18, 3) := by decide +kernel
theorem dX4_init_25 : decode cX4_init 25 = .ok (.return_, 1) := by decide +kernel
set_option maxRecDepth 20000 in
theorem ggX4_lay_J7_fill_53178 : GoodIn wsX4_lay wsJ7_fill_53178 := goodIn_sub (gw_c (gw_t (gw_l (gw_g 6 rfl))) gw_n) (by decide +kernel)
set_option maxRecDepth 20000 in
theorem gX4_lay_J7_fill_53178 : GoodIn wsX4_lay (va_wsS RX4 26 yJ7_fill_53178 wsJ7_fill_53178) := goodIn_app (goodIn_sub (gw_c (gw_t (gw_l (gw_g 3 rfl))) (gw_c (gw_t (gw_l (gw_g 4 rfl))) (gw_c (gw_t (gw_l (gw_g 5 rfl))) gw_n))) (by decide +kernel)) ggX4_lay_J7_fill_53178
theorem dX4_lay_0 : decode cX4_lay 0 = .ok (.aload_n 0, 1) := by decide +kernel
theorem dX4_lay_1 : decode cX4_lay 1 = .ok (.iload_n 1, 1) := by decide +kernel
theorem dX4_lay_2 : decode cX4_lay 2 = .ok (.putfield 22, 3) := by decide +kernel
theorem dX4_lay_5 : decode cX4_lay 5 = .ok (.aload_n 0, 1) := by decide +kernel
theorem dX4_lay_6 : decode cX4_lay 6 = .ok (.getfield 9, 3) := by decide +kernel
theorem dX4_lay_9 : decode cX4_lay 9 = .ok (.iconst 1, 1) := by decide +kernel
theorem dX4_lay_10 : decode cX4_lay 10 = .ok (.invokestatic 26, 3) := by decide +kernel
theorem dX4_lay_13 : decode cX4_lay 13 = .ok (.aload_n 0, 1) := by decide +kernel
theorem dX4_lay_14 : decode cX4_lay 14 = .ok (.getfield 15, 3) := by decide +kernel
theorem dX4_lay_17 : decode cX4_lay 17 = .ok (.iconst 1, 1) := by decide +kernel
theorem dX4_lay_18 : decode cX4_lay 18 = .ok (.invokestatic 26, 3) := by decide +kernel
theorem dX4_lay_21 : decode cX4_lay 21 = .ok (.return_, 1) := by decide +kernel
theorem dX4_isStop_0 : decode cX4_isStop 0 = .ok (.iload_n 1, 1) := by decide +kernel
theorem dX4_isStop_1 : decode cX4_isStop 1 = .ok (.ifCond .lt 15, 3) := by decide +kernel
theorem dX4_isStop_4 : decode cX4_isStop 4 = .ok (.iload_n 1, 1) := by decide +kernel
theorem dX4_isStop_5 : decode cX4_isStop 5 = .ok (.aload_n 0, 1) := by decide +kernel
theorem dX4_isStop_6 : decode cX4_isStop 6 = .ok (.getfield 22, 3) := by decide +kernel
theorem dX4_isStop_9 : decode cX4_isStop 9 = .ok (.if_icmp .ge 7, 3) := by decide +kernel
theorem dX4_isStop_12 : decode cX4_isStop 12 = .ok (.iconst 1, 1) := by decide +kernel
theorem dX4_isStop_13 : decode cX4_isStop 13 = .ok (.goto 4, 3) := by decide +kernel
theorem dX4_isStop_16 : decode cX4_isStop 16 = .ok (.iconst 0, 1) := by decide +kernel
theorem dX4_isStop_17 : decode cX4_isStop 17 = .ok (.ireturn, 1) := by decide +kernel
theorem dX4_hasLeg_0 : decode cX4_hasLeg 0 = .ok (.iload_n 1, 1) := by decide +kernel
theorem dX4_hasLeg_1 : decode cX4_hasLeg 1 = .ok (.ifCond .lt 17, 3) := by decide +kernel
theorem dX4_hasLeg_4 : decode cX4_hasLeg 4 = .ok (.iload_n 1, 1) := by decide +kernel
theorem dX4_hasLeg_5 : decode cX4_hasLeg 5 = .ok (.aload_n 0, 1) := by decide +kernel
theorem dX4_hasLeg_6 : decode cX4_hasLeg 6 = .ok (.getfield 22, 3) := by decide +kernel
theorem dX4_hasLeg_9 : decode cX4_hasLeg 9 = .ok (.iconst 1, 1) := by decide +kernel
theorem dX4_hasLeg_10 : decode cX4_hasLeg 10 = .ok (.isub, 1) := by decide +kernel
theorem dX4_hasLeg_11 : decode cX4_hasLeg 11 = .ok (.if_icmp .ge 7, 3) := by decide +kernel
theorem dX4_hasLeg_14 : decode cX4_hasLeg 14 = .ok (.iconst 1, 1) := by decide +kernel
theorem dX4_hasLeg_15 : decode cX4_hasLeg 15 = .ok (.goto 4, 3) := by decide +kernel
theorem dX4_hasLeg_18 : decode cX4_hasLeg 18 = .ok (.iconst 0, 1) := by decide +kernel
theorem dX4_hasLeg_19 : decode cX4_hasLeg 19 = .ok (.ireturn, 1) := by decide +kernel
theorem dX4_isStretch_0 : decode cX4_isStretch 0 = .ok (.iload_n 1, 1) := by decide +kernel
theorem dX4_isStretch_1 : decode cX4_isStretch 1 = .ok (.ifCond .lt 20, 3) := by decide +kernel
theorem dX4_isStretch_4 : decode cX4_isStretch 4 = .ok (.iload_n 1, 1) := by decide +kernel
theorem dX4_isStretch_5 : decode cX4_isStretch 5 = .ok (.iload_n 2, 1) := by decide +kernel
theorem dX4_isStretch_6 : decode cX4_isStretch 6 = .ok (.if_icmp .ge 15, 3) := by decide +kernel
theorem dX4_isStretch_9 : decode cX4_isStretch 9 = .ok (.iload_n 2, 1) := by decide +kernel
theorem dX4_isStretch_10 : decode cX4_isStretch 10 = .ok (.aload_n 0, 1) := by decide +kernel
theorem dX4_isStretch_11 : decode cX4_isStretch 11 = .ok (.getfield 22, 3) := by decide +kernel
theorem dX4_isStretch_14 : decode cX4_isStretch 14 = .ok (.if_icmp .ge 7, 3) := by decide +kernel
theorem dX4_isStretch_17 : decode cX4_isStretch 17 = .ok (.iconst 1, 1) := by decide +kernel
theorem dX4_isStretch_18 : decode cX4_isStretch 18 = .ok (.goto 4, 3) := by decide +kernel
theorem dX4_isStretch_21 : decode cX4_isStretch 21 = .ok (.iconst 0, 1) := by decide +kernel
theorem dX4_isStretch_22 : decode cX4_isStretch 22 = .ok (.ireturn, 1) := by decide +kernel
theorem dX4_hoursTo_0 : decode cX4_hoursTo 0 = .ok (.iconst 0, 1) := by decide +kernel
theorem dX4_hoursTo_1 : decode cX4_hoursTo 1 = .ok (.istore_n 2, 1) := by decide +kernel
theorem dX4_hoursTo_2 : decode cX4_hoursTo 2 = .ok (.iconst 0, 1) := by decide +kernel
theorem dX4_hoursTo_3 : decode cX4_hoursTo 3 = .ok (.istore_n 3, 1) := by decide +kernel
theorem dX4_hoursTo_4 : decode cX4_hoursTo 4 = .ok (.iload_n 3, 1) := by decide +kernel
theorem dX4_hoursTo_5 : decode cX4_hoursTo 5 = .ok (.iload_n 1, 1) := by decide +kernel
theorem dX4_hoursTo_6 : decode cX4_hoursTo 6 = .ok (.if_icmp .ge 27, 3) := by decide +kernel
theorem dX4_hoursTo_9 : decode cX4_hoursTo 9 = .ok (.iload_n 3, 1) := by decide +kernel
theorem dX4_hoursTo_10 : decode cX4_hoursTo 10 = .ok (.aload_n 0, 1) := by decide +kernel
theorem dX4_hoursTo_11 : decode cX4_hoursTo 11 = .ok (.getfield 15, 3) := by decide +kernel
theorem dX4_hoursTo_14 : decode cX4_hoursTo 14 = .ok (.arraylength, 1) := by decide +kernel
theorem dX4_hoursTo_15 : decode cX4_hoursTo 15 = .ok (.if_icmp .ge 18, 3) := by decide +kernel
theorem dX4_hoursTo_18 : decode cX4_hoursTo 18 = .ok (.iload_n 2, 1) := by decide +kernel
theorem dX4_hoursTo_19 : decode cX4_hoursTo 19 = .ok (.aload_n 0, 1) := by decide +kernel
theorem dX4_hoursTo_20 : decode cX4_hoursTo 20 = .ok (.getfield 15, 3) := by decide +kernel
theorem dX4_hoursTo_23 : decode cX4_hoursTo 23 = .ok (.iload_n 3, 1) := by decide +kernel
theorem dX4_hoursTo_24 : decode cX4_hoursTo 24 = .ok (.iaload, 1) := by decide +kernel
theorem dX4_hoursTo_25 : decode cX4_hoursTo 25 = .ok (.iadd, 1) := by decide +kernel
theorem dX4_hoursTo_26 : decode cX4_hoursTo 26 = .ok (.istore_n 2, 1) := by decide +kernel
theorem dX4_hoursTo_27 : decode cX4_hoursTo 27 = .ok (.iinc 3 1, 3) := by decide +kernel
theorem dX4_hoursTo_30 : decode cX4_hoursTo 30 = .ok (.goto (-26), 3) := by decide +kernel
theorem dX4_hoursTo_33 : decode cX4_hoursTo 33 = .ok (.iload_n 2, 1) := by decide +kernel
theorem dX4_hoursTo_34 : decode cX4_hoursTo 34 = .ok (.ireturn, 1) := by decide +kernel
set_option maxRecDepth 20000 in
theorem ggX4_allHours_X4_hoursTo : GoodIn wsX4_allHours wsX4_hoursTo := goodIn_sub (gw_c (gw_t (gw_l (gw_g 5 rfl))) (gw_a (gw_c (gw_t (gw_l (gw_g 6 rfl))) gw_n) gw_X4_allHours_X40)) (by decide +kernel)
set_option maxRecDepth 20000 in
theorem gX4_allHours_X4_hoursTo : GoodIn wsX4_allHours (wsV RX4 32 RX4 yX4_hoursTo wsX4_hoursTo) := goodIn_app (goodIn_sub (gw_c (gw_t (gw_l (gw_g 1 rfl))) (gw_c (gw_t (gw_l (gw_g 2 rfl))) (gw_c (gw_t (gw_l (gw_g 3 rfl))) (gw_c (gw_t (gw_l (gw_g 4 rfl))) gw_n)))) (by decide +kernel)) ggX4_allHours_X4_hoursTo
theorem dX4_allHours_0 : decode cX4_allHours 0 = .ok (.aload_n 0, 1) := by decide +kernel
theorem dX4_allHours_1 : decode cX4_allHours 1 = .ok (.aload_n 0, 1) := by decide +kernel
theorem dX4_allHours_2 : decode cX4_allHours 2 = .ok (.getfield 22, 3) := by decide +kernel
theorem dX4_allHours_5 : decode cX4_allHours 5 = .ok (.iconst 1, 1) := by decide +kernel
theorem dX4_allHours_6 : decode cX4_allHours 6 = .ok (.isub, 1) := by decide +kernel
theorem dX4_allHours_7 : decode cX4_allHours 7 = .ok (.invokevirtual 32, 3) := by decide +kernel
theorem dX4_allHours_10 : decode cX4_allHours 10 = .ok (.ireturn, 1) := by decide +kernel
theorem dX4_allKm_0 : decode cX4_allKm 0 = .ok (.iconst 0, 1) := by decide +kernel
theorem dX4_allKm_1 : decode cX4_allKm 1 = .ok (.istore_n 1, 1) := by decide +kernel
theorem dX4_allKm_2 : decode cX4_allKm 2 = .ok (.iconst 0, 1) := by decide +kernel
theorem dX4_allKm_3 : decode cX4_allKm 3 = .ok (.istore_n 2, 1) := by decide +kernel
theorem dX4_allKm_4 : decode cX4_allKm 4 = .ok (.iload_n 2, 1) := by decide +kernel
theorem dX4_allKm_5 : decode cX4_allKm 5 = .ok (.aload_n 0, 1) := by decide +kernel
theorem dX4_allKm_6 : decode cX4_allKm 6 = .ok (.getfield 22, 3) := by decide +kernel
theorem dX4_allKm_9 : decode cX4_allKm 9 = .ok (.iconst 1, 1) := by decide +kernel
theorem dX4_allKm_10 : decode cX4_allKm 10 = .ok (.isub, 1) := by decide +kernel
theorem dX4_allKm_11 : decode cX4_allKm 11 = .ok (.if_icmp .ge 18, 3) := by decide +kernel
theorem dX4_allKm_14 : decode cX4_allKm 14 = .ok (.iload_n 1, 1) := by decide +kernel
theorem dX4_allKm_15 : decode cX4_allKm 15 = .ok (.aload_n 0, 1) := by decide +kernel
theorem dX4_allKm_16 : decode cX4_allKm 16 = .ok (.getfield 9, 3) := by decide +kernel
theorem dX4_allKm_19 : decode cX4_allKm 19 = .ok (.iload_n 2, 1) := by decide +kernel
theorem dX4_allKm_20 : decode cX4_allKm 20 = .ok (.iaload, 1) := by decide +kernel
theorem dX4_allKm_21 : decode cX4_allKm 21 = .ok (.iadd, 1) := by decide +kernel
theorem dX4_allKm_22 : decode cX4_allKm 22 = .ok (.istore_n 1, 1) := by decide +kernel
theorem dX4_allKm_23 : decode cX4_allKm 23 = .ok (.iinc 2 1, 3) := by decide +kernel
theorem dX4_allKm_26 : decode cX4_allKm 26 = .ok (.goto (-22), 3) := by decide +kernel
theorem dX4_allKm_29 : decode cX4_allKm 29 = .ok (.iload_n 1, 1) := by decide +kernel
theorem dX4_allKm_30 : decode cX4_allKm 30 = .ok (.ireturn, 1) := by decide +kernel
theorem dX4_copyFrom_0 : decode cX4_copyFrom 0 = .ok (.aload_n 0, 1) := by decide +kernel
theorem dX4_copyFrom_1 : decode cX4_copyFrom 1 = .ok (.aload_n 1, 1) := by decide +kernel
theorem dX4_copyFrom_2 : decode cX4_copyFrom 2 = .ok (.getfield 22, 3) := by decide +kernel
theorem dX4_copyFrom_5 : decode cX4_copyFrom 5 = .ok (.putfield 22, 3) := by decide +kernel
theorem dX4_copyFrom_8 : decode cX4_copyFrom 8 = .ok (.aload_n 1, 1) := by decide +kernel
theorem dX4_copyFrom_9 : decode cX4_copyFrom 9 = .ok (.getfield 9, 3) := by decide +kernel
theorem dX4_copyFrom_12 : decode cX4_copyFrom 12 = .ok (.iconst 0, 1) := by decide +kernel
theorem dX4_copyFrom_13 : decode cX4_copyFrom 13 = .ok (.aload_n 0, 1) := by decide +kernel
theorem dX4_copyFrom_14 : decode cX4_copyFrom 14 = .ok (.getfield 9, 3) := by decide +kernel
theorem dX4_copyFrom_17 : decode cX4_copyFrom 17 = .ok (.iconst 0, 1) := by decide +kernel
theorem dX4_copyFrom_18 : decode cX4_copyFrom 18 = .ok (.aload_n 0, 1) := by decide +kernel
theorem dX4_copyFrom_19 : decode cX4_copyFrom 19 = .ok (.getfield 9, 3) := by decide +kernel
theorem dX4_copyFrom_22 : decode cX4_copyFrom 22 = .ok (.arraylength, 1) := by decide +kernel
theorem dX4_copyFrom_23 : decode cX4_copyFrom 23 = .ok (.invokestatic 36, 3) := by decide +kernel
theorem dX4_copyFrom_26 : decode cX4_copyFrom 26 = .ok (.aload_n 1, 1) := by decide +kernel
theorem dX4_copyFrom_27 : decode cX4_copyFrom 27 = .ok (.getfield 15, 3) := by decide +kernel
theorem dX4_copyFrom_30 : decode cX4_copyFrom 30 = .ok (.iconst 0, 1) := by decide +kernel
theorem dX4_copyFrom_31 : decode cX4_copyFrom 31 = .ok (.aload_n 0, 1) := by decide +kernel
theorem dX4_copyFrom_32 : decode cX4_copyFrom 32 = .ok (.getfield 15, 3) := by decide +kernel
theorem dX4_copyFrom_35 : decode cX4_copyFrom 35 = .ok (.iconst 0, 1) := by decide +kernel
theorem dX4_copyFrom_36 : decode cX4_copyFrom 36 = .ok (.aload_n 0, 1) := by decide +kernel
theorem dX4_copyFrom_37 : decode cX4_copyFrom 37 = .ok (.getfield 15, 3) := by decide +kernel
theorem dX4_copyFrom_40 : decode cX4_copyFrom 40 = .ok (.arraylength, 1) := by decide +kernel
theorem dX4_copyFrom_41 : decode cX4_copyFrom 41 = .ok (.invokestatic 36, 3) := by decide +kernel
theorem dX4_copyFrom_44 : decode cX4_copyFrom 44 = .ok (.return_, 1) := by decide +kernel
theorem dX5_init_0 : decode cX5_init 0 = .ok (.aload_n 0, 1) := by decide +kernel
theorem dX5_init_1 : decode cX5_init 1 = .ok (.invokespecial 3, 3) := by decide +kernel
theorem dX5_init_4 : decode cX5_init 4 = .ok (.aload_n 0, 1) := by decide +kernel
theorem dX5_init_5 : decode cX5_init 5 = .ok (.bipush 60, 2) := by decide +kernel
theorem dX5_init_7 : decode cX5_init 7 = .ok (.newarray .int, 2) := by decide +kernel
theorem dX5_init_9 : decode cX5_init 9 = .ok (.putfield 9, 3) := by decide +kernel
theorem dX5_init_12 : decode cX5_init 12 = .ok (.aload_n 0, 1) := by decide +kernel
