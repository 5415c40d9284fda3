theorem dX10_letter_74 : decode cX10_letter 74 = .ok (.iconst 1, 1) := by decide +kernel
theorem dX10_letter_75 : decode cX10_letter 75 = .ok (.iadd, 1) := by decide +kernel
theorem dX10_letter_76 : decode cX10_letter 76 = .ok (.aload_n 0, 1) := by decide +kernel
theorem dX10_letter_77 : decode cX10_letter 77 = .ok (.iload_n 1, 1) := by decide +kernel
theorem dX10_letter_78 : decode cX10_letter 78 = .ok (.iload_n 2, 1) := by decide +kernel
theorem dX10_letter_79 : decode cX10_letter 79 = .ok (.invokevirtual 191, 3) := by decide +kernel
theorem dX10_letter_82 : decode cX10_letter 82 = .ok (.iadd, 1) := by decide +kernel
theorem dX10_letter_83 : decode cX10_letter 83 = .ok (.iastore, 1) := by decide +kernel
theorem dX10_letter_84 : decode cX10_letter 84 = .ok (.aload_n 0, 1) := by decide +kernel
theorem dX10_letter_85 : decode cX10_letter 85 = .ok (.getfield 65, 3) := by decide +kernel
theorem dX10_letter_88 : decode cX10_letter 88 = .ok (.iload 6, 2) := by decide +kernel
theorem dX10_letter_90 : decode cX10_letter 90 = .ok (.aload_n 0, 1) := by decide +kernel
theorem dX10_letter_91 : decode cX10_letter 91 = .ok (.getfield 62, 3) := by decide +kernel
theorem dX10_letter_94 : decode cX10_letter 94 = .ok (.iload 6, 2) := by decide +kernel
theorem dX10_letter_96 : decode cX10_letter 96 = .ok (.iaload, 1) := by decide +kernel
theorem dX10_letter_97 : decode cX10_letter 97 = .ok (.iconst 1, 1) := by decide +kernel
theorem dX10_letter_98 : decode cX10_letter 98 = .ok (.iadd, 1) := by decide +kernel
theorem dX10_letter_99 : decode cX10_letter 99 = .ok (.aload_n 0, 1) := by decide +kernel
theorem dX10_letter_100 : decode cX10_letter 100 = .ok (.iload_n 1, 1) := by decide +kernel
theorem dX10_letter_101 : decode cX10_letter 101 = .ok (.iload_n 2, 1) := by decide +kernel
theorem dX10_letter_102 : decode cX10_letter 102 = .ok (.invokevirtual 191, 3) := by decide +kernel
theorem dX10_letter_105 : decode cX10_letter 105 = .ok (.iadd, 1) := by decide +kernel
theorem dX10_letter_106 : decode cX10_letter 106 = .ok (.iastore, 1) := by decide +kernel
theorem dX10_letter_107 : decode cX10_letter 107 = .ok (.aload_n 0, 1) := by decide +kernel
theorem dX10_letter_108 : decode cX10_letter 108 = .ok (.getfield 68, 3) := by decide +kernel
theorem dX10_letter_111 : decode cX10_letter 111 = .ok (.iload 6, 2) := by decide +kernel
theorem dX10_letter_113 : decode cX10_letter 113 = .ok (.iload_n 2, 1) := by decide +kernel
theorem dX10_letter_114 : decode cX10_letter 114 = .ok (.iastore, 1) := by decide +kernel
theorem dX10_letter_115 : decode cX10_letter 115 = .ok (.aload_n 0, 1) := by decide +kernel
theorem dX10_letter_116 : decode cX10_letter 116 = .ok (.getfield 71, 3) := by decide +kernel
theorem dX10_letter_119 : decode cX10_letter 119 = .ok (.iload 6, 2) := by decide +kernel
theorem dX10_letter_121 : decode cX10_letter 121 = .ok (.iload_n 3, 1) := by decide +kernel
theorem dX10_letter_122 : decode cX10_letter 122 = .ok (.iastore, 1) := by decide +kernel
theorem dX10_letter_123 : decode cX10_letter 123 = .ok (.aload_n 0, 1) := by decide +kernel
theorem dX10_letter_124 : decode cX10_letter 124 = .ok (.getfield 74, 3) := by decide +kernel
theorem dX10_letter_127 : decode cX10_letter 127 = .ok (.iload 6, 2) := by decide +kernel
theorem dX10_letter_129 : decode cX10_letter 129 = .ok (.iload 4, 2) := by decide +kernel
theorem dX10_letter_131 : decode cX10_letter 131 = .ok (.iastore, 1) := by decide +kernel
theorem dX10_letter_132 : decode cX10_letter 132 = .ok (.aload_n 0, 1) := by decide +kernel
theorem dX10_letter_133 : decode cX10_letter 133 = .ok (.getfield 77, 3) := by decide +kernel
theorem dX10_letter_136 : decode cX10_letter 136 = .ok (.iload 6, 2) := by decide +kernel
theorem dX10_letter_138 : decode cX10_letter 138 = .ok (.iload 5, 2) := by decide +kernel
theorem dX10_letter_140 : decode cX10_letter 140 = .ok (.iastore, 1) := by decide +kernel
theorem dX10_letter_141 : decode cX10_letter 141 = .ok (.aload_n 0, 1) := by decide +kernel
theorem dX10_letter_142 : decode cX10_letter 142 = .ok (.getfield 80, 3) := by decide +kernel
theorem dX10_letter_145 : decode cX10_letter 145 = .ok (.iload 6, 2) := by decide +kernel
theorem dX10_letter_147 : decode cX10_letter 147 = .ok (.iconst (-1), 1) := by decide +kernel
theorem dX10_letter_148 : decode cX10_letter 148 = .ok (.iastore, 1) := by decide +kernel
theorem dX10_letter_149 : decode cX10_letter 149 = .ok (.iload 6, 2) := by decide +kernel
theorem dX10_letter_151 : decode cX10_letter 151 = .ok (.ireturn, 1) := by decide +kernel
set_option maxRecDepth 20000 in
theorem ggX10_post_X10_in : GoodIn wsX10_post wsX10_in := goodIn_r _ [10] (by decide +kernel) (by decide +kernel)
set_option maxRecDepth 20000 in
theorem gX10_post_X10_in : GoodIn wsX10_post (va_wsS RX10 146 yX10_in wsX10_in) := goodIn_app (goodIn_of _ (by decide +kernel)) ggX10_post_X10_in
theorem dX10_post_0 : decode cX10_post 0 = .ok (.aload_n 0, 1) := by decide +kernel
theorem dX10_post_1 : decode cX10_post 1 = .ok (.iconst 0, 1) := by decide +kernel
theorem dX10_post_2 : decode cX10_post 2 = .ok (.putfield 139, 3) := by decide +kernel
theorem dX10_post_5 : decode cX10_post 5 = .ok (.iload_n 1, 1) := by decide +kernel
theorem dX10_post_6 : decode cX10_post 6 = .ok (.iconst 0, 1) := by decide +kernel
theorem dX10_post_7 : decode cX10_post 7 = .ok (.aload_n 0, 1) := by decide +kernel
theorem dX10_post_8 : decode cX10_post 8 = .ok (.getfield 59, 3) := by decide +kernel
theorem dX10_post_11 : decode cX10_post 11 = .ok (.iconst 0, 1) := by decide +kernel
theorem dX10_post_12 : decode cX10_post 12 = .ok (.iaload, 1) := by decide +kernel
theorem dX10_post_13 : decode cX10_post 13 = .ok (.iconst 1, 1) := by decide +kernel
theorem dX10_post_14 : decode cX10_post 14 = .ok (.isub, 1) := by decide +kernel
theorem dX10_post_15 : decode cX10_post 15 = .ok (.invokestatic 146, 3) := by decide +kernel
theorem dX10_post_18 : decode cX10_post 18 = .ok (.ifCond .ne 5, 3) := by decide +kernel
theorem dX10_post_21 : decode cX10_post 21 = .ok (.iconst (-1), 1) := by decide +kernel
theorem dX10_post_22 : decode cX10_post 22 = .ok (.ireturn, 1) := by decide +kernel
theorem dX10_post_23 : decode cX10_post 23 = .ok (.iload_n 2, 1) := by decide +kernel
theorem dX10_post_24 : decode cX10_post 24 = .ok (.tableswitch 113 0 3 #[32, 39, 46, 86], 32) := by decide +kernel
theorem dX10_post_56 : decode cX10_post 56 = .ok (.aload_n 0, 1) := by decide +kernel
theorem dX10_post_57 : decode cX10_post 57 = .ok (.getfield 62, 3) := by decide +kernel
theorem dX10_post_60 : decode cX10_post 60 = .ok (.iload_n 1, 1) := by decide +kernel
theorem dX10_post_61 : decode cX10_post 61 = .ok (.iaload, 1) := by decide +kernel
theorem dX10_post_62 : decode cX10_post 62 = .ok (.ireturn, 1) := by decide +kernel
theorem dX10_post_63 : decode cX10_post 63 = .ok (.aload_n 0, 1) := by decide +kernel
theorem dX10_post_64 : decode cX10_post 64 = .ok (.getfield 65, 3) := by decide +kernel
theorem dX10_post_67 : decode cX10_post 67 = .ok (.iload_n 1, 1) := by decide +kernel
theorem dX10_post_68 : decode cX10_post 68 = .ok (.iaload, 1) := by decide +kernel
theorem dX10_post_69 : decode cX10_post 69 = .ok (.ireturn, 1) := by decide +kernel
theorem dX10_post_70 : decode cX10_post 70 = .ok (.aload_n 0, 1) := by decide +kernel
theorem dX10_post_71 : decode cX10_post 71 = .ok (.getfield 83, 3) := by decide +kernel
theorem dX10_post_74 : decode cX10_post 74 = .ok (.iconst 0, 1) := by decide +kernel
theorem dX10_post_75 : decode cX10_post 75 = .ok (.iaload, 1) := by decide +kernel
theorem dX10_post_76 : decode cX10_post 76 = .ok (.aload_n 0, 1) := by decide +kernel
theorem dX10_post_77 : decode cX10_post 77 = .ok (.getfield 65, 3) := by decide +kernel
theorem dX10_post_80 : decode cX10_post 80 = .ok (.iload_n 1, 1) := by decide +kernel
theorem dX10_post_81 : decode cX10_post 81 = .ok (.iaload, 1) := by decide +kernel
theorem dX10_post_82 : decode cX10_post 82 = .ok (.if_icmp .lt 7, 3) := by decide +kernel
theorem dX10_post_85 : decode cX10_post 85 = .ok (.iconst 2, 1) := by decide +kernel
theorem dX10_post_86 : decode cX10_post 86 = .ok (.goto 23, 3) := by decide +kernel
theorem dX10_post_89 : decode cX10_post 89 = .ok (.aload_n 0, 1) := by decide +kernel
theorem dX10_post_90 : decode cX10_post 90 = .ok (.getfield 83, 3) := by decide +kernel
theorem dX10_post_93 : decode cX10_post 93 = .ok (.iconst 0, 1) := by decide +kernel
theorem dX10_post_94 : decode cX10_post 94 = .ok (.iaload, 1) := by decide +kernel
theorem dX10_post_95 : decode cX10_post 95 = .ok (.aload_n 0, 1) := by decide +kernel
theorem dX10_post_96 : decode cX10_post 96 = .ok (.getfield 62, 3) := by decide +kernel
theorem dX10_post_99 : decode cX10_post 99 = .ok (.iload_n 1, 1) := by decide +kernel
theorem dX10_post_100 : decode cX10_post 100 = .ok (.iaload, 1) := by decide +kernel
theorem dX10_post_101 : decode cX10_post 101 = .ok (.if_icmp .lt 7, 3) := by decide +kernel
theorem dX10_post_104 : decode cX10_post 104 = .ok (.iconst 1, 1) := by decide +kernel
theorem dX10_post_105 : decode cX10_post 105 = .ok (.goto 4, 3) := by decide +kernel
theorem dX10_post_108 : decode cX10_post 108 = .ok (.iconst 0, 1) := by decide +kernel
theorem dX10_post_109 : decode cX10_post 109 = .ok (.ireturn, 1) := by decide +kernel
theorem dX10_post_110 : decode cX10_post 110 = .ok (.aload_n 0, 1) := by decide +kernel
theorem dX10_post_111 : decode cX10_post 111 = .ok (.getfield 83, 3) := by decide +kernel
theorem dX10_post_114 : decode cX10_post 114 = .ok (.iconst 0, 1) := by decide +kernel
theorem dX10_post_115 : decode cX10_post 115 = .ok (.iaload, 1) := by decide +kernel
theorem dX10_post_116 : decode cX10_post 116 = .ok (.aload_n 0, 1) := by decide +kernel
theorem dX10_post_117 : decode cX10_post 117 = .ok (.getfield 65, 3) := by decide +kernel
theorem dX10_post_120 : decode cX10_post 120 = .ok (.iload_n 1, 1) := by decide +kernel
theorem dX10_post_121 : decode cX10_post 121 = .ok (.iaload, 1) := by decide +kernel
theorem dX10_post_122 : decode cX10_post 122 = .ok (.if_icmp .lt 12, 3) := by decide +kernel
theorem dX10_post_125 : decode cX10_post 125 = .ok (.aload_n 0, 1) := by decide +kernel
theorem dX10_post_126 : decode cX10_post 126 = .ok (.getfield 80, 3) := by decide +kernel
theorem dX10_post_129 : decode cX10_post 129 = .ok (.iload_n 1, 1) := by decide +kernel
theorem dX10_post_130 : decode cX10_post 130 = .ok (.iaload, 1) := by decide +kernel
theorem dX10_post_131 : decode cX10_post 131 = .ok (.goto 5, 3) := by decide +kernel
theorem dX10_post_134 : decode cX10_post 134 = .ok (.bipush (-2), 2) := by decide +kernel
theorem dX10_post_136 : decode cX10_post 136 = .ok (.ireturn, 1) := by decide +kernel
theorem dX10_post_137 : decode cX10_post 137 = .ok (.iconst (-1), 1) := by decide +kernel
theorem dX10_post_138 : decode cX10_post 138 = .ok (.ireturn, 1) := by decide +kernel
set_option maxRecDepth 20000 in
theorem ggX10_hours_X10_in : GoodIn wsX10_hours wsX10_in := goodIn_r _ [13] (by decide +kernel) (by decide +kernel)
set_option maxRecDepth 20000 in
theorem gX10_hours_X10_in : GoodIn wsX10_hours (va_wsS RX10 146 yX10_in wsX10_in) := goodIn_app (goodIn_of _ (by decide +kernel)) ggX10_hours_X10_in
theorem dX10_hours_0 : decode cX10_hours 0 = .ok (.aload_n 0, 1) := by decide +kernel
theorem dX10_hours_1 : decode cX10_hours 1 = .ok (.iconst 0, 1) := by decide +kernel
theorem dX10_hours_2 : decode cX10_hours 2 = .ok (.putfield 139, 3) := by decide +kernel
theorem dX10_hours_5 : decode cX10_hours 5 = .ok (.iload_n 1, 1) := by decide +kernel
theorem dX10_hours_6 : decode cX10_hours 6 = .ok (.iconst 1, 1) := by decide +kernel
theorem dX10_hours_7 : decode cX10_hours 7 = .ok (.bipush 100, 2) := by decide +kernel
theorem dX10_hours_9 : decode cX10_hours 9 = .ok (.invokestatic 146, 3) := by decide +kernel
theorem dX10_hours_12 : decode cX10_hours 12 = .ok (.ifCond .eq 17, 3) := by decide +kernel
theorem dX10_hours_15 : decode cX10_hours 15 = .ok (.aload_n 0, 1) := by decide +kernel
theorem dX10_hours_16 : decode cX10_hours 16 = .ok (.getfield 83, 3) := by decide +kernel
theorem dX10_hours_19 : decode cX10_hours 19 = .ok (.iconst 0, 1) := by decide +kernel
theorem dX10_hours_20 : decode cX10_hours 20 = .ok (.iaload, 1) := by decide +kernel
theorem dX10_hours_21 : decode cX10_hours 21 = .ok (.iload_n 1, 1) := by decide +kernel
theorem dX10_hours_22 : decode cX10_hours 22 = .ok (.iadd, 1) := by decide +kernel
theorem dX10_hours_23 : decode cX10_hours 23 = .ok (.sipush 2000, 3) := by decide +kernel
theorem dX10_hours_26 : decode cX10_hours 26 = .ok (.if_icmp .le 5, 3) := by decide +kernel
theorem dX10_hours_29 : decode cX10_hours 29 = .ok (.iconst (-1), 1) := by decide +kernel
theorem dX10_hours_30 : decode cX10_hours 30 = .ok (.ireturn, 1) := by decide +kernel
theorem dX10_hours_31 : decode cX10_hours 31 = .ok (.iconst 0, 1) := by decide +kernel
theorem dX10_hours_32 : decode cX10_hours 32 = .ok (.istore_n 2, 1) := by decide +kernel
theorem dX10_hours_33 : decode cX10_hours 33 = .ok (.iload_n 2, 1) := by decide +kernel
theorem dX10_hours_34 : decode cX10_hours 34 = .ok (.iload_n 1, 1) := by decide +kernel
theorem dX10_hours_35 : decode cX10_hours 35 = .ok (.if_icmp .ge 86, 3) := by decide +kernel
theorem dX10_hours_38 : decode cX10_hours 38 = .ok (.aload_n 0, 1) := by decide +kernel
theorem dX10_hours_39 : decode cX10_hours 39 = .ok (.getfield 83, 3) := by decide +kernel
theorem dX10_hours_42 : decode cX10_hours 42 = .ok (.iconst 0, 1) := by decide +kernel
theorem dX10_hours_43 : decode cX10_hours 43 = .ok (.dup2, 1) := by decide +kernel
theorem dX10_hours_44 : decode cX10_hours 44 = .ok (.iaload, 1) := by decide +kernel
theorem dX10_hours_45 : decode cX10_hours 45 = .ok (.iconst 1, 1) := by decide +kernel
theorem dX10_hours_46 : decode cX10_hours 46 = .ok (.iadd, 1) := by decide +kernel
theorem dX10_hours_47 : decode cX10_hours 47 = .ok (.iastore, 1) := by decide +kernel
theorem dX10_hours_48 : decode cX10_hours 48 = .ok (.iconst 0, 1) := by decide +kernel
theorem dX10_hours_49 : decode cX10_hours 49 = .ok (.istore_n 3, 1) := by decide +kernel
theorem dX10_hours_50 : decode cX10_hours 50 = .ok (.iload_n 3, 1) := by decide +kernel
theorem dX10_hours_51 : decode cX10_hours 51 = .ok (.aload_n 0, 1) := by decide +kernel
theorem dX10_hours_52 : decode cX10_hours 52 = .ok (.getfield 59, 3) := by decide +kernel
theorem dX10_hours_55 : decode cX10_hours 55 = .ok (.iconst 0, 1) := by decide +kernel
theorem dX10_hours_56 : decode cX10_hours 56 = .ok (.iaload, 1) := by decide +kernel
theorem dX10_hours_57 : decode cX10_hours 57 = .ok (.if_icmp .ge 58, 3) := by decide +kernel
theorem dX10_hours_60 : decode cX10_hours 60 = .ok (.aload_n 0, 1) := by decide +kernel
theorem dX10_hours_61 : decode cX10_hours 61 = .ok (.getfield 62, 3) := by decide +kernel
theorem dX10_hours_64 : decode cX10_hours 64 = .ok (.iload_n 3, 1) := by decide +kernel
theorem dX10_hours_65 : decode cX10_hours 65 = .ok (.iaload, 1) := by decide +kernel
theorem dX10_hours_66 : decode cX10_hours 66 = .ok (.aload_n 0, 1) := by decide +kernel
theorem dX10_hours_67 : decode cX10_hours 67 = .ok (.getfield 83, 3) := by decide +kernel
theorem dX10_hours_70 : decode cX10_hours 70 = .ok (.iconst 0, 1) := by decide +kernel
theorem dX10_hours_71 : decode cX10_hours 71 = .ok (.iaload, 1) := by decide +kernel
theorem dX10_hours_72 : decode cX10_hours 72 = .ok (.if_icmp .ne 37, 3) := by decide +kernel
theorem dX10_hours_75 : decode cX10_hours 75 = .ok (.aload_n 0, 1) := by decide +kernel
theorem dX10_hours_76 : decode cX10_hours 76 = .ok (.getfield 80, 3) := by decide +kernel
theorem dX10_hours_79 : decode cX10_hours 79 = .ok (.iload_n 3, 1) := by decide +kernel
theorem dX10_hours_80 : decode cX10_hours 80 = .ok (.aload_n 0, 1) := by decide +kernel
theorem dX10_hours_81 : decode cX10_hours 81 = .ok (.aload_n 0, 1) := by decide +kernel
theorem dX10_hours_82 : decode cX10_hours 82 = .ok (.getfield 68, 3) := by decide +kernel
theorem dX10_hours_85 : decode cX10_hours 85 = .ok (.iload_n 3, 1) := by decide +kernel
theorem dX10_hours_86 : decode cX10_hours 86 = .ok (.iaload, 1) := by decide +kernel
theorem dX10_hours_87 : decode cX10_hours 87 = .ok (.aload_n 0, 1) := by decide +kernel
theorem dX10_hours_88 : decode cX10_hours 88 = .ok (.getfield 71, 3) := by decide +kernel
theorem dX10_hours_91 : decode cX10_hours 91 = .ok (.iload_n 3, 1) := by decide +kernel
theorem dX10_hours_92 : decode cX10_hours 92 = .ok (.iaload, 1) := by decide +kernel
theorem dX10_hours_93 : decode cX10_hours 93 = .ok (.aload_n 0, 1) := by decide +kernel
theorem dX10_hours_94 : decode cX10_hours 94 = .ok (.getfield 74, 3) := by decide +kernel
theorem dX10_hours_97 : decode cX10_hours 97 = .ok (.iload_n 3, 1) := by decide +kernel
theorem dX10_hours_98 : decode cX10_hours 98 = .ok (.iaload, 1) := by decide +kernel
theorem dX10_hours_99 : decode cX10_hours 99 = .ok (.aload_n 0, 1) := by decide +kernel
theorem dX10_hours_100 : decode cX10_hours 100 = .ok (.getfield 77, 3) := by decide +kernel
theorem dX10_hours_103 : decode cX10_hours 103 = .ok (.iload_n 3, 1) := by decide +kernel
theorem dX10_hours_104 : decode cX10_hours 104 = .ok (.iaload, 1) := by decide +kernel
theorem dX10_hours_105 : decode cX10_hours 105 = .ok (.invokevirtual 188, 3) := by decide +kernel
theorem dX10_hours_108 : decode cX10_hours 108 = .ok (.iastore, 1) := by decide +kernel
theorem dX10_hours_109 : decode cX10_hours 109 = .ok (.iinc 3 1, 3) := by decide +kernel
theorem dX10_hours_112 : decode cX10_hours 112 = .ok (.goto (-62), 3) := by decide +kernel
theorem dX10_hours_115 : decode cX10_hours 115 = .ok (.iinc 2 1, 3) := by decide +kernel
theorem dX10_hours_118 : decode cX10_hours 118 = .ok (.goto (-85), 3) := by decide +kernel
theorem dX10_hours_121 : decode cX10_hours 121 = .ok (.aload_n 0, 1) := by decide +kernel
theorem dX10_hours_122 : decode cX10_hours 122 = .ok (.getfield 83, 3) := by decide +kernel
theorem dX10_hours_125 : decode cX10_hours 125 = .ok (.iconst 0, 1) := by decide +kernel
theorem dX10_hours_126 : decode cX10_hours 126 = .ok (.iaload, 1) := by decide +kernel
theorem dX10_hours_127 : decode cX10_hours 127 = .ok (.ireturn, 1) := by decide +kernel
theorem dX10_hasLeft_0 : decode cX10_hasLeft 0 = .ok (.aload_n 0, 1) := by decide +kernel
theorem dX10_hasLeft_1 : decode cX10_hasLeft 1 = .ok (.getfield 83, 3) := by decide +kernel
theorem dX10_hasLeft_4 : decode cX10_hasLeft 4 = .ok (.iconst 0, 1) := by decide +kernel
theorem dX10_hasLeft_5 : decode cX10_hasLeft 5 = .ok (.iaload, 1) := by decide +kernel
theorem dX10_hasLeft_6 : decode cX10_hasLeft 6 = .ok (.bipush 24, 2) := by decide +kernel
theorem dX10_hasLeft_8 : decode cX10_hasLeft 8 = .ok (.iload_n 1, 1) := by decide +kernel
theorem dX10_hasLeft_9 : decode cX10_hasLeft 9 = .ok (.imul, 1) := by decide +kernel
theorem dX10_hasLeft_10 : decode cX10_hasLeft 10 = .ok (.if_icmp .lt 7, 3) := by decide +kernel
theorem dX10_hasLeft_13 : decode cX10_hasLeft 13 = .ok (.iconst 1, 1) := by decide +kernel
theorem dX10_hasLeft_14 : decode cX10_hasLeft 14 = .ok (.goto 4, 3) := by decide +kernel
theorem dX10_hasLeft_17 : decode cX10_hasLeft 17 = .ok (.iconst 0, 1) := by decide +kernel
theorem dX10_hasLeft_18 : decode cX10_hasLeft 18 = .ok (.ireturn, 1) := by decide +kernel
set_option maxRecDepth 20000 in
theorem ggX10_moved_X10_isRun : GoodIn wsX10_moved wsX10_isRun := goodIn_r _ [14, 15, 16, 17, 13, 18, 42, 43, 44, 45, 46, 47, 48, 49, 50, 51, 52, 53, 54, 55, 56, 57, 58, 59, 60, 61, 62, 63, 64, 65, 66, 67, 68, 69, 70, 71, 72, 73, 74, 75, 76, 77, 78, 79, 80, 81, 82, 83, 84, 85, 86, 87, 88, 89, 90, 91, 92, 93, 94] (by decide +kernel) (by decide +kernel)
set_option maxRecDepth 20000 in
theorem gX10_moved_X10_isRun : GoodIn wsX10_moved (wsV RX10 166 RX10 yX10_isRun wsX10_isRun) := goodIn_app (goodIn_of _ (by decide +kernel)) ggX10_moved_X10_isRun
set_option maxRecDepth 20000 in
theorem ggX10_moved_X10_hasLeft : GoodIn wsX10_moved wsX10_hasLeft := goodIn_r _ [22, 23, 42, 43, 44, 45, 46, 47, 48, 49, 50, 51, 52, 53, 54, 55, 56, 57, 58, 59, 60, 61, 62, 63, 64, 65, 66, 67, 68, 69, 70, 71, 72, 73, 74, 75, 76, 77, 78, 79, 80, 81, 82, 83, 84, 85, 86, 87, 88, 89, 90, 91, 92, 93, 94] (by decide +kernel) (by decide +kernel)
set_option maxRecDepth 20000 in
theorem gX10_moved_X10_hasLeft : GoodIn wsX10_moved (wsV RX10 200 RX10 yX10_hasLeft wsX10_hasLeft) := goodIn_app (goodIn_of _ (by decide +kernel)) ggX10_moved_X10_hasLeft
theorem dX10_moved_0 : decode cX10_moved 0 = .ok (.aload_n 0, 1) := by decide +kernel
theorem dX10_moved_1 : decode cX10_moved 1 = .ok (.iconst 0, 1) := by decide +kernel
theorem dX10_moved_2 : decode cX10_moved 2 = .ok (.putfield 139, 3) := by decide +kernel
theorem dX10_moved_5 : decode cX10_moved 5 = .ok (.aload_n 0, 1) := by decide +kernel
theorem dX10_moved_6 : decode cX10_moved 6 = .ok (.iload_n 1, 1) := by decide +kernel
theorem dX10_moved_7 : decode cX10_moved 7 = .ok (.invokevirtual 166, 3) := by decide +kernel
theorem dX10_moved_10 : decode cX10_moved 10 = .ok (.ifCond .eq 11, 3) := by decide +kernel
theorem dX10_moved_13 : decode cX10_moved 13 = .ok (.aload_n 0, 1) := by decide +kernel
theorem dX10_moved_14 : decode cX10_moved 14 = .ok (.iload_n 1, 1) := by decide +kernel
theorem dX10_moved_15 : decode cX10_moved 15 = .ok (.invokevirtual 200, 3) := by decide +kernel
theorem dX10_moved_18 : decode cX10_moved 18 = .ok (.ifCond .eq 5, 3) := by decide +kernel
theorem dX10_moved_21 : decode cX10_moved 21 = .ok (.iconst (-1), 1) := by decide +kernel
theorem dX10_moved_22 : decode cX10_moved 22 = .ok (.ireturn, 1) := by decide +kernel
theorem dX10_moved_23 : decode cX10_moved 23 = .ok (.iconst 0, 1) := by decide +kernel
theorem dX10_moved_24 : decode cX10_moved 24 = .ok (.istore_n 2, 1) := by decide +kernel
theorem dX10_moved_25 : decode cX10_moved 25 = .ok (.iload_n 2, 1) := by decide +kernel
theorem dX10_moved_26 : decode cX10_moved 26 = .ok (.aload_n 0, 1) := by decide +kernel
theorem dX10_moved_27 : decode cX10_moved 27 = .ok (.getfield 38, 3) := by decide +kernel
theorem dX10_moved_30 : decode cX10_moved 30 = .ok (.iconst 0, 1) := by decide +kernel
theorem dX10_moved_31 : decode cX10_moved 31 = .ok (.iaload, 1) := by decide +kernel
theorem dX10_moved_32 : decode cX10_moved 32 = .ok (.if_icmp .ge 21, 3) := by decide +kernel
theorem dX10_moved_35 : decode cX10_moved 35 = .ok (.aload_n 0, 1) := by decide +kernel
theorem dX10_moved_36 : decode cX10_moved 36 = .ok (.getfield 110, 3) := by decide +kernel
theorem dX10_moved_39 : decode cX10_moved 39 = .ok (.iload_n 2, 1) := by decide +kernel
theorem dX10_moved_40 : decode cX10_moved 40 = .ok (.aload_n 0, 1) := by decide +kernel
theorem dX10_moved_41 : decode cX10_moved 41 = .ok (.getfield 44, 3) := by decide +kernel
theorem dX10_moved_44 : decode cX10_moved 44 = .ok (.iload_n 2, 1) := by decide +kernel
theorem dX10_moved_45 : decode cX10_moved 45 = .ok (.iaload, 1) := by decide +kernel
theorem dX10_moved_46 : decode cX10_moved 46 = .ok (.iastore, 1) := by decide +kernel
theorem dX10_moved_47 : decode cX10_moved 47 = .ok (.iinc 2 1, 3) := by decide +kernel
theorem dX10_moved_50 : decode cX10_moved 50 = .ok (.goto (-25), 3) := by decide +kernel
theorem dX10_moved_53 : decode cX10_moved 53 = .ok (.iconst 0, 1) := by decide +kernel
theorem dX10_moved_54 : decode cX10_moved 54 = .ok (.istore_n 2, 1) := by decide +kernel
theorem dX10_moved_55 : decode cX10_moved 55 = .ok (.iload_n 2, 1) := by decide +kernel
theorem dX10_moved_56 : decode cX10_moved 56 = .ok (.bipush 6, 2) := by decide +kernel
theorem dX10_moved_58 : decode cX10_moved 58 = .ok (.if_icmp .ge 18, 3) := by decide +kernel
theorem dX10_moved_61 : decode cX10_moved 61 = .ok (.aload_n 0, 1) := by decide +kernel
theorem dX10_moved_62 : decode cX10_moved 62 = .ok (.iload_n 2, 1) := by decide +kernel
theorem dX10_moved_63 : decode cX10_moved 63 = .ok (.iload_n 1, 1) := by decide +kernel
theorem dX10_moved_64 : decode cX10_moved 64 = .ok (.iconst (-1), 1) := by decide +kernel
theorem dX10_moved_65 : decode cX10_moved 65 = .ok (.iconst (-1), 1) := by decide +kernel
theorem dX10_moved_66 : decode cX10_moved 66 = .ok (.invokevirtual 203, 3) := by decide +kernel
theorem dX10_moved_69 : decode cX10_moved 69 = .ok (.istore_n 3, 1) := by decide +kernel
theorem dX10_moved_70 : decode cX10_moved 70 = .ok (.iinc 2 1, 3) := by decide +kernel
theorem dX10_moved_73 : decode cX10_moved 73 = .ok (.goto (-18), 3) := by decide +kernel
theorem dX10_moved_76 : decode cX10_moved 76 = .ok (.iconst 0, 1) := by decide +kernel
theorem dX10_moved_77 : decode cX10_moved 77 = .ok (.istore_n 2, 1) := by decide +kernel
theorem dX10_moved_78 : decode cX10_moved 78 = .ok (.aload_n 0, 1) := by decide +kernel
theorem dX10_moved_79 : decode cX10_moved 79 = .ok (.iload_n 1, 1) := by decide +kernel
theorem dX10_moved_80 : decode cX10_moved 80 = .ok (.iconst 0, 1) := by decide +kernel
theorem dX10_moved_81 : decode cX10_moved 81 = .ok (.iconst 0, 1) := by decide +kernel
theorem dX10_moved_82 : decode cX10_moved 82 = .ok (.invokevirtual 162, 3) := by decide +kernel
theorem dX10_moved_85 : decode cX10_moved 85 = .ok (.istore_n 3, 1) := by decide +kernel
theorem dX10_moved_86 : decode cX10_moved 86 = .ok (.iload_n 3, 1) := by decide +kernel
theorem dX10_moved_87 : decode cX10_moved 87 = .ok (.aload_n 0, 1) := by decide +kernel
theorem dX10_moved_88 : decode cX10_moved 88 = .ok (.iload_n 1, 1) := by decide +kernel
theorem dX10_moved_89 : decode cX10_moved 89 = .ok (.iconst 1, 1) := by decide +kernel
theorem dX10_moved_90 : decode cX10_moved 90 = .ok (.iadd, 1) := by decide +kernel
theorem dX10_moved_91 : decode cX10_moved 91 = .ok (.iconst 0, 1) := by decide +kernel
theorem dX10_moved_92 : decode cX10_moved 92 = .ok (.iconst 0, 1) := by decide +kernel
theorem dX10_moved_93 : decode cX10_moved 93 = .ok (.invokevirtual 162, 3) := by decide +kernel
theorem dX10_moved_96 : decode cX10_moved 96 = .ok (.if_icmp .ge 16, 3) := by decide +kernel
theorem dX10_moved_99 : decode cX10_moved 99 = .ok (.aload_n 0, 1) := by decide +kernel
theorem dX10_moved_100 : decode cX10_moved 100 = .ok (.getfield 35, 3) := by decide +kernel
theorem dX10_moved_103 : decode cX10_moved 103 = .ok (.iload_n 3, 1) := by decide +kernel
theorem dX10_moved_104 : decode cX10_moved 104 = .ok (.iconst (-1), 1) := by decide +kernel
theorem dX10_moved_105 : decode cX10_moved 105 = .ok (.iastore, 1) := by decide +kernel
theorem dX10_moved_106 : decode cX10_moved 106 = .ok (.iinc 3 1, 3) := by decide +kernel
theorem dX10_moved_109 : decode cX10_moved 109 = .ok (.goto (-23), 3) := by decide +kernel
theorem dX10_moved_112 : decode cX10_moved 112 = .ok (.iconst 0, 1) := by decide +kernel
theorem dX10_moved_113 : decode cX10_moved 113 = .ok (.istore_n 3, 1) := by decide +kernel
theorem dX10_moved_114 : decode cX10_moved 114 = .ok (.iload_n 3, 1) := by decide +kernel
theorem dX10_moved_115 : decode cX10_moved 115 = .ok (.aload_n 0, 1) := by decide +kernel
theorem dX10_moved_116 : decode cX10_moved 116 = .ok (.getfield 38, 3) := by decide +kernel
theorem dX10_moved_119 : decode cX10_moved 119 = .ok (.iconst 0, 1) := by decide +kernel
theorem dX10_moved_120 : decode cX10_moved 120 = .ok (.iaload, 1) := by decide +kernel
theorem dX10_moved_121 : decode cX10_moved 121 = .ok (.if_icmp .ge 111, 3) := by decide +kernel
theorem dX10_moved_124 : decode cX10_moved 124 = .ok (.aload_n 0, 1) := by decide +kernel
theorem dX10_moved_125 : decode cX10_moved 125 = .ok (.getfield 41, 3) := by decide +kernel
theorem dX10_moved_128 : decode cX10_moved 128 = .ok (.iload_n 3, 1) := by decide +kernel
theorem dX10_moved_129 : decode cX10_moved 129 = .ok (.iaload, 1) := by decide +kernel
theorem dX10_moved_130 : decode cX10_moved 130 = .ok (.iload_n 1, 1) := by decide +kernel
theorem dX10_moved_131 : decode cX10_moved 131 = .ok (.if_icmp .ne 95, 3) := by decide +kernel
theorem dX10_moved_134 : decode cX10_moved 134 = .ok (.aload_n 0, 1) := by decide +kernel
theorem dX10_moved_135 : decode cX10_moved 135 = .ok (.getfield 56, 3) := by decide +kernel
theorem dX10_moved_138 : decode cX10_moved 138 = .ok (.iload_n 3, 1) := by decide +kernel
theorem dX10_moved_139 : decode cX10_moved 139 = .ok (.iaload, 1) := by decide +kernel
theorem dX10_moved_140 : decode cX10_moved 140 = .ok (.iconst 1, 1) := by decide +kernel
theorem dX10_moved_141 : decode cX10_moved 141 = .ok (.if_icmp .ne 6, 3) := by decide +kernel
theorem dX10_moved_144 : decode cX10_moved 144 = .ok (.goto 82, 3) := by decide +kernel
theorem dX10_moved_147 : decode cX10_moved 147 = .ok (.iload_n 2, 1) := by decide +kernel
theorem dX10_moved_148 : decode cX10_moved 148 = .ok (.aload_n 0, 1) := by decide +kernel
theorem dX10_moved_149 : decode cX10_moved 149 = .ok (.getfield 44, 3) := by decide +kernel
theorem dX10_moved_152 : decode cX10_moved 152 = .ok (.iload_n 3, 1) := by decide +kernel
theorem dX10_moved_153 : decode cX10_moved 153 = .ok (.iaload, 1) := by decide +kernel
theorem dX10_moved_154 : decode cX10_moved 154 = .ok (.aload_n 0, 1) := by decide +kernel
theorem dX10_moved_155 : decode cX10_moved 155 = .ok (.getfield 110, 3) := by decide +kernel
theorem dX10_moved_158 : decode cX10_moved 158 = .ok (.iload_n 3, 1) := by decide +kernel
theorem dX10_moved_159 : decode cX10_moved 159 = .ok (.iaload, 1) := by decide +kernel
theorem dX10_moved_160 : decode cX10_moved 160 = .ok (.if_icmp .eq 7, 3) := by decide +kernel
theorem dX10_moved_163 : decode cX10_moved 163 = .ok (.iconst 1, 1) := by decide +kernel
theorem dX10_moved_164 : decode cX10_moved 164 = .ok (.goto 4, 3) := by decide +kernel
theorem dX10_moved_167 : decode cX10_moved 167 = .ok (.iconst 0, 1) := by decide +kernel
theorem dX10_moved_168 : decode cX10_moved 168 = .ok (.iadd, 1) := by decide +kernel
theorem dX10_moved_169 : decode cX10_moved 169 = .ok (.istore_n 2, 1) := by decide +kernel
theorem dX10_moved_170 : decode cX10_moved 170 = .ok (.aload_n 0, 1) := by decide +kernel
theorem dX10_moved_171 : decode cX10_moved 171 = .ok (.getfield 44, 3) := by decide +kernel
theorem dX10_moved_174 : decode cX10_moved 174 = .ok (.iload_n 3, 1) := by decide +kernel
theorem dX10_moved_175 : decode cX10_moved 175 = .ok (.aload_n 0, 1) := by decide +kernel
theorem dX10_moved_176 : decode cX10_moved 176 = .ok (.getfield 110, 3) := by decide +kernel
theorem dX10_moved_179 : decode cX10_moved 179 = .ok (.iload_n 3, 1) := by decide +kernel
theorem dX10_moved_180 : decode cX10_moved 180 = .ok (.iaload, 1) := by decide +kernel
theorem dX10_moved_181 : decode cX10_moved 181 = .ok (.iastore, 1) := by decide +kernel
theorem dX10_moved_182 : decode cX10_moved 182 = .ok (.aload_n 0, 1) := by decide +kernel
theorem dX10_moved_183 : decode cX10_moved 183 = .ok (.getfield 47, 3) := by decide +kernel
theorem dX10_moved_186 : decode cX10_moved 186 = .ok (.iload_n 3, 1) := by decide +kernel
theorem dX10_moved_187 : decode cX10_moved 187 = .ok (.iaload, 1) := by decide +kernel
theorem dX10_moved_188 : decode cX10_moved 188 = .ok (.istore 4, 2) := by decide +kernel
theorem dX10_moved_190 : decode cX10_moved 190 = .ok (.iload 4, 2) := by decide +kernel
theorem dX10_moved_192 : decode cX10_moved 192 = .ok (.aload_n 0, 1) := by decide +kernel
theorem dX10_moved_193 : decode cX10_moved 193 = .ok (.getfield 50, 3) := by decide +kernel
theorem dX10_moved_196 : decode cX10_moved 196 = .ok (.iload_n 3, 1) := by decide +kernel
theorem dX10_moved_197 : decode cX10_moved 197 = .ok (.iaload, 1) := by decide +kernel
theorem dX10_moved_198 : decode cX10_moved 198 = .ok (.if_icmp .ge 28, 3) := by decide +kernel
theorem dX10_moved_201 : decode cX10_moved 201 = .ok (.aload_n 0, 1) := by decide +kernel
theorem dX10_moved_202 : decode cX10_moved 202 = .ok (.getfield 35, 3) := by decide +kernel
theorem dX10_moved_205 : decode cX10_moved 205 = .ok (.aload_n 0, 1) := by decide +kernel
theorem dX10_moved_206 : decode cX10_moved 206 = .ok (.iload_n 1, 1) := by decide +kernel
theorem dX10_moved_207 : decode cX10_moved 207 = .ok (.aload_n 0, 1) := by decide +kernel
theorem dX10_moved_208 : decode cX10_moved 208 = .ok (.getfield 44, 3) := by decide +kernel
theorem dX10_moved_211 : decode cX10_moved 211 = .ok (.iload_n 3, 1) := by decide +kernel
theorem dX10_moved_212 : decode cX10_moved 212 = .ok (.iaload, 1) := by decide +kernel
theorem dX10_moved_213 : decode cX10_moved 213 = .ok (.iload 4, 2) := by decide +kernel
theorem dX10_moved_215 : decode cX10_moved 215 = .ok (.invokevirtual 162, 3) := by decide +kernel
theorem dX10_moved_218 : decode cX10_moved 218 = .ok (.iload_n 3, 1) := by decide +kernel
theorem dX10_moved_219 : decode cX10_moved 219 = .ok (.iastore, 1) := by decide +kernel
theorem dX10_moved_220 : decode cX10_moved 220 = .ok (.iinc 4 1, 3) := by decide +kernel
theorem dX10_moved_223 : decode cX10_moved 223 = .ok (.goto (-33), 3) := by decide +kernel
theorem dX10_moved_226 : decode cX10_moved 226 = .ok (.iinc 3 1, 3) := by decide +kernel
theorem dX10_moved_229 : decode cX10_moved 229 = .ok (.goto (-115), 3) := by decide +kernel
theorem dX10_moved_232 : decode cX10_moved 232 = .ok (.iload_n 2, 1) := by decide +kernel
theorem dX10_moved_233 : decode cX10_moved 233 = .ok (.ireturn, 1) := by decide +kernel
set_option maxRecDepth 20000 in
theorem ggX10_wouldFit_X10_isOffice : GoodIn wsX10_wouldFit wsX10_isOffice := goodIn_r _ [6, 7, 8, 5, 9] (by decide +kernel) (by decide +kernel)
set_option maxRecDepth 20000 in
theorem gX10_wouldFit_X10_isOffice : GoodIn wsX10_wouldFit (wsV RX10 158 RX10 yX10_isOffice wsX10_isOffice) := goodIn_app (goodIn_of _ (by decide +kernel)) ggX10_wouldFit_X10_isOffice
set_option maxRecDepth 20000 in
theorem ggX10_wouldFit_X10_isRun : GoodIn wsX10_wouldFit wsX10_isRun := goodIn_r _ [13, 14, 7, 8, 5, 9, 46, 47, 48, 49, 50, 51, 52, 53, 54, 55, 56, 57, 58, 59, 60, 61, 62, 63, 64, 65, 66, 67, 68, 69, 70, 71, 72, 73, 74, 75, 76, 77, 78, 79, 80, 81, 82, 83, 84, 85, 86, 87, 88, 89, 90, 91, 92, 93, 94, 95, 96, 97, 98] (by decide +kernel) (by decide +kernel)
set_option maxRecDepth 20000 in
theorem gX10_wouldFit_X10_isRun : GoodIn wsX10_wouldFit (wsV RX10 166 RX10 yX10_isRun wsX10_isRun) := goodIn_app (goodIn_of _ (by decide +kernel)) ggX10_wouldFit_X10_isRun
set_option maxRecDepth 20000 in
theorem ggX10_wouldFit_X10_hasLeft : GoodIn wsX10_wouldFit wsX10_hasLeft := goodIn_r _ [18, 19, 46, 47, 48, 49, 50, 51, 52, 53, 54, 55, 56, 57, 58, 59, 60, 61, 62, 63, 64, 65, 66, 67, 68, 69, 70, 71, 72, 73, 74, 75, 76, 77, 78, 79, 80, 81, 82, 83, 84, 85, 86, 87, 88, 89, 90, 91, 92, 93, 94, 95, 96, 97, 98] (by decide +kernel) (by decide +kernel)
set_option maxRecDepth 20000 in
theorem gX10_wouldFit_X10_hasLeft : GoodIn wsX10_wouldFit (wsV RX10 200 RX10 yX10_hasLeft wsX10_hasLeft) := goodIn_app (goodIn_of _ (by decide +kernel)) ggX10_wouldFit_X10_hasLeft
set_option maxRecDepth 20000 in
theorem ggX10_wouldFit_X10_isStretch : GoodIn wsX10_wouldFit wsX10_isStretch := goodIn_r _ [23, 24, 46, 47, 48, 49, 50, 51, 52, 53, 54, 55, 56, 57, 58, 59, 60, 61, 62, 63, 64, 65, 66, 67, 68, 69, 70, 71, 72, 73, 74, 75, 76, 77, 78, 79, 80, 81, 82, 83, 84, 85, 86, 87, 88, 89, 90, 91, 92, 93, 94, 95, 96, 97, 98] (by decide +kernel) (by decide +kernel)
set_option maxRecDepth 20000 in
theorem gX10_wouldFit_X10_isStretch : GoodIn wsX10_wouldFit (wsV RX10 169 RX10 yX10_isStretch wsX10_isStretch) := goodIn_app (goodIn_of _ (by decide +kernel)) ggX10_wouldFit_X10_isStretch
theorem dX10_wouldFit_0 : decode cX10_wouldFit 0 = .ok (.aload_n 0, 1) := by decide +kernel
theorem dX10_wouldFit_1 : decode cX10_wouldFit 1 = .ok (.iconst 0, 1) := by decide +kernel
theorem dX10_wouldFit_2 : decode cX10_wouldFit 2 = .ok (.putfield 139, 3) := by decide +kernel
theorem dX10_wouldFit_5 : decode cX10_wouldFit 5 = .ok (.aload_n 0, 1) := by decide +kernel
theorem dX10_wouldFit_6 : decode cX10_wouldFit 6 = .ok (.iload_n 1, 1) := by decide +kernel
theorem dX10_wouldFit_7 : decode cX10_wouldFit 7 = .ok (.invokevirtual 158, 3) := by decide +kernel
theorem dX10_wouldFit_10 : decode cX10_wouldFit 10 = .ok (.ifCond .eq 45, 3) := by decide +kernel
theorem dX10_wouldFit_13 : decode cX10_wouldFit 13 = .ok (.aload_n 0, 1) := by decide +kernel
theorem dX10_wouldFit_14 : decode cX10_wouldFit 14 = .ok (.iload_n 2, 1) := by decide +kernel
theorem dX10_wouldFit_15 : decode cX10_wouldFit 15 = .ok (.invokevirtual 166, 3) := by decide +kernel
theorem dX10_wouldFit_18 : decode cX10_wouldFit 18 = .ok (.ifCond .eq 37, 3) := by decide +kernel
theorem dX10_wouldFit_21 : decode cX10_wouldFit 21 = .ok (.aload_n 0, 1) := by decide +kernel
theorem dX10_wouldFit_22 : decode cX10_wouldFit 22 = .ok (.iload_n 2, 1) := by decide +kernel
theorem dX10_wouldFit_23 : decode cX10_wouldFit 23 = .ok (.invokevirtual 200, 3) := by decide +kernel
theorem dX10_wouldFit_26 : decode cX10_wouldFit 26 = .ok (.ifCond .ne 29, 3) := by decide +kernel
theorem dX10_wouldFit_29 : decode cX10_wouldFit 29 = .ok (.aload_n 0, 1) := by decide +kernel
theorem dX10_wouldFit_30 : decode cX10_wouldFit 30 = .ok (.iload_n 3, 1) := by decide +kernel
theorem dX10_wouldFit_31 : decode cX10_wouldFit 31 = .ok (.iload 4, 2) := by decide +kernel
theorem dX10_wouldFit_33 : decode cX10_wouldFit 33 = .ok (.invokevirtual 169, 3) := by decide +kernel
theorem dX10_wouldFit_36 : decode cX10_wouldFit 36 = .ok (.ifCond .eq 19, 3) := by decide +kernel
theorem dX10_wouldFit_39 : decode cX10_wouldFit 39 = .ok (.aload_n 0, 1) := by decide +kernel
theorem dX10_wouldFit_40 : decode cX10_wouldFit 40 = .ok (.iload_n 1, 1) := by decide +kernel
theorem dX10_wouldFit_41 : decode cX10_wouldFit 41 = .ok (.iload_n 2, 1) := by decide +kernel
theorem dX10_wouldFit_42 : decode cX10_wouldFit 42 = .ok (.iload_n 3, 1) := by decide +kernel
theorem dX10_wouldFit_43 : decode cX10_wouldFit 43 = .ok (.iload 4, 2) := by decide +kernel
theorem dX10_wouldFit_45 : decode cX10_wouldFit 45 = .ok (.invokevirtual 203, 3) := by decide +kernel
theorem dX10_wouldFit_48 : decode cX10_wouldFit 48 = .ok (.ifCond .eq 7, 3) := by decide +kernel
theorem dX10_wouldFit_51 : decode cX10_wouldFit 51 = .ok (.iconst 1, 1) := by decide +kernel
theorem dX10_wouldFit_52 : decode cX10_wouldFit 52 = .ok (.goto 4, 3) := by decide +kernel
theorem dX10_wouldFit_55 : decode cX10_wouldFit 55 = .ok (.iconst 0, 1) := by decide +kernel
theorem dX10_wouldFit_56 : decode cX10_wouldFit 56 = .ok (.ireturn, 1) := by decide +kernel
set_option maxRecDepth 20000 in
theorem ggX10_ticket_X10_in : GoodIn wsX10_ticket wsX10_in := goodIn_r _ [12] (by decide +kernel) (by decide +kernel)
set_option maxRecDepth 20000 in
theorem gX10_ticket_X10_in : GoodIn wsX10_ticket (va_wsS RX10 146 yX10_in wsX10_in) := goodIn_app (goodIn_of _ (by decide +kernel)) ggX10_ticket_X10_in
theorem dX10_ticket_0 : decode cX10_ticket 0 = .ok (.aload_n 0, 1) := by decide +kernel
theorem dX10_ticket_1 : decode cX10_ticket 1 = .ok (.iconst 0, 1) := by decide +kernel
theorem dX10_ticket_2 : decode cX10_ticket 2 = .ok (.putfield 139, 3) := by decide +kernel
theorem dX10_ticket_5 : decode cX10_ticket 5 = .ok (.iload_n 1, 1) := by decide +kernel
theorem dX10_ticket_6 : decode cX10_ticket 6 = .ok (.iconst 0, 1) := by decide +kernel
theorem dX10_ticket_7 : decode cX10_ticket 7 = .ok (.aload_n 0, 1) := by decide +kernel
theorem dX10_ticket_8 : decode cX10_ticket 8 = .ok (.getfield 38, 3) := by decide +kernel
theorem dX10_ticket_11 : decode cX10_ticket 11 = .ok (.iconst 0, 1) := by decide +kernel
theorem dX10_ticket_12 : decode cX10_ticket 12 = .ok (.iaload, 1) := by decide +kernel
theorem dX10_ticket_13 : decode cX10_ticket 13 = .ok (.iconst 1, 1) := by decide +kernel
theorem dX10_ticket_14 : decode cX10_ticket 14 = .ok (.isub, 1) := by decide +kernel
theorem dX10_ticket_15 : decode cX10_ticket 15 = .ok (.invokestatic 146, 3) := by decide +kernel
theorem dX10_ticket_18 : decode cX10_ticket 18 = .ok (.ifCond .ne 5, 3) := by decide +kernel
theorem dX10_ticket_21 : decode cX10_ticket 21 = .ok (.iconst (-1), 1) := by decide +kernel
theorem dX10_ticket_22 : decode cX10_ticket 22 = .ok (.ireturn, 1) := by decide +kernel
theorem dX10_ticket_23 : decode cX10_ticket 23 = .ok (.iload_n 2, 1) := by decide +kernel
theorem dX10_ticket_24 : decode cX10_ticket 24 = .ok (.tableswitch 82 0 5 #[40, 47, 54, 61, 68, 75], 40) := by decide +kernel
theorem dX10_ticket_64 : decode cX10_ticket 64 = .ok (.aload_n 0, 1) := by decide +kernel
theorem dX10_ticket_65 : decode cX10_ticket 65 = .ok (.getfield 41, 3) := by decide +kernel
theorem dX10_ticket_68 : decode cX10_ticket 68 = .ok (.iload_n 1, 1) := by decide +kernel
theorem dX10_ticket_69 : decode cX10_ticket 69 = .ok (.iaload, 1) := by decide +kernel
theorem dX10_ticket_70 : decode cX10_ticket 70 = .ok (.ireturn, 1) := by decide +kernel
theorem dX10_ticket_71 : decode cX10_ticket 71 = .ok (.aload_n 0, 1) := by decide +kernel
theorem dX10_ticket_72 : decode cX10_ticket 72 = .ok (.getfield 44, 3) := by decide +kernel
theorem dX10_ticket_75 : decode cX10_ticket 75 = .ok (.iload_n 1, 1) := by decide +kernel
theorem dX10_ticket_76 : decode cX10_ticket 76 = .ok (.iaload, 1) := by decide +kernel
theorem dX10_ticket_77 : decode cX10_ticket 77 = .ok (.ireturn, 1) := by decide +kernel
theorem dX10_ticket_78 : decode cX10_ticket 78 = .ok (.aload_n 0, 1) := by decide +kernel
theorem dX10_ticket_79 : decode cX10_ticket 79 = .ok (.getfield 47, 3) := by decide +kernel
theorem dX10_ticket_82 : decode cX10_ticket 82 = .ok (.iload_n 1, 1) := by decide +kernel
theorem dX10_ticket_83 : decode cX10_ticket 83 = .ok (.iaload, 1) := by decide +kernel
theorem dX10_ticket_84 : decode cX10_ticket 84 = .ok (.ireturn, 1) := by decide +kernel
theorem dX10_ticket_85 : decode cX10_ticket 85 = .ok (.aload_n 0, 1) := by decide +kernel
theorem dX10_ticket_86 : decode cX10_ticket 86 = .ok (.getfield 50, 3) := by decide +kernel
theorem dX10_ticket_89 : decode cX10_ticket 89 = .ok (.iload_n 1, 1) := by decide +kernel
theorem dX10_ticket_90 : decode cX10_ticket 90 = .ok (.iaload, 1) := by decide +kernel
theorem dX10_ticket_91 : decode cX10_ticket 91 = .ok (.ireturn, 1) := by decide +kernel
theorem dX10_ticket_92 : decode cX10_ticket 92 = .ok (.aload_n 0, 1) := by decide +kernel
theorem dX10_ticket_93 : decode cX10_ticket 93 = .ok (.getfield 53, 3) := by decide +kernel
theorem dX10_ticket_96 : decode cX10_ticket 96 = .ok (.iload_n 1, 1) := by decide +kernel
theorem dX10_ticket_97 : decode cX10_ticket 97 = .ok (.iaload, 1) := by decide +kernel
theorem dX10_ticket_98 : decode cX10_ticket 98 = .ok (.ireturn, 1) := by decide +kernel
theorem dX10_ticket_99 : decode cX10_ticket 99 = .ok (.aload_n 0, 1) := by decide +kernel
theorem dX10_ticket_100 : decode cX10_ticket 100 = .ok (.getfield 56, 3) := by decide +kernel
theorem dX10_ticket_103 : decode cX10_ticket 103 = .ok (.iload_n 1, 1) := by decide +kernel
theorem dX10_ticket_104 : decode cX10_ticket 104 = .ok (.iaload, 1) := by decide +kernel
theorem dX10_ticket_105 : decode cX10_ticket 105 = .ok (.ireturn, 1) := by decide +kernel
theorem dX10_ticket_106 : decode cX10_ticket 106 = .ok (.iconst (-1), 1) := by decide +kernel
theorem dX10_ticket_107 : decode cX10_ticket 107 = .ok (.ireturn, 1) := by decide +kernel
set_option maxRecDepth 20000 in
theorem ggX10_lies_X10_isRun : GoodIn wsX10_lies wsX10_isRun := goodIn_r _ [9, 2, 10, 11, 8, 12, 17, 18, 19, 20, 21, 22, 23, 24, 25, 26, 27, 28, 29, 30, 31, 32, 33, 34, 35, 36, 37, 38, 39, 40, 41, 42, 43, 44, 45, 46, 47, 48, 49, 50, 51, 52, 53, 54, 55, 56, 57, 58, 59, 60, 61, 62, 63, 64, 65, 66, 67, 68, 69] (by decide +kernel) (by decide +kernel)
set_option maxRecDepth 20000 in
theorem gX10_lies_X10_isRun : GoodIn wsX10_lies (wsV RX10 166 RX10 yX10_isRun wsX10_isRun) := goodIn_app (goodIn_of _ (by decide +kernel)) ggX10_lies_X10_isRun
set_option maxRecDepth 20000 in
theorem ggX10_lies_X10_in : GoodIn wsX10_lies wsX10_in := goodIn_r _ [12] (by decide +kernel) (by decide +kernel)
set_option maxRecDepth 20000 in
theorem gX10_lies_X10_in : GoodIn wsX10_lies (va_wsS RX10 146 yX10_in wsX10_in) := goodIn_app (goodIn_of _ (by decide +kernel)) ggX10_lies_X10_in
theorem dX10_lies_0 : decode cX10_lies 0 = .ok (.aload_n 0, 1) := by decide +kernel
theorem dX10_lies_1 : decode cX10_lies 1 = .ok (.iconst 0, 1) := by decide +kernel
theorem dX10_lies_2 : decode cX10_lies 2 = .ok (.putfield 139, 3) := by decide +kernel
theorem dX10_lies_5 : decode cX10_lies 5 = .ok (.aload_n 0, 1) := by decide +kernel
theorem dX10_lies_6 : decode cX10_lies 6 = .ok (.iload_n 1, 1) := by decide +kernel
theorem dX10_lies_7 : decode cX10_lies 7 = .ok (.invokevirtual 166, 3) := by decide +kernel
theorem dX10_lies_10 : decode cX10_lies 10 = .ok (.ifCond .eq 50, 3) := by decide +kernel
theorem dX10_lies_13 : decode cX10_lies 13 = .ok (.iload_n 2, 1) := by decide +kernel
theorem dX10_lies_14 : decode cX10_lies 14 = .ok (.iconst 0, 1) := by decide +kernel
theorem dX10_lies_15 : decode cX10_lies 15 = .ok (.aload_n 0, 1) := by decide +kernel
theorem dX10_lies_16 : decode cX10_lies 16 = .ok (.getfield 29, 3) := by decide +kernel
theorem dX10_lies_19 : decode cX10_lies 19 = .ok (.iload_n 1, 1) := by decide +kernel
theorem dX10_lies_20 : decode cX10_lies 20 = .ok (.iaload, 1) := by decide +kernel
theorem dX10_lies_21 : decode cX10_lies 21 = .ok (.iconst 1, 1) := by decide +kernel
theorem dX10_lies_22 : decode cX10_lies 22 = .ok (.isub, 1) := by decide +kernel
theorem dX10_lies_23 : decode cX10_lies 23 = .ok (.invokestatic 146, 3) := by decide +kernel
theorem dX10_lies_26 : decode cX10_lies 26 = .ok (.ifCond .eq 34, 3) := by decide +kernel
theorem dX10_lies_29 : decode cX10_lies 29 = .ok (.iload_n 3, 1) := by decide +kernel
theorem dX10_lies_30 : decode cX10_lies 30 = .ok (.iconst 0, 1) := by decide +kernel
theorem dX10_lies_31 : decode cX10_lies 31 = .ok (.aload_n 0, 1) := by decide +kernel
theorem dX10_lies_32 : decode cX10_lies 32 = .ok (.getfield 13, 3) := by decide +kernel
theorem dX10_lies_35 : decode cX10_lies 35 = .ok (.iconst 0, 1) := by decide +kernel
theorem dX10_lies_36 : decode cX10_lies 36 = .ok (.iaload, 1) := by decide +kernel
theorem dX10_lies_37 : decode cX10_lies 37 = .ok (.iconst 2, 1) := by decide +kernel
theorem dX10_lies_38 : decode cX10_lies 38 = .ok (.isub, 1) := by decide +kernel
theorem dX10_lies_39 : decode cX10_lies 39 = .ok (.invokestatic 146, 3) := by decide +kernel
theorem dX10_lies_42 : decode cX10_lies 42 = .ok (.ifCond .eq 18, 3) := by decide +kernel
theorem dX10_lies_45 : decode cX10_lies 45 = .ok (.aload_n 0, 1) := by decide +kernel
theorem dX10_lies_46 : decode cX10_lies 46 = .ok (.getfield 35, 3) := by decide +kernel
theorem dX10_lies_49 : decode cX10_lies 49 = .ok (.aload_n 0, 1) := by decide +kernel
theorem dX10_lies_50 : decode cX10_lies 50 = .ok (.iload_n 1, 1) := by decide +kernel
theorem dX10_lies_51 : decode cX10_lies 51 = .ok (.iload_n 2, 1) := by decide +kernel
theorem dX10_lies_52 : decode cX10_lies 52 = .ok (.iload_n 3, 1) := by decide +kernel
theorem dX10_lies_53 : decode cX10_lies 53 = .ok (.invokevirtual 162, 3) := by decide +kernel
theorem dX10_lies_56 : decode cX10_lies 56 = .ok (.iaload, 1) := by decide +kernel
theorem dX10_lies_57 : decode cX10_lies 57 = .ok (.goto 5, 3) := by decide +kernel
theorem dX10_lies_60 : decode cX10_lies 60 = .ok (.bipush (-2), 2) := by decide +kernel
theorem dX10_lies_62 : decode cX10_lies 62 = .ok (.ireturn, 1) := by decide +kernel
set_option maxRecDepth 20000 in
theorem ggX10_told_X10_isRun : GoodIn wsX10_told wsX10_isRun := goodIn_r _ [12, 2, 13, 14, 11, 15, 30, 31, 32, 33, 34, 35, 36, 37, 38, 39, 40, 41, 42, 43, 44, 45, 46, 47, 48, 49, 50, 51, 52, 53, 54, 55, 56, 57, 58, 59, 60, 61, 62, 63, 64, 65, 66, 67, 68, 69, 70, 71, 72, 73, 74, 75, 76, 77, 78, 79, 80, 81, 82] (by decide +kernel) (by decide +kernel)
set_option maxRecDepth 20000 in
theorem gX10_told_X10_isRun : GoodIn wsX10_told (wsV RX10 166 RX10 yX10_isRun wsX10_isRun) := goodIn_app (goodIn_of _ (by decide +kernel)) ggX10_told_X10_isRun
set_option maxRecDepth 20000 in
theorem ggX10_told_X10_hasLeft : GoodIn wsX10_told wsX10_hasLeft := goodIn_r _ [28, 29, 30, 31, 32, 33, 34, 35, 36, 37, 38, 39, 40, 41, 42, 43, 44, 45, 46, 47, 48, 49, 50, 51, 52, 53, 54, 55, 56, 57, 58, 59, 60, 61, 62, 63, 64, 65, 66, 67, 68, 69, 70, 71, 72, 73, 74, 75, 76, 77, 78, 79, 80, 81, 82] (by decide +kernel) (by decide +kernel)
set_option maxRecDepth 20000 in
theorem gX10_told_X10_hasLeft : GoodIn wsX10_told (wsV RX10 200 RX10 yX10_hasLeft wsX10_hasLeft) := goodIn_app (goodIn_of _ (by decide +kernel)) ggX10_told_X10_hasLeft
set_option maxRecDepth 20000 in
theorem ggX10_told_X10_in : GoodIn wsX10_told wsX10_in := goodIn_r _ [15] (by decide +kernel) (by decide +kernel)
set_option maxRecDepth 20000 in
theorem gX10_told_X10_in : GoodIn wsX10_told (va_wsS RX10 146 yX10_in wsX10_in) := goodIn_app (goodIn_of _ (by decide +kernel)) ggX10_told_X10_in
theorem dX10_told_0 : decode cX10_told 0 = .ok (.aload_n 0, 1) := by decide +kernel
theorem dX10_told_1 : decode cX10_told 1 = .ok (.iconst 0, 1) := by decide +kernel
theorem dX10_told_2 : decode cX10_told 2 = .ok (.putfield 139, 3) := by decide +kernel
theorem dX10_told_5 : decode cX10_told 5 = .ok (.aload_n 0, 1) := by decide +kernel
theorem dX10_told_6 : decode cX10_told 6 = .ok (.iload_n 1, 1) := by decide +kernel
theorem dX10_told_7 : decode cX10_told 7 = .ok (.invokevirtual 166, 3) := by decide +kernel
theorem dX10_told_10 : decode cX10_told 10 = .ok (.ifCond .ne 5, 3) := by decide +kernel
theorem dX10_told_13 : decode cX10_told 13 = .ok (.iconst (-1), 1) := by decide +kernel
theorem dX10_told_14 : decode cX10_told 14 = .ok (.ireturn, 1) := by decide +kernel
theorem dX10_told_15 : decode cX10_told 15 = .ok (.iconst 0, 1) := by decide +kernel
theorem dX10_told_16 : decode cX10_told 16 = .ok (.istore_n 3, 1) := by decide +kernel
theorem dX10_told_17 : decode cX10_told 17 = .ok (.iload_n 2, 1) := by decide +kernel
theorem dX10_told_18 : decode cX10_told 18 = .ok (.tableswitch 191 0 5 #[38, 45, 96, 143, 45, 177], 38) := by decide +kernel
theorem dX10_told_56 : decode cX10_told 56 = .ok (.aload_n 0, 1) := by decide +kernel
theorem dX10_told_57 : decode cX10_told 57 = .ok (.getfield 29, 3) := by decide +kernel
theorem dX10_told_60 : decode cX10_told 60 = .ok (.iload_n 1, 1) := by decide +kernel
theorem dX10_told_61 : decode cX10_told 61 = .ok (.iaload, 1) := by decide +kernel
theorem dX10_told_62 : decode cX10_told 62 = .ok (.ireturn, 1) := by decide +kernel
theorem dX10_told_63 : decode cX10_told 63 = .ok (.iconst 0, 1) := by decide +kernel
theorem dX10_told_64 : decode cX10_told 64 = .ok (.istore 4, 2) := by decide +kernel
theorem dX10_told_66 : decode cX10_told 66 = .ok (.iload 4, 2) := by decide +kernel
theorem dX10_told_68 : decode cX10_told 68 = .ok (.aload_n 0, 1) := by decide +kernel
theorem dX10_told_69 : decode cX10_told 69 = .ok (.getfield 38, 3) := by decide +kernel
theorem dX10_told_72 : decode cX10_told 72 = .ok (.iconst 0, 1) := by decide +kernel
theorem dX10_told_73 : decode cX10_told 73 = .ok (.iaload, 1) := by decide +kernel
theorem dX10_told_74 : decode cX10_told 74 = .ok (.if_icmp .ge 38, 3) := by decide +kernel
theorem dX10_told_77 : decode cX10_told 77 = .ok (.iload_n 3, 1) := by decide +kernel
theorem dX10_told_78 : decode cX10_told 78 = .ok (.aload_n 0, 1) := by decide +kernel
theorem dX10_told_79 : decode cX10_told 79 = .ok (.getfield 41, 3) := by decide +kernel
theorem dX10_told_82 : decode cX10_told 82 = .ok (.iload 4, 2) := by decide +kernel
theorem dX10_told_84 : decode cX10_told 84 = .ok (.iaload, 1) := by decide +kernel
theorem dX10_told_85 : decode cX10_told 85 = .ok (.iload_n 1, 1) := by decide +kernel
theorem dX10_told_86 : decode cX10_told 86 = .ok (.if_icmp .ne 17, 3) := by decide +kernel
theorem dX10_told_89 : decode cX10_told 89 = .ok (.aload_n 0, 1) := by decide +kernel
theorem dX10_told_90 : decode cX10_told 90 = .ok (.getfield 56, 3) := by decide +kernel
theorem dX10_told_93 : decode cX10_told 93 = .ok (.iload 4, 2) := by decide +kernel
theorem dX10_told_95 : decode cX10_told 95 = .ok (.iaload, 1) := by decide +kernel
theorem dX10_told_96 : decode cX10_told 96 = .ok (.ifCond .ne 7, 3) := by decide +kernel
theorem dX10_told_99 : decode cX10_told 99 = .ok (.iconst 1, 1) := by decide +kernel
theorem dX10_told_100 : decode cX10_told 100 = .ok (.goto 4, 3) := by decide +kernel
theorem dX10_told_103 : decode cX10_told 103 = .ok (.iconst 0, 1) := by decide +kernel
theorem dX10_told_104 : decode cX10_told 104 = .ok (.iadd, 1) := by decide +kernel
theorem dX10_told_105 : decode cX10_told 105 = .ok (.istore_n 3, 1) := by decide +kernel
theorem dX10_told_106 : decode cX10_told 106 = .ok (.iinc 4 1, 3) := by decide +kernel
theorem dX10_told_109 : decode cX10_told 109 = .ok (.goto (-43), 3) := by decide +kernel
theorem dX10_told_112 : decode cX10_told 112 = .ok (.iload_n 3, 1) := by decide +kernel
theorem dX10_told_113 : decode cX10_told 113 = .ok (.ireturn, 1) := by decide +kernel
theorem dX10_told_114 : decode cX10_told 114 = .ok (.iconst 0, 1) := by decide +kernel
theorem dX10_told_115 : decode cX10_told 115 = .ok (.istore 4, 2) := by decide +kernel
theorem dX10_told_117 : decode cX10_told 117 = .ok (.iload 4, 2) := by decide +kernel
theorem dX10_told_119 : decode cX10_told 119 = .ok (.aload_n 0, 1) := by decide +kernel
theorem dX10_told_120 : decode cX10_told 120 = .ok (.getfield 13, 3) := by decide +kernel
theorem dX10_told_123 : decode cX10_told 123 = .ok (.iconst 0, 1) := by decide +kernel
theorem dX10_told_124 : decode cX10_told 124 = .ok (.iaload, 1) := by decide +kernel
theorem dX10_told_125 : decode cX10_told 125 = .ok (.iconst 1, 1) := by decide +kernel
theorem dX10_told_126 : decode cX10_told 126 = .ok (.isub, 1) := by decide +kernel
theorem dX10_told_127 : decode cX10_told 127 = .ok (.if_icmp .ge 32, 3) := by decide +kernel
theorem dX10_told_130 : decode cX10_told 130 = .ok (.aload_n 0, 1) := by decide +kernel
theorem dX10_told_131 : decode cX10_told 131 = .ok (.iload_n 1, 1) := by decide +kernel
theorem dX10_told_132 : decode cX10_told 132 = .ok (.iload 4, 2) := by decide +kernel
theorem dX10_told_134 : decode cX10_told 134 = .ok (.invokevirtual 206, 3) := by decide +kernel
theorem dX10_told_137 : decode cX10_told 137 = .ok (.iload_n 3, 1) := by decide +kernel
theorem dX10_told_138 : decode cX10_told 138 = .ok (.if_icmp .le 13, 3) := by decide +kernel
theorem dX10_told_141 : decode cX10_told 141 = .ok (.aload_n 0, 1) := by decide +kernel
theorem dX10_told_142 : decode cX10_told 142 = .ok (.iload_n 1, 1) := by decide +kernel
theorem dX10_told_143 : decode cX10_told 143 = .ok (.iload 4, 2) := by decide +kernel
theorem dX10_told_145 : decode cX10_told 145 = .ok (.invokevirtual 206, 3) := by decide +kernel
theorem dX10_told_148 : decode cX10_told 148 = .ok (.goto 4, 3) := by decide +kernel
theorem dX10_told_151 : decode cX10_told 151 = .ok (.iload_n 3, 1) := by decide +kernel
theorem dX10_told_152 : decode cX10_told 152 = .ok (.istore_n 3, 1) := by decide +kernel
theorem dX10_told_153 : decode cX10_told 153 = .ok (.iinc 4 1, 3) := by decide +kernel
theorem dX10_told_156 : decode cX10_told 156 = .ok (.goto (-39), 3) := by decide +kernel
theorem dX10_told_159 : decode cX10_told 159 = .ok (.iload_n 3, 1) := by decide +kernel
theorem dX10_told_160 : decode cX10_told 160 = .ok (.ireturn, 1) := by decide +kernel
theorem dX10_told_161 : decode cX10_told 161 = .ok (.iconst 0, 1) := by decide +kernel
theorem dX10_told_162 : decode cX10_told 162 = .ok (.istore 4, 2) := by decide +kernel
theorem dX10_told_164 : decode cX10_told 164 = .ok (.iload 4, 2) := by decide +kernel
theorem dX10_told_166 : decode cX10_told 166 = .ok (.aload_n 0, 1) := by decide +kernel
theorem dX10_told_167 : decode cX10_told 167 = .ok (.getfield 13, 3) := by decide +kernel
theorem dX10_told_170 : decode cX10_told 170 = .ok (.iconst 0, 1) := by decide +kernel
theorem dX10_told_171 : decode cX10_told 171 = .ok (.iaload, 1) := by decide +kernel
theorem dX10_told_172 : decode cX10_told 172 = .ok (.iconst 1, 1) := by decide +kernel
theorem dX10_told_173 : decode cX10_told 173 = .ok (.isub, 1) := by decide +kernel
theorem dX10_told_174 : decode cX10_told 174 = .ok (.if_icmp .ge 19, 3) := by decide +kernel
theorem dX10_told_177 : decode cX10_told 177 = .ok (.iload_n 3, 1) := by decide +kernel
theorem dX10_told_178 : decode cX10_told 178 = .ok (.aload_n 0, 1) := by decide +kernel
theorem dX10_told_179 : decode cX10_told 179 = .ok (.iload_n 1, 1) := by decide +kernel
theorem dX10_told_180 : decode cX10_told 180 = .ok (.iload 4, 2) := by decide +kernel
theorem dX10_told_182 : decode cX10_told 182 = .ok (.invokevirtual 206, 3) := by decide +kernel
theorem dX10_told_185 : decode cX10_told 185 = .ok (.iadd, 1) := by decide +kernel
theorem dX10_told_186 : decode cX10_told 186 = .ok (.istore_n 3, 1) := by decide +kernel
theorem dX10_told_187 : decode cX10_told 187 = .ok (.iinc 4 1, 3) := by decide +kernel
theorem dX10_told_190 : decode cX10_told 190 = .ok (.goto (-26), 3) := by decide +kernel
theorem dX10_told_193 : decode cX10_told 193 = .ok (.iload_n 3, 1) := by decide +kernel
theorem dX10_told_194 : decode cX10_told 194 = .ok (.ireturn, 1) := by decide +kernel
theorem dX10_told_195 : decode cX10_told 195 = .ok (.aload_n 0, 1) := by decide +kernel
theorem dX10_told_196 : decode cX10_told 196 = .ok (.iload_n 1, 1) := by decide +kernel
theorem dX10_told_197 : decode cX10_told 197 = .ok (.invokevirtual 200, 3) := by decide +kernel
theorem dX10_told_200 : decode cX10_told 200 = .ok (.ifCond .eq 7, 3) := by decide +kernel
theorem dX10_told_203 : decode cX10_told 203 = .ok (.iconst 1, 1) := by decide +kernel
theorem dX10_told_204 : decode cX10_told 204 = .ok (.goto 4, 3) := by decide +kernel
theorem dX10_told_207 : decode cX10_told 207 = .ok (.iconst 0, 1) := by decide +kernel
theorem dX10_told_208 : decode cX10_told 208 = .ok (.ireturn, 1) := by decide +kernel
theorem dX10_told_209 : decode cX10_told 209 = .ok (.iload_n 2, 1) := by decide +kernel
theorem dX10_told_210 : decode cX10_told 210 = .ok (.bipush 10, 2) := by decide +kernel
theorem dX10_told_212 : decode cX10_told 212 = .ok (.bipush 9, 2) := by decide +kernel
theorem dX10_told_214 : decode cX10_told 214 = .ok (.aload_n 0, 1) := by decide +kernel
theorem dX10_told_215 : decode cX10_told 215 = .ok (.getfield 29, 3) := by decide +kernel
theorem dX10_told_218 : decode cX10_told 218 = .ok (.iload_n 1, 1) := by decide +kernel
theorem dX10_told_219 : decode cX10_told 219 = .ok (.iaload, 1) := by decide +kernel
theorem dX10_told_220 : decode cX10_told 220 = .ok (.iadd, 1) := by decide +kernel
theorem dX10_told_221 : decode cX10_told 221 = .ok (.invokestatic 146, 3) := by decide +kernel
theorem dX10_told_224 : decode cX10_told 224 = .ok (.ifCond .eq 20, 3) := by decide +kernel
theorem dX10_told_227 : decode cX10_told 227 = .ok (.aload_n 0, 1) := by decide +kernel
theorem dX10_told_228 : decode cX10_told 228 = .ok (.getfield 32, 3) := by decide +kernel
theorem dX10_told_231 : decode cX10_told 231 = .ok (.bipush 10, 2) := by decide +kernel
theorem dX10_told_233 : decode cX10_told 233 = .ok (.iload_n 1, 1) := by decide +kernel
theorem dX10_told_234 : decode cX10_told 234 = .ok (.imul, 1) := by decide +kernel
theorem dX10_told_235 : decode cX10_told 235 = .ok (.iload_n 2, 1) := by decide +kernel
theorem dX10_told_236 : decode cX10_told 236 = .ok (.iadd, 1) := by decide +kernel
theorem dX10_told_237 : decode cX10_told 237 = .ok (.bipush 10, 2) := by decide +kernel
theorem dX10_told_239 : decode cX10_told 239 = .ok (.isub, 1) := by decide +kernel
theorem dX10_told_240 : decode cX10_told 240 = .ok (.iaload, 1) := by decide +kernel
theorem dX10_told_241 : decode cX10_told 241 = .ok (.goto 4, 3) := by decide +kernel
theorem dX10_told_244 : decode cX10_told 244 = .ok (.iconst (-1), 1) := by decide +kernel
theorem dX10_told_245 : decode cX10_told 245 = .ok (.ireturn, 1) := by decide +kernel
set_option maxRecDepth 20000 in
theorem ggX10_feed_X10_four : GoodIn wsX10_feed wsX10_four := goodIn_r _ [7, 8, 2, 9, 10, 11, 12, 13, 14, 15, 16, 17, 18, 19, 20, 21, 22, 23, 24, 25, 26, 27, 28, 29, 30, 31, 32, 33, 34, 35, 36, 37, 38, 39, 40, 41, 42, 43, 44, 45, 46, 47, 48, 49, 50, 51, 52, 53, 54, 55, 56, 57, 58, 59, 60, 61] (by decide +kernel) (by decide +kernel)
set_option maxRecDepth 20000 in
theorem gX10_feed_X10_four : GoodIn wsX10_feed (wsV RX10 212 RX10 yX10_four wsX10_four) := goodIn_app (goodIn_of _ (by decide +kernel)) ggX10_feed_X10_four
theorem dX10_feed_0 : decode cX10_feed 0 = .ok (.aload_n 0, 1) := by decide +kernel
theorem dX10_feed_1 : decode cX10_feed 1 = .ok (.iconst 0, 1) := by decide +kernel
theorem dX10_feed_2 : decode cX10_feed 2 = .ok (.putfield 139, 3) := by decide +kernel
theorem dX10_feed_5 : decode cX10_feed 5 = .ok (.aload_n 0, 1) := by decide +kernel
theorem dX10_feed_6 : decode cX10_feed 6 = .ok (.getfield 209, 3) := by decide +kernel
theorem dX10_feed_9 : decode cX10_feed 9 = .ok (.bipush 20, 2) := by decide +kernel
theorem dX10_feed_11 : decode cX10_feed 11 = .ok (.iadd, 1) := by decide +kernel
theorem dX10_feed_12 : decode cX10_feed 12 = .ok (.sipush 400, 3) := by decide +kernel
theorem dX10_feed_15 : decode cX10_feed 15 = .ok (.if_icmp .le 5, 3) := by decide +kernel
theorem dX10_feed_18 : decode cX10_feed 18 = .ok (.iconst (-1), 1) := by decide +kernel
theorem dX10_feed_19 : decode cX10_feed 19 = .ok (.ireturn, 1) := by decide +kernel
theorem dX10_feed_20 : decode cX10_feed 20 = .ok (.aload_n 0, 1) := by decide +kernel
theorem dX10_feed_21 : decode cX10_feed 21 = .ok (.iload_n 1, 1) := by decide +kernel
theorem dX10_feed_22 : decode cX10_feed 22 = .ok (.invokevirtual 212, 3) := by decide +kernel
theorem dX10_feed_25 : decode cX10_feed 25 = .ok (.aload_n 0, 1) := by decide +kernel
theorem dX10_feed_26 : decode cX10_feed 26 = .ok (.iload_n 2, 1) := by decide +kernel
theorem dX10_feed_27 : decode cX10_feed 27 = .ok (.invokevirtual 212, 3) := by decide +kernel
theorem dX10_feed_30 : decode cX10_feed 30 = .ok (.aload_n 0, 1) := by decide +kernel
theorem dX10_feed_31 : decode cX10_feed 31 = .ok (.iload_n 3, 1) := by decide +kernel
theorem dX10_feed_32 : decode cX10_feed 32 = .ok (.invokevirtual 212, 3) := by decide +kernel
theorem dX10_feed_35 : decode cX10_feed 35 = .ok (.aload_n 0, 1) := by decide +kernel
theorem dX10_feed_36 : decode cX10_feed 36 = .ok (.iload 4, 2) := by decide +kernel
theorem dX10_feed_38 : decode cX10_feed 38 = .ok (.invokevirtual 212, 3) := by decide +kernel
theorem dX10_feed_41 : decode cX10_feed 41 = .ok (.aload_n 0, 1) := by decide +kernel
theorem dX10_feed_42 : decode cX10_feed 42 = .ok (.iload 5, 2) := by decide +kernel
theorem dX10_feed_44 : decode cX10_feed 44 = .ok (.invokevirtual 212, 3) := by decide +kernel
theorem dX10_feed_47 : decode cX10_feed 47 = .ok (.aload_n 0, 1) := by decide +kernel
theorem dX10_feed_48 : decode cX10_feed 48 = .ok (.getfield 209, 3) := by decide +kernel
theorem dX10_feed_51 : decode cX10_feed 51 = .ok (.ireturn, 1) := by decide +kernel
theorem dX10_four_0 : decode cX10_four 0 = .ok (.bipush 24, 2) := by decide +kernel
theorem dX10_four_2 : decode cX10_four 2 = .ok (.istore_n 2, 1) := by decide +kernel
theorem dX10_four_3 : decode cX10_four 3 = .ok (.iload_n 2, 1) := by decide +kernel
theorem dX10_four_4 : decode cX10_four 4 = .ok (.ifCond .lt 32, 3) := by decide +kernel
theorem dX10_four_7 : decode cX10_four 7 = .ok (.aload_n 0, 1) := by decide +kernel
theorem dX10_four_8 : decode cX10_four 8 = .ok (.getfield 7, 3) := by decide +kernel
theorem dX10_four_11 : decode cX10_four 11 = .ok (.aload_n 0, 1) := by decide +kernel
theorem dX10_four_12 : decode cX10_four 12 = .ok (.getfield 209, 3) := by decide +kernel
theorem dX10_four_15 : decode cX10_four 15 = .ok (.iload_n 1, 1) := by decide +kernel
theorem dX10_four_16 : decode cX10_four 16 = .ok (.iload_n 2, 1) := by decide +kernel
theorem dX10_four_17 : decode cX10_four 17 = .ok (.ishr, 1) := by decide +kernel
theorem dX10_four_18 : decode cX10_four 18 = .ok (.i2b, 1) := by decide +kernel
theorem dX10_four_19 : decode cX10_four 19 = .ok (.bastore, 1) := by decide +kernel
theorem dX10_four_20 : decode cX10_four 20 = .ok (.aload_n 0, 1) := by decide +kernel
theorem dX10_four_21 : decode cX10_four 21 = .ok (.dup, 1) := by decide +kernel
theorem dX10_four_22 : decode cX10_four 22 = .ok (.getfield 209, 3) := by decide +kernel
theorem dX10_four_25 : decode cX10_four 25 = .ok (.iconst 1, 1) := by decide +kernel
theorem dX10_four_26 : decode cX10_four 26 = .ok (.iadd, 1) := by decide +kernel
theorem dX10_four_27 : decode cX10_four 27 = .ok (.putfield 209, 3) := by decide +kernel
theorem dX10_four_30 : decode cX10_four 30 = .ok (.iinc 2 (-8), 3) := by decide +kernel
theorem dX10_four_33 : decode cX10_four 33 = .ok (.goto (-30), 3) := by decide +kernel
theorem dX10_four_36 : decode cX10_four 36 = .ok (.return_, 1) := by decide +kernel
set_option maxRecDepth 20000 in
theorem ggX10_end_X10_in : GoodIn wsX10_end wsX10_in := goodIn_r _ [6] (by decide +kernel) (by decide +kernel)
set_option maxRecDepth 20000 in
theorem gX10_end_X10_in : GoodIn wsX10_end (va_wsS RX10 146 yX10_in wsX10_in) := goodIn_app (goodIn_of _ (by decide +kernel)) ggX10_end_X10_in
theorem dX10_end_0 : decode cX10_end 0 = .ok (.aload_n 0, 1) := by decide +kernel
theorem dX10_end_1 : decode cX10_end 1 = .ok (.iconst 0, 1) := by decide +kernel
theorem dX10_end_2 : decode cX10_end 2 = .ok (.putfield 139, 3) := by decide +kernel
theorem dX10_end_5 : decode cX10_end 5 = .ok (.iload_n 1, 1) := by decide +kernel
theorem dX10_end_6 : decode cX10_end 6 = .ok (.iconst 0, 1) := by decide +kernel
theorem dX10_end_7 : decode cX10_end 7 = .ok (.aload_n 0, 1) := by decide +kernel
theorem dX10_end_8 : decode cX10_end 8 = .ok (.getfield 209, 3) := by decide +kernel
theorem dX10_end_11 : decode cX10_end 11 = .ok (.invokestatic 146, 3) := by decide +kernel
theorem dX10_end_14 : decode cX10_end 14 = .ok (.ifCond .ne 5, 3) := by decide +kernel
theorem dX10_end_17 : decode cX10_end 17 = .ok (.iconst (-1), 1) := by decide +kernel
theorem dX10_end_18 : decode cX10_end 18 = .ok (.ireturn, 1) := by decide +kernel
theorem dX10_end_19 : decode cX10_end 19 = .ok (.aload_n 0, 1) := by decide +kernel
theorem dX10_end_20 : decode cX10_end 20 = .ok (.iload_n 1, 1) := by decide +kernel
theorem dX10_end_21 : decode cX10_end 21 = .ok (.putfield 209, 3) := by decide +kernel
theorem dX10_end_24 : decode cX10_end 24 = .ok (.iload_n 1, 1) := by decide +kernel
theorem dX10_end_25 : decode cX10_end 25 = .ok (.ireturn, 1) := by decide +kernel
theorem dX10_see_0 : decode cX10_see 0 = .ok (.aload_n 0, 1) := by decide +kernel
theorem dX10_see_1 : decode cX10_see 1 = .ok (.getfield 216, 3) := by decide +kernel
theorem dX10_see_4 : decode cX10_see 4 = .ok (.aload_n 0, 1) := by decide +kernel
theorem dX10_see_5 : decode cX10_see 5 = .ok (.getfield 219, 3) := by decide +kernel
theorem dX10_see_8 : decode cX10_see 8 = .ok (.if_icmp .ge 19, 3) := by decide +kernel
theorem dX10_see_11 : decode cX10_see 11 = .ok (.aload_n 0, 1) := by decide +kernel
theorem dX10_see_12 : decode cX10_see 12 = .ok (.getfield 7, 3) := by decide +kernel
theorem dX10_see_15 : decode cX10_see 15 = .ok (.aload_n 0, 1) := by decide +kernel
theorem dX10_see_16 : decode cX10_see 16 = .ok (.getfield 216, 3) := by decide +kernel
theorem dX10_see_19 : decode cX10_see 19 = .ok (.baload, 1) := by decide +kernel
theorem dX10_see_20 : decode cX10_see 20 = .ok (.sipush 255, 3) := by decide +kernel
theorem dX10_see_23 : decode cX10_see 23 = .ok (.iand, 1) := by decide +kernel
theorem dX10_see_24 : decode cX10_see 24 = .ok (.goto 4, 3) := by decide +kernel
theorem dX10_see_27 : decode cX10_see 27 = .ok (.iconst (-1), 1) := by decide +kernel
theorem dX10_see_28 : decode cX10_see 28 = .ok (.ireturn, 1) := by decide +kernel
set_option maxRecDepth 20000 in
theorem ggX10_next_X10_see : GoodIn wsX10_next wsX10_see := goodIn_r _ [10, 1, 11, 12, 16, 17, 18, 19, 20, 21, 22, 23, 24, 25, 26, 27, 28, 29, 30, 31, 32, 33, 34, 35, 36, 37, 38, 39, 40, 41, 42, 43, 44, 45, 46, 47, 48, 49, 50, 51, 52, 53, 54, 55, 56, 57, 58, 59, 60, 61, 62, 63, 64, 65, 66, 67, 68] (by decide +kernel) (by decide +kernel)
set_option maxRecDepth 20000 in
theorem gX10_next_X10_see : GoodIn wsX10_next (wsV RX10 222 RX10 yX10_see wsX10_see) := goodIn_app (goodIn_of _ (by decide +kernel)) ggX10_next_X10_see
set_option maxRecDepth 20000 in
theorem ggX10_next_X10_in : GoodIn wsX10_next wsX10_in := goodIn_r _ [15] (by decide +kernel) (by decide +kernel)
set_option maxRecDepth 20000 in
theorem gX10_next_X10_in : GoodIn wsX10_next (va_wsS RX10 146 yX10_in wsX10_in) := goodIn_app (goodIn_of _ (by decide +kernel)) ggX10_next_X10_in
theorem dX10_next_0 : decode cX10_next 0 = .ok (.aload_n 0, 1) := by decide +kernel
theorem dX10_next_1 : decode cX10_next 1 = .ok (.invokevirtual 222, 3) := by decide +kernel
theorem dX10_next_4 : decode cX10_next 4 = .ok (.bipush 10, 2) := by decide +kernel
theorem dX10_next_6 : decode cX10_next 6 = .ok (.if_icmp .eq 12, 3) := by decide +kernel
theorem dX10_next_9 : decode cX10_next 9 = .ok (.aload_n 0, 1) := by decide +kernel
theorem dX10_next_10 : decode cX10_next 10 = .ok (.invokevirtual 222, 3) := by decide +kernel
theorem dX10_next_13 : decode cX10_next 13 = .ok (.bipush 32, 2) := by decide +kernel
theorem dX10_next_15 : decode cX10_next 15 = .ok (.if_icmp .ne 16, 3) := by decide +kernel
theorem dX10_next_18 : decode cX10_next 18 = .ok (.aload_n 0, 1) := by decide +kernel
theorem dX10_next_19 : decode cX10_next 19 = .ok (.dup, 1) := by decide +kernel
theorem dX10_next_20 : decode cX10_next 20 = .ok (.getfield 216, 3) := by decide +kernel
theorem dX10_next_23 : decode cX10_next 23 = .ok (.iconst 1, 1) := by decide +kernel
theorem dX10_next_24 : decode cX10_next 24 = .ok (.iadd, 1) := by decide +kernel
theorem dX10_next_25 : decode cX10_next 25 = .ok (.putfield 216, 3) := by decide +kernel
theorem dX10_next_28 : decode cX10_next 28 = .ok (.goto (-28), 3) := by decide +kernel
theorem dX10_next_31 : decode cX10_next 31 = .ok (.aload_n 0, 1) := by decide +kernel
theorem dX10_next_32 : decode cX10_next 32 = .ok (.aload_n 0, 1) := by decide +kernel
theorem dX10_next_33 : decode cX10_next 33 = .ok (.getfield 216, 3) := by decide +kernel
theorem dX10_next_36 : decode cX10_next 36 = .ok (.putfield 225, 3) := by decide +kernel
theorem dX10_next_39 : decode cX10_next 39 = .ok (.aload_n 0, 1) := by decide +kernel
theorem dX10_next_40 : decode cX10_next 40 = .ok (.invokevirtual 222, 3) := by decide +kernel
theorem dX10_next_43 : decode cX10_next 43 = .ok (.istore_n 1, 1) := by decide +kernel
theorem dX10_next_44 : decode cX10_next 44 = .ok (.aload_n 0, 1) := by decide +kernel
theorem dX10_next_45 : decode cX10_next 45 = .ok (.iload_n 1, 1) := by decide +kernel
theorem dX10_next_46 : decode cX10_next 46 = .ok (.putfield 228, 3) := by decide +kernel
theorem dX10_next_49 : decode cX10_next 49 = .ok (.aload_n 0, 1) := by decide +kernel
theorem dX10_next_50 : decode cX10_next 50 = .ok (.lconst 0, 1) := by decide +kernel
theorem dX10_next_51 : decode cX10_next 51 = .ok (.putfield 231, 3) := by decide +kernel
theorem dX10_next_54 : decode cX10_next 54 = .ok (.iload_n 1, 1) := by decide +kernel
theorem dX10_next_55 : decode cX10_next 55 = .ok (.ifCond .ge 11, 3) := by decide +kernel
theorem dX10_next_58 : decode cX10_next 58 = .ok (.aload_n 0, 1) := by decide +kernel
theorem dX10_next_59 : decode cX10_next 59 = .ok (.iconst 0, 1) := by decide +kernel
theorem dX10_next_60 : decode cX10_next 60 = .ok (.putfield 235, 3) := by decide +kernel
theorem dX10_next_63 : decode cX10_next 63 = .ok (.goto 234, 3) := by decide +kernel
theorem dX10_next_66 : decode cX10_next 66 = .ok (.iload_n 1, 1) := by decide +kernel
theorem dX10_next_67 : decode cX10_next 67 = .ok (.bipush 97, 2) := by decide +kernel
theorem dX10_next_69 : decode cX10_next 69 = .ok (.bipush 122, 2) := by decide +kernel
theorem dX10_next_71 : decode cX10_next 71 = .ok (.invokestatic 146, 3) := by decide +kernel
theorem dX10_next_74 : decode cX10_next 74 = .ok (.ifCond .eq 78, 3) := by decide +kernel
theorem dX10_next_77 : decode cX10_next 77 = .ok (.iconst 0, 1) := by decide +kernel
theorem dX10_next_78 : decode cX10_next 78 = .ok (.istore_n 2, 1) := by decide +kernel
theorem dX10_next_79 : decode cX10_next 79 = .ok (.aload_n 0, 1) := by decide +kernel
theorem dX10_next_80 : decode cX10_next 80 = .ok (.invokevirtual 222, 3) := by decide +kernel
theorem dX10_next_83 : decode cX10_next 83 = .ok (.bipush 97, 2) := by decide +kernel
theorem dX10_next_85 : decode cX10_next 85 = .ok (.bipush 122, 2) := by decide +kernel
theorem dX10_next_87 : decode cX10_next 87 = .ok (.invokestatic 146, 3) := by decide +kernel
theorem dX10_next_90 : decode cX10_next 90 = .ok (.ifCond .eq 36, 3) := by decide +kernel
theorem dX10_next_93 : decode cX10_next 93 = .ok (.aload_n 0, 1) := by decide +kernel
theorem dX10_next_94 : decode cX10_next 94 = .ok (.aload_n 0, 1) := by decide +kernel
theorem dX10_next_95 : decode cX10_next 95 = .ok (.getfield 231, 3) := by decide +kernel
theorem dX10_next_98 : decode cX10_next 98 = .ok (.bipush 8, 2) := by decide +kernel
theorem dX10_next_100 : decode cX10_next 100 = .ok (.lshl, 1) := by decide +kernel
theorem dX10_next_101 : decode cX10_next 101 = .ok (.aload_n 0, 1) := by decide +kernel
theorem dX10_next_102 : decode cX10_next 102 = .ok (.invokevirtual 222, 3) := by decide +kernel
theorem dX10_next_105 : decode cX10_next 105 = .ok (.i2l, 1) := by decide +kernel
theorem dX10_next_106 : decode cX10_next 106 = .ok (.lor, 1) := by decide +kernel
theorem dX10_next_107 : decode cX10_next 107 = .ok (.putfield 231, 3) := by decide +kernel
theorem dX10_next_110 : decode cX10_next 110 = .ok (.aload_n 0, 1) := by decide +kernel
theorem dX10_next_111 : decode cX10_next 111 = .ok (.dup, 1) := by decide +kernel
theorem dX10_next_112 : decode cX10_next 112 = .ok (.getfield 216, 3) := by decide +kernel
theorem dX10_next_115 : decode cX10_next 115 = .ok (.iconst 1, 1) := by decide +kernel
theorem dX10_next_116 : decode cX10_next 116 = .ok (.iadd, 1) := by decide +kernel
theorem dX10_next_117 : decode cX10_next 117 = .ok (.putfield 216, 3) := by decide +kernel
theorem dX10_next_120 : decode cX10_next 120 = .ok (.iinc 2 1, 3) := by decide +kernel
theorem dX10_next_123 : decode cX10_next 123 = .ok (.goto (-44), 3) := by decide +kernel
theorem dX10_next_126 : decode cX10_next 126 = .ok (.aload_n 0, 1) := by decide +kernel
theorem dX10_next_127 : decode cX10_next 127 = .ok (.iload_n 2, 1) := by decide +kernel
theorem dX10_next_128 : decode cX10_next 128 = .ok (.bipush 8, 2) := by decide +kernel
theorem dX10_next_130 : decode cX10_next 130 = .ok (.if_icmp .le 7, 3) := by decide +kernel
theorem dX10_next_133 : decode cX10_next 133 = .ok (.lconst 0, 1) := by decide +kernel
theorem dX10_next_134 : decode cX10_next 134 = .ok (.goto 7, 3) := by decide +kernel
theorem dX10_next_137 : decode cX10_next 137 = .ok (.aload_n 0, 1) := by decide +kernel
theorem dX10_next_138 : decode cX10_next 138 = .ok (.getfield 231, 3) := by decide +kernel
theorem dX10_next_141 : decode cX10_next 141 = .ok (.putfield 231, 3) := by decide +kernel
theorem dX10_next_144 : decode cX10_next 144 = .ok (.aload_n 0, 1) := by decide +kernel
theorem dX10_next_145 : decode cX10_next 145 = .ok (.iconst 2, 1) := by decide +kernel
theorem dX10_next_146 : decode cX10_next 146 = .ok (.putfield 235, 3) := by decide +kernel
theorem dX10_next_149 : decode cX10_next 149 = .ok (.goto 148, 3) := by decide +kernel
theorem dX10_next_152 : decode cX10_next 152 = .ok (.iload_n 1, 1) := by decide +kernel
theorem dX10_next_153 : decode cX10_next 153 = .ok (.bipush 48, 2) := by decide +kernel
theorem dX10_next_155 : decode cX10_next 155 = .ok (.bipush 57, 2) := by decide +kernel
theorem dX10_next_157 : decode cX10_next 157 = .ok (.invokestatic 146, 3) := by decide +kernel
theorem dX10_next_160 : decode cX10_next 160 = .ok (.ifCond .eq 88, 3) := by decide +kernel
theorem dX10_next_163 : decode cX10_next 163 = .ok (.iconst 0, 1) := by decide +kernel
theorem dX10_next_164 : decode cX10_next 164 = .ok (.istore_n 2, 1) := by decide +kernel
theorem dX10_next_165 : decode cX10_next 165 = .ok (.aload_n 0, 1) := by decide +kernel
theorem dX10_next_166 : decode cX10_next 166 = .ok (.iconst 0, 1) := by decide +kernel
theorem dX10_next_167 : decode cX10_next 167 = .ok (.putfield 228, 3) := by decide +kernel
theorem dX10_next_170 : decode cX10_next 170 = .ok (.aload_n 0, 1) := by decide +kernel
theorem dX10_next_171 : decode cX10_next 171 = .ok (.invokevirtual 222, 3) := by decide +kernel
theorem dX10_next_174 : decode cX10_next 174 = .ok (.bipush 48, 2) := by decide +kernel
theorem dX10_next_176 : decode cX10_next 176 = .ok (.bipush 57, 2) := by decide +kernel
theorem dX10_next_178 : decode cX10_next 178 = .ok (.invokestatic 146, 3) := by decide +kernel
theorem dX10_next_181 : decode cX10_next 181 = .ok (.ifCond .eq 50, 3) := by decide +kernel
theorem dX10_next_184 : decode cX10_next 184 = .ok (.aload_n 0, 1) := by decide +kernel
theorem dX10_next_185 : decode cX10_next 185 = .ok (.iload_n 2, 1) := by decide +kernel
theorem dX10_next_186 : decode cX10_next 186 = .ok (.iconst 4, 1) := by decide +kernel
theorem dX10_next_187 : decode cX10_next 187 = .ok (.if_icmp .ge 21, 3) := by decide +kernel
theorem dX10_next_190 : decode cX10_next 190 = .ok (.bipush 10, 2) := by decide +kernel
theorem dX10_next_192 : decode cX10_next 192 = .ok (.aload_n 0, 1) := by decide +kernel
theorem dX10_next_193 : decode cX10_next 193 = .ok (.getfield 228, 3) := by decide +kernel
theorem dX10_next_196 : decode cX10_next 196 = .ok (.imul, 1) := by decide +kernel
theorem dX10_next_197 : decode cX10_next 197 = .ok (.aload_n 0, 1) := by decide +kernel
theorem dX10_next_198 : decode cX10_next 198 = .ok (.invokevirtual 222, 3) := by decide +kernel
theorem dX10_next_201 : decode cX10_next 201 = .ok (.iadd, 1) := by decide +kernel
theorem dX10_next_202 : decode cX10_next 202 = .ok (.bipush 48, 2) := by decide +kernel
theorem dX10_next_204 : decode cX10_next 204 = .ok (.isub, 1) := by decide +kernel
theorem dX10_next_205 : decode cX10_next 205 = .ok (.goto 7, 3) := by decide +kernel
theorem dX10_next_208 : decode cX10_next 208 = .ok (.aload_n 0, 1) := by decide +kernel
theorem dX10_next_209 : decode cX10_next 209 = .ok (.getfield 228, 3) := by decide +kernel
theorem dX10_next_212 : decode cX10_next 212 = .ok (.putfield 228, 3) := by decide +kernel
theorem dX10_next_215 : decode cX10_next 215 = .ok (.aload_n 0, 1) := by decide +kernel
theorem dX10_next_216 : decode cX10_next 216 = .ok (.dup, 1) := by decide +kernel
theorem dX10_next_217 : decode cX10_next 217 = .ok (.getfield 216, 3) := by decide +kernel
theorem dX10_next_220 : decode cX10_next 220 = .ok (.iconst 1, 1) := by decide +kernel
theorem dX10_next_221 : decode cX10_next 221 = .ok (.iadd, 1) := by decide +kernel
theorem dX10_next_222 : decode cX10_next 222 = .ok (.putfield 216, 3) := by decide +kernel
theorem dX10_next_225 : decode cX10_next 225 = .ok (.iinc 2 1, 3) := by decide +kernel
theorem dX10_next_228 : decode cX10_next 228 = .ok (.goto (-58), 3) := by decide +kernel
theorem dX10_next_231 : decode cX10_next 231 = .ok (.aload_n 0, 1) := by decide +kernel
theorem dX10_next_232 : decode cX10_next 232 = .ok (.iload_n 2, 1) := by decide +kernel
theorem dX10_next_233 : decode cX10_next 233 = .ok (.iconst 4, 1) := by decide +kernel
theorem dX10_next_234 : decode cX10_next 234 = .ok (.if_icmp .le 7, 3) := by decide +kernel
theorem dX10_next_237 : decode cX10_next 237 = .ok (.iconst 1, 1) := by decide +kernel
theorem dX10_next_238 : decode cX10_next 238 = .ok (.goto 4, 3) := by decide +kernel
theorem dX10_next_241 : decode cX10_next 241 = .ok (.iconst 3, 1) := by decide +kernel
theorem dX10_next_242 : decode cX10_next 242 = .ok (.putfield 235, 3) := by decide +kernel
theorem dX10_next_245 : decode cX10_next 245 = .ok (.goto 52, 3) := by decide +kernel
theorem dX10_next_248 : decode cX10_next 248 = .ok (.aload_n 0, 1) := by decide +kernel
theorem dX10_next_249 : decode cX10_next 249 = .ok (.dup, 1) := by decide +kernel
theorem dX10_next_250 : decode cX10_next 250 = .ok (.getfield 216, 3) := by decide +kernel
theorem dX10_next_253 : decode cX10_next 253 = .ok (.iconst 1, 1) := by decide +kernel
theorem dX10_next_254 : decode cX10_next 254 = .ok (.iadd, 1) := by decide +kernel
theorem dX10_next_255 : decode cX10_next 255 = .ok (.putfield 216, 3) := by decide +kernel
theorem dX10_next_258 : decode cX10_next 258 = .ok (.aload_n 0, 1) := by decide +kernel
theorem dX10_next_259 : decode cX10_next 259 = .ok (.iload_n 1, 1) := by decide +kernel
theorem dX10_next_260 : decode cX10_next 260 = .ok (.bipush 58, 2) := by decide +kernel
theorem dX10_next_262 : decode cX10_next 262 = .ok (.if_icmp .eq 27, 3) := by decide +kernel
theorem dX10_next_265 : decode cX10_next 265 = .ok (.iload_n 1, 1) := by decide +kernel
theorem dX10_next_266 : decode cX10_next 266 = .ok (.bipush 59, 2) := by decide +kernel
theorem dX10_next_268 : decode cX10_next 268 = .ok (.if_icmp .eq 21, 3) := by decide +kernel
theorem dX10_next_271 : decode cX10_next 271 = .ok (.iload_n 1, 1) := by decide +kernel
theorem dX10_next_272 : decode cX10_next 272 = .ok (.bipush 60, 2) := by decide +kernel
theorem dX10_next_274 : decode cX10_next 274 = .ok (.if_icmp .eq 15, 3) := by decide +kernel
theorem dX10_next_277 : decode cX10_next 277 = .ok (.iload_n 1, 1) := by decide +kernel
theorem dX10_next_278 : decode cX10_next 278 = .ok (.bipush 62, 2) := by decide +kernel
theorem dX10_next_280 : decode cX10_next 280 = .ok (.if_icmp .eq 9, 3) := by decide +kernel
theorem dX10_next_283 : decode cX10_next 283 = .ok (.iload_n 1, 1) := by decide +kernel
theorem dX10_next_284 : decode cX10_next 284 = .ok (.bipush 61, 2) := by decide +kernel
theorem dX10_next_286 : decode cX10_next 286 = .ok (.if_icmp .ne 7, 3) := by decide +kernel
theorem dX10_next_289 : decode cX10_next 289 = .ok (.iconst 4, 1) := by decide +kernel
theorem dX10_next_290 : decode cX10_next 290 = .ok (.goto 4, 3) := by decide +kernel
theorem dX10_next_293 : decode cX10_next 293 = .ok (.iconst 1, 1) := by decide +kernel
theorem dX10_next_294 : decode cX10_next 294 = .ok (.putfield 235, 3) := by decide +kernel
theorem dX10_next_297 : decode cX10_next 297 = .ok (.return_, 1) := by decide +kernel
set_option maxRecDepth 20000 in
theorem ggX10_contract_X10_next : GoodIn wsX10_contract wsX10_next := goodIn_r _ [27, 4, 28, 29, 30, 9, 31, 32, 33, 26, 34, 3, 35, 36, 37, 38, 79, 80, 81, 82, 83, 84, 85, 86, 87, 88, 89, 90, 91, 92, 93, 94, 95, 96, 97, 98, 99, 100, 101, 102, 103, 104, 105, 106, 107, 108, 109, 110, 111, 112, 113, 114, 115, 116, 117, 118, 119, 120, 121, 122, 123, 124, 125, 126, 127, 128, 129, 130, 131] (by decide +kernel) (by decide +kernel)
set_option maxRecDepth 20000 in
theorem gX10_contract_X10_next : GoodIn wsX10_contract (wsV RX10 251 RX10 yX10_next wsX10_next) := goodIn_app (goodIn_of _ (by decide +kernel)) ggX10_contract_X10_next
theorem dX10_contract_0 : decode cX10_contract 0 = .ok (.aload_n 0, 1) := by decide +kernel
theorem dX10_contract_1 : decode cX10_contract 1 = .ok (.iconst 0, 1) := by decide +kernel
theorem dX10_contract_2 : decode cX10_contract 2 = .ok (.putfield 139, 3) := by decide +kernel
theorem dX10_contract_5 : decode cX10_contract 5 = .ok (.aload_n 0, 1) := by decide +kernel
theorem dX10_contract_6 : decode cX10_contract 6 = .ok (.aload_n 0, 1) := by decide +kernel
theorem dX10_contract_7 : decode cX10_contract 7 = .ok (.getfield 209, 3) := by decide +kernel
theorem dX10_contract_10 : decode cX10_contract 10 = .ok (.putfield 219, 3) := by decide +kernel
theorem dX10_contract_13 : decode cX10_contract 13 = .ok (.aload_n 0, 1) := by decide +kernel
theorem dX10_contract_14 : decode cX10_contract 14 = .ok (.iconst 0, 1) := by decide +kernel
theorem dX10_contract_15 : decode cX10_contract 15 = .ok (.putfield 209, 3) := by decide +kernel
theorem dX10_contract_18 : decode cX10_contract 18 = .ok (.aload_n 0, 1) := by decide +kernel
theorem dX10_contract_19 : decode cX10_contract 19 = .ok (.iconst 0, 1) := by decide +kernel
theorem dX10_contract_20 : decode cX10_contract 20 = .ok (.putfield 216, 3) := by decide +kernel
theorem dX10_contract_23 : decode cX10_contract 23 = .ok (.aload_n 0, 1) := by decide +kernel
theorem dX10_contract_24 : decode cX10_contract 24 = .ok (.iconst 0, 1) := by decide +kernel
theorem dX10_contract_25 : decode cX10_contract 25 = .ok (.putfield 238, 3) := by decide +kernel
theorem dX10_contract_28 : decode cX10_contract 28 = .ok (.aload_n 0, 1) := by decide +kernel
theorem dX10_contract_29 : decode cX10_contract 29 = .ok (.iconst (-1), 1) := by decide +kernel
theorem dX10_contract_30 : decode cX10_contract 30 = .ok (.putfield 113, 3) := by decide +kernel
theorem dX10_contract_33 : decode cX10_contract 33 = .ok (.aload_n 0, 1) := by decide +kernel
theorem dX10_contract_34 : decode cX10_contract 34 = .ok (.iconst (-1), 1) := by decide +kernel
theorem dX10_contract_35 : decode cX10_contract 35 = .ok (.putfield 241, 3) := by decide +kernel
theorem dX10_contract_38 : decode cX10_contract 38 = .ok (.aload_n 0, 1) := by decide +kernel
theorem dX10_contract_39 : decode cX10_contract 39 = .ok (.iconst 0, 1) := by decide +kernel
theorem dX10_contract_40 : decode cX10_contract 40 = .ok (.putfield 254, 3) := by decide +kernel
theorem dX10_contract_43 : decode cX10_contract 43 = .ok (.iconst 1, 1) := by decide +kernel
theorem dX10_contract_44 : decode cX10_contract 44 = .ok (.istore_n 1, 1) := by decide +kernel
theorem dX10_contract_45 : decode cX10_contract 45 = .ok (.aload_n 0, 1) := by decide +kernel
theorem dX10_contract_46 : decode cX10_contract 46 = .ok (.invokevirtual 251, 3) := by decide +kernel
