theorem dX9_image_4 : decode cX9_image 4 = .ok (.iload_n 1, 1) := by decide +kernel
theorem dX9_image_5 : decode cX9_image 5 = .ok (.iconst 3, 1) := by decide +kernel
theorem dX9_image_6 : decode cX9_image 6 = .ok (.if_icmp .lt 5, 3) := by decide +kernel
theorem dX9_image_9 : decode cX9_image 9 = .ok (.iconst 0, 1) := by decide +kernel
theorem dX9_image_10 : decode cX9_image 10 = .ok (.ireturn, 1) := by decide +kernel
theorem dX9_image_11 : decode cX9_image 11 = .ok (.aload_n 0, 1) := by decide +kernel
theorem dX9_image_12 : decode cX9_image 12 = .ok (.getfield 16, 3) := by decide +kernel
theorem dX9_image_15 : decode cX9_image 15 = .ok (.iload_n 1, 1) := by decide +kernel
theorem dX9_image_16 : decode cX9_image 16 = .ok (.aaload, 1) := by decide +kernel
theorem dX9_image_17 : decode cX9_image 17 = .ok (.ifnonnull 16, 3) := by decide +kernel
theorem dX9_image_20 : decode cX9_image 20 = .ok (.aload_n 0, 1) := by decide +kernel
theorem dX9_image_21 : decode cX9_image 21 = .ok (.getfield 16, 3) := by decide +kernel
theorem dX9_image_24 : decode cX9_image 24 = .ok (.iload_n 1, 1) := by decide +kernel
theorem dX9_image_25 : decode cX9_image 25 = .ok (.new 7, 3) := by decide +kernel
theorem dX9_image_28 : decode cX9_image 28 = .ok (.dup, 1) := by decide +kernel
theorem dX9_image_29 : decode cX9_image 29 = .ok (.invokespecial 9, 3) := by decide +kernel
theorem dX9_image_32 : decode cX9_image 32 = .ok (.aastore, 1) := by decide +kernel
theorem dX9_image_33 : decode cX9_image 33 = .ok (.aload_n 0, 1) := by decide +kernel
theorem dX9_image_34 : decode cX9_image 34 = .ok (.getfield 16, 3) := by decide +kernel
theorem dX9_image_37 : decode cX9_image 37 = .ok (.iload_n 1, 1) := by decide +kernel
theorem dX9_image_38 : decode cX9_image 38 = .ok (.aaload, 1) := by decide +kernel
theorem dX9_image_39 : decode cX9_image 39 = .ok (.aload_n 0, 1) := by decide +kernel
theorem dX9_image_40 : decode cX9_image 40 = .ok (.getfield 10, 3) := by decide +kernel
theorem dX9_image_43 : decode cX9_image 43 = .ok (.invokevirtual 257, 3) := by decide +kernel
theorem dX9_image_46 : decode cX9_image 46 = .ok (.iconst 1, 1) := by decide +kernel
theorem dX9_image_47 : decode cX9_image 47 = .ok (.ireturn, 1) := by decide +kernel
set_option maxRecDepth 20000 in
theorem ggX9_again_X0_copyFrom : GoodIn wsX9_again wsX0_copyFrom := goodIn_r _ [7, 8, 9, 10, 11, 12, 13, 14, 15, 16, 17, 18, 19, 20, 21, 22, 23, 24, 25, 26, 27, 28, 29, 30, 31, 32, 33, 34, 35, 36, 37, 38, 39, 40, 41, 42, 43, 44, 45, 46, 47, 48, 49, 50, 51, 52, 53, 54, 55, 56, 57, 58, 59, 60, 61, 62, 63, 64, 65, 66, 67, 68, 69, 70, 71, 72, 73, 74, 75, 76, 77, 78, 79, 84, 85, 86, 87, 88, 89, 90, 91, 92, 93, 94, 95, 96, 97, 98, 99, 100, 101, 102, 103, 104, 105, 106, 107, 108, 109, 110, 111, 112, 113, 114, 115, 116, 117, 118, 119, 120, 121, 122, 123] (by decide +kernel) (by decide +kernel)
set_option maxRecDepth 20000 in
theorem gX9_again_X0_copyFrom : GoodIn wsX9_again (wsV RX9 257 RX0 yX0_copyFrom wsX0_copyFrom) := goodIn_app (goodIn_of _ (by decide +kernel)) ggX9_again_X0_copyFrom
theorem dX9_again_0 : decode cX9_again 0 = .ok (.iload_n 1, 1) := by decide +kernel
theorem dX9_again_1 : decode cX9_again 1 = .ok (.ifCond .lt 17, 3) := by decide +kernel
theorem dX9_again_4 : decode cX9_again 4 = .ok (.iload_n 1, 1) := by decide +kernel
theorem dX9_again_5 : decode cX9_again 5 = .ok (.iconst 3, 1) := by decide +kernel
theorem dX9_again_6 : decode cX9_again 6 = .ok (.if_icmp .ge 12, 3) := by decide +kernel
theorem dX9_again_9 : decode cX9_again 9 = .ok (.aload_n 0, 1) := by decide +kernel
theorem dX9_again_10 : decode cX9_again 10 = .ok (.getfield 16, 3) := by decide +kernel
theorem dX9_again_13 : decode cX9_again 13 = .ok (.iload_n 1, 1) := by decide +kernel
theorem dX9_again_14 : decode cX9_again 14 = .ok (.aaload, 1) := by decide +kernel
theorem dX9_again_15 : decode cX9_again 15 = .ok (.ifnonnull 5, 3) := by decide +kernel
theorem dX9_again_18 : decode cX9_again 18 = .ok (.iconst 0, 1) := by decide +kernel
theorem dX9_again_19 : decode cX9_again 19 = .ok (.ireturn, 1) := by decide +kernel
theorem dX9_again_20 : decode cX9_again 20 = .ok (.aload_n 0, 1) := by decide +kernel
theorem dX9_again_21 : decode cX9_again 21 = .ok (.getfield 10, 3) := by decide +kernel
theorem dX9_again_24 : decode cX9_again 24 = .ok (.aload_n 0, 1) := by decide +kernel
theorem dX9_again_25 : decode cX9_again 25 = .ok (.getfield 16, 3) := by decide +kernel
theorem dX9_again_28 : decode cX9_again 28 = .ok (.iload_n 1, 1) := by decide +kernel
theorem dX9_again_29 : decode cX9_again 29 = .ok (.aaload, 1) := by decide +kernel
theorem dX9_again_30 : decode cX9_again 30 = .ok (.invokevirtual 257, 3) := by decide +kernel
theorem dX9_again_33 : decode cX9_again 33 = .ok (.iconst 1, 1) := by decide +kernel
theorem dX9_again_34 : decode cX9_again 34 = .ok (.ireturn, 1) := by decide +kernel
theorem dX9_isOffice_0 : decode cX9_isOffice 0 = .ok (.iload_n 0, 1) := by decide +kernel
theorem dX9_isOffice_1 : decode cX9_isOffice 1 = .ok (.ifCond .lt 13, 3) := by decide +kernel
theorem dX9_isOffice_4 : decode cX9_isOffice 4 = .ok (.iload_n 0, 1) := by decide +kernel
theorem dX9_isOffice_5 : decode cX9_isOffice 5 = .ok (.bipush 6, 2) := by decide +kernel
theorem dX9_isOffice_7 : decode cX9_isOffice 7 = .ok (.if_icmp .ge 7, 3) := by decide +kernel
theorem dX9_isOffice_10 : decode cX9_isOffice 10 = .ok (.iconst 1, 1) := by decide +kernel
theorem dX9_isOffice_11 : decode cX9_isOffice 11 = .ok (.goto 4, 3) := by decide +kernel
theorem dX9_isOffice_14 : decode cX9_isOffice 14 = .ok (.iconst 0, 1) := by decide +kernel
theorem dX9_isOffice_15 : decode cX9_isOffice 15 = .ok (.ireturn, 1) := by decide +kernel
theorem dX9_isInSet_0 : decode cX9_isInSet 0 = .ok (.iload_n 0, 1) := by decide +kernel
theorem dX9_isInSet_1 : decode cX9_isInSet 1 = .ok (.iload_n 1, 1) := by decide +kernel
theorem dX9_isInSet_2 : decode cX9_isInSet 2 = .ok (.ishr, 1) := by decide +kernel
theorem dX9_isInSet_3 : decode cX9_isInSet 3 = .ok (.iconst 1, 1) := by decide +kernel
theorem dX9_isInSet_4 : decode cX9_isInSet 4 = .ok (.iand, 1) := by decide +kernel
theorem dX9_isInSet_5 : decode cX9_isInSet 5 = .ok (.iconst 1, 1) := by decide +kernel
theorem dX9_isInSet_6 : decode cX9_isInSet 6 = .ok (.if_icmp .ne 7, 3) := by decide +kernel
theorem dX9_isInSet_9 : decode cX9_isInSet 9 = .ok (.iconst 1, 1) := by decide +kernel
theorem dX9_isInSet_10 : decode cX9_isInSet 10 = .ok (.goto 4, 3) := by decide +kernel
theorem dX9_isInSet_13 : decode cX9_isInSet 13 = .ok (.iconst 0, 1) := by decide +kernel
theorem dX9_isInSet_14 : decode cX9_isInSet 14 = .ok (.ireturn, 1) := by decide +kernel
set_option maxRecDepth 20000 in
theorem ggX9_carsOut_X9_isInSet : GoodIn wsX9_carsOut wsX9_isInSet := goodIn_r _ [4] (by decide +kernel) (by decide +kernel)
set_option maxRecDepth 20000 in
theorem gX9_carsOut_X9_isInSet : GoodIn wsX9_carsOut (va_wsS RX9 238 yX9_isInSet wsX9_isInSet) := goodIn_app (goodIn_of _ (by decide +kernel)) ggX9_carsOut_X9_isInSet
theorem dX9_carsOut_0 : decode cX9_carsOut 0 = .ok (.iconst 0, 1) := by decide +kernel
theorem dX9_carsOut_1 : decode cX9_carsOut 1 = .ok (.istore_n 3, 1) := by decide +kernel
theorem dX9_carsOut_2 : decode cX9_carsOut 2 = .ok (.iconst 0, 1) := by decide +kernel
theorem dX9_carsOut_3 : decode cX9_carsOut 3 = .ok (.istore 4, 2) := by decide +kernel
theorem dX9_carsOut_5 : decode cX9_carsOut 5 = .ok (.iload 4, 2) := by decide +kernel
theorem dX9_carsOut_7 : decode cX9_carsOut 7 = .ok (.iload_n 1, 1) := by decide +kernel
theorem dX9_carsOut_8 : decode cX9_carsOut 8 = .ok (.if_icmp .gt 32, 3) := by decide +kernel
theorem dX9_carsOut_11 : decode cX9_carsOut 11 = .ok (.iload_n 0, 1) := by decide +kernel
theorem dX9_carsOut_12 : decode cX9_carsOut 12 = .ok (.iload 4, 2) := by decide +kernel
theorem dX9_carsOut_14 : decode cX9_carsOut 14 = .ok (.invokestatic 238, 3) := by decide +kernel
theorem dX9_carsOut_17 : decode cX9_carsOut 17 = .ok (.ifCond .eq 17, 3) := by decide +kernel
theorem dX9_carsOut_20 : decode cX9_carsOut 20 = .ok (.bipush 24, 2) := by decide +kernel
theorem dX9_carsOut_22 : decode cX9_carsOut 22 = .ok (.iload_n 1, 1) := by decide +kernel
theorem dX9_carsOut_23 : decode cX9_carsOut 23 = .ok (.iload 4, 2) := by decide +kernel
theorem dX9_carsOut_25 : decode cX9_carsOut 25 = .ok (.isub, 1) := by decide +kernel
theorem dX9_carsOut_26 : decode cX9_carsOut 26 = .ok (.imul, 1) := by decide +kernel
theorem dX9_carsOut_27 : decode cX9_carsOut 27 = .ok (.iload_n 2, 1) := by decide +kernel
theorem dX9_carsOut_28 : decode cX9_carsOut 28 = .ok (.if_icmp .ge 6, 3) := by decide +kernel
theorem dX9_carsOut_31 : decode cX9_carsOut 31 = .ok (.iinc 3 1, 3) := by decide +kernel
theorem dX9_carsOut_34 : decode cX9_carsOut 34 = .ok (.iinc 4 1, 3) := by decide +kernel
theorem dX9_carsOut_37 : decode cX9_carsOut 37 = .ok (.goto (-32), 3) := by decide +kernel
theorem dX9_carsOut_40 : decode cX9_carsOut 40 = .ok (.iload_n 3, 1) := by decide +kernel
theorem dX9_carsOut_41 : decode cX9_carsOut 41 = .ok (.ireturn, 1) := by decide +kernel
theorem dJ7_fill_53178_0 : decode cJ7_fill_53178 0 = .ok (.iconst 0, 1) := by decide +kernel
theorem dJ7_fill_53178_1 : decode cJ7_fill_53178 1 = .ok (.istore_n 2, 1) := by decide +kernel
theorem dJ7_fill_53178_2 : decode cJ7_fill_53178 2 = .ok (.aload_n 0, 1) := by decide +kernel
theorem dJ7_fill_53178_3 : decode cJ7_fill_53178 3 = .ok (.arraylength, 1) := by decide +kernel
theorem dJ7_fill_53178_4 : decode cJ7_fill_53178 4 = .ok (.istore_n 3, 1) := by decide +kernel
theorem dJ7_fill_53178_5 : decode cJ7_fill_53178 5 = .ok (.iload_n 2, 1) := by decide +kernel
theorem dJ7_fill_53178_6 : decode cJ7_fill_53178 6 = .ok (.iload_n 3, 1) := by decide +kernel
theorem dJ7_fill_53178_7 : decode cJ7_fill_53178 7 = .ok (.if_icmp .ge 13, 3) := by decide +kernel
theorem dJ7_fill_53178_10 : decode cJ7_fill_53178 10 = .ok (.aload_n 0, 1) := by decide +kernel
theorem dJ7_fill_53178_11 : decode cJ7_fill_53178 11 = .ok (.iload_n 2, 1) := by decide +kernel
theorem dJ7_fill_53178_12 : decode cJ7_fill_53178 12 = .ok (.iload_n 1, 1) := by decide +kernel
theorem dJ7_fill_53178_13 : decode cJ7_fill_53178 13 = .ok (.iastore, 1) := by decide +kernel
theorem dJ7_fill_53178_14 : decode cJ7_fill_53178 14 = .ok (.iinc 2 1, 3) := by decide +kernel
theorem dJ7_fill_53178_17 : decode cJ7_fill_53178 17 = .ok (.goto (-12), 3) := by decide +kernel
theorem dJ7_fill_53178_20 : decode cJ7_fill_53178 20 = .ok (.return_, 1) := by decide +kernel
