theorem mem_r {big ws : List Cond} (ps : List Nat) (hp : ws = ps.filterMap (fun i => big[i]?)) : ∀ w ∈ ws, w ∈ big := by
  intro w hw
  rw [hp] at hw
  obtain ⟨i, -, hi⟩ := List.mem_filterMap.mp hw
  exact List.mem_of_getElem? hi
set_option maxRecDepth 20000 in
theorem in_wsL_law_r1 : ∀ w ∈ wsL_law_r1, w ∈ lw_tbl := mem_r [66, 67, 48, 871, 872, 59, 68, 69, 70, 71, 72, 73, 74, 75, 49, 350, 351, 285, 286, 56, 352, 301, 302, 57] (by decide +kernel)
set_option maxRecDepth 20000 in
theorem in_wsL_law_r2 : ∀ w ∈ wsL_law_r2, w ∈ lw_tbl := mem_r [353, 77, 78, 79, 80, 81, 50, 247, 109, 110, 52, 249, 131, 132, 53, 251, 171, 172, 54, 253, 213, 214, 55, 255] (by decide +kernel)
set_option maxRecDepth 20000 in
theorem in_wsL_law_r3 : ∀ w ∈ wsL_law_r3, w ∈ lw_tbl := mem_r [108, 257, 259, 261, 262, 82, 83, 84, 85, 96, 99, 86, 87, 88, 89, 93, 90, 91, 51, 92, 112, 113, 114, 117] (by decide +kernel)
set_option maxRecDepth 20000 in
theorem in_wsL_law_r4 : ∀ w ∈ wsL_law_r4, w ∈ lw_tbl := mem_r [120, 121, 134, 135, 136, 140, 143, 146, 149, 151, 153, 174, 175, 176, 180, 182, 184, 186, 188, 191, 193, 216, 217, 218] (by decide +kernel)
set_option maxRecDepth 20000 in
theorem in_wsL_law_r5 : ∀ w ∈ wsL_law_r5, w ∈ lw_tbl := mem_r [221, 222, 223, 224, 225, 226, 227, 288, 289, 290, 294, 304, 305, 306, 328, 330, 307, 332, 309, 310, 58, 334, 312, 313] (by decide +kernel)
set_option maxRecDepth 20000 in
theorem in_wsL_law_r6 : ∀ w ∈ wsL_law_r6, w ∈ lw_tbl := mem_r [314, 316, 317, 318, 873, 874, 875, 876, 776, 878, 880, 881, 882, 883, 884, 885, 886, 887, 888, 889, 890, 891, 892, 893] (by decide +kernel)
set_option maxRecDepth 20000 in
theorem in_wsL_law_r7 : ∀ w ∈ wsL_law_r7, w ∈ lw_tbl := mem_r [894, 895, 896, 897, 898, 899, 900, 901, 902, 903, 904, 905, 906, 907, 908, 909, 910, 911, 912, 920, 923, 924, 925, 926] (by decide +kernel)
set_option maxRecDepth 20000 in
theorem in_wsL_law_r8 : ∀ w ∈ wsL_law_r8, w ∈ lw_tbl := mem_r [927, 928, 1037, 929, 363, 364, 365, 366, 250, 115, 248, 258, 367, 368, 1038, 1039, 1040, 1041, 877, 1042, 1044, 16, 1045, 1046] (by decide +kernel)
set_option maxRecDepth 20000 in
theorem in_wsL_law_r9 : ∀ w ∈ wsL_law_r9, w ∈ lw_tbl := mem_r [1047, 1048, 369, 370, 371, 372, 97, 100, 373, 374, 375, 376, 1049, 1050, 1051, 1052, 377, 378, 379, 380, 381, 382, 383, 384] (by decide +kernel)
set_option maxRecDepth 20000 in
theorem in_wsL_law_r10 : ∀ w ∈ wsL_law_r10, w ∈ lw_tbl := mem_r [385, 386, 387, 1053, 1054, 1055, 1056, 1057, 1059, 17, 1060, 388, 389, 390, 391, 260, 1061, 1062, 1063, 1064, 392, 393, 394, 395] (by decide +kernel)
set_option maxRecDepth 20000 in
theorem in_wsL_law_r11 : ∀ w ∈ wsL_law_r11, w ∈ lw_tbl := mem_r [396, 397, 398, 399, 400, 401, 402, 403, 245, 404, 405, 406, 407, 408, 409, 410, 411, 116, 412, 414, 413, 60, 1065, 1066] (by decide +kernel)
set_option maxRecDepth 20000 in
theorem in_wsL_law_r12 : ∀ w ∈ wsL_law_r12, w ∈ lw_tbl := mem_r [1067, 1068, 415, 416, 417, 418, 419, 420, 421, 422, 423, 424, 425, 426, 427, 428, 429, 430, 431, 432, 433, 434, 435, 137] (by decide +kernel)
set_option maxRecDepth 20000 in
theorem in_wsL_law_r13 : ∀ w ∈ wsL_law_r13, w ∈ lw_tbl := mem_r [436, 437, 439, 0, 440, 118, 94, 441, 442, 443, 444, 446, 447, 448, 450, 1, 451, 452, 453, 454, 455, 456, 457, 458] (by decide +kernel)
set_option maxRecDepth 20000 in
theorem in_wsL_law_r14 : ∀ w ∈ wsL_law_r14, w ∈ lw_tbl := mem_r [459, 460, 461, 462, 463, 464, 465, 466, 467, 468, 469, 470, 471, 472, 473, 1069, 1070, 1071, 1072, 1073, 1075, 18, 1076, 1077] (by decide +kernel)
set_option maxRecDepth 20000 in
theorem in_wsL_law_r15 : ∀ w ∈ wsL_law_r15, w ∈ lw_tbl := mem_r [1079, 19, 1080, 1081, 1083, 20, 1084, 1085, 1087, 21, 1088, 1089, 1091, 22, 1092, 1093, 1095, 23, 1096, 1097, 1099, 24, 1100, 1101] (by decide +kernel)
set_option maxRecDepth 20000 in
theorem in_wsL_law_r16 : ∀ w ∈ wsL_law_r16, w ∈ lw_tbl := mem_r [1103, 25, 1104, 1105, 1107, 26, 1108, 474, 475, 476, 477, 252, 478, 479, 480, 481, 482, 483, 484, 485, 141, 154, 147, 144] (by decide +kernel)
set_option maxRecDepth 20000 in
theorem in_wsL_law_r17 : ∀ w ∈ wsL_law_r17, w ∈ lw_tbl := mem_r [486, 487, 488, 489, 1109, 1110, 1111, 1112, 491, 492, 493, 494, 254, 246, 495, 496, 497, 498, 499, 500, 501, 61, 502, 503] (by decide +kernel)
set_option maxRecDepth 20000 in
theorem in_wsL_law_r18 : ∀ w ∈ wsL_law_r18, w ∈ lw_tbl := mem_r [504, 505, 506, 177, 1113, 1114, 1115, 1116, 1117, 1119, 27, 1120, 507, 508, 509, 510, 190, 192, 195, 511, 512, 513, 514, 515] (by decide +kernel)
set_option maxRecDepth 20000 in
theorem in_wsL_law_r19 : ∀ w ∈ wsL_law_r19, w ∈ lw_tbl := mem_r [516, 517, 518, 1121, 1122, 1123, 1124, 519, 520, 521, 522, 523, 524, 525, 526, 178, 189, 194, 181, 183, 185, 187, 527, 1125] (by decide +kernel)
set_option maxRecDepth 20000 in
theorem in_wsL_law_r20 : ∀ w ∈ wsL_law_r20, w ∈ lw_tbl := mem_r [1126, 1127, 1128, 528, 529, 530, 531, 532, 533, 534, 535, 138, 536, 537, 538, 539, 540, 541, 543, 2, 544, 1129, 1130, 1131] (by decide +kernel)
set_option maxRecDepth 20000 in
theorem in_wsL_law_r21 : ∀ w ∈ wsL_law_r21, w ∈ lw_tbl := mem_r [1132, 1133, 1135, 28, 1136, 1137, 1139, 29, 1140, 1141, 1143, 30, 1144, 1145, 1147, 31, 1148, 545, 546, 547, 548, 549, 550, 551] (by decide +kernel)
set_option maxRecDepth 20000 in
theorem in_wsL_law_r22 : ∀ w ∈ wsL_law_r22, w ∈ lw_tbl := mem_r [552, 553, 555, 3, 556, 557, 1149, 1150, 1151, 1152, 558, 559, 560, 561, 142, 145, 148, 150, 152, 155, 1153, 1154, 1155, 1156] (by decide +kernel)
set_option maxRecDepth 20000 in
theorem in_wsL_law_r23 : ∀ w ∈ wsL_law_r23, w ∈ lw_tbl := mem_r [562, 563, 564, 565, 566, 567, 568, 569, 570, 571, 572, 573, 574, 575, 1157, 1158, 1159, 1160, 576, 577, 578, 579, 119, 580] (by decide +kernel)
set_option maxRecDepth 20000 in
theorem in_wsL_law_r24 : ∀ w ∈ wsL_law_r24, w ∈ lw_tbl := mem_r [581, 582, 583, 584, 585, 586, 587, 592, 593, 594, 588, 589, 590, 591, 595, 596, 597, 598, 599, 601, 4, 602, 603, 1161] (by decide +kernel)
set_option maxRecDepth 20000 in
theorem in_wsL_law_r25 : ∀ w ∈ wsL_law_r25, w ∈ lw_tbl := mem_r [1162, 1163, 1164, 1165, 1167, 32, 1168, 604, 605, 606, 607, 293, 608, 609, 610, 611, 291, 1169, 1170, 1171, 1172, 879, 1173, 1175] (by decide +kernel)
set_option maxRecDepth 20000 in
theorem in_wsL_law_r26 : ∀ w ∈ wsL_law_r26, w ∈ lw_tbl := mem_r [33, 1176, 612, 613, 614, 615, 1177, 1178, 1179, 1180, 616, 617, 618, 619, 329, 256, 333, 220, 620, 621, 622, 623, 336, 335] (by decide +kernel)
set_option maxRecDepth 20000 in
theorem in_wsL_law_r27 : ∀ w ∈ wsL_law_r27, w ∈ lw_tbl := mem_r [624, 625, 626, 627, 219, 628, 629, 630, 631, 632, 315, 292, 722, 633, 635, 5, 636, 295, 637, 638, 639, 640, 641, 642] (by decide +kernel)
set_option maxRecDepth 20000 in
theorem in_wsL_law_r28 : ∀ w ∈ wsL_law_r28, w ∈ lw_tbl := mem_r [643, 644, 645, 646, 647, 648, 661, 662, 663, 664, 665, 666, 62, 667, 1277, 668, 669, 670, 671, 672, 1278, 674, 675, 676] (by decide +kernel)
set_option maxRecDepth 20000 in
theorem in_wsL_law_r29 : ∀ w ∈ wsL_law_r29, w ∈ lw_tbl := mem_r [677, 678, 679, 680, 681, 682, 683, 63, 684, 685, 686, 687, 688, 690, 691, 64, 692, 693, 694, 65, 695, 696, 697, 698] (by decide +kernel)
set_option maxRecDepth 20000 in
theorem in_wsL_law_r30 : ∀ w ∈ wsL_law_r30, w ∈ lw_tbl := mem_r [699, 700, 701, 702, 703, 704, 705, 706, 708, 710, 712, 714, 6, 715, 716, 717, 718, 719, 720, 721, 723, 725, 7, 726] (by decide +kernel)
set_option maxRecDepth 20000 in
theorem in_wsL_law_r31 : ∀ w ∈ wsL_law_r31, w ∈ lw_tbl := mem_r [727, 729, 8, 730, 731, 732, 733, 734, 735, 737, 9, 738, 739, 741, 10, 742, 743, 744, 745, 746, 747, 749, 11, 750] (by decide +kernel)
set_option maxRecDepth 20000 in
theorem in_wsL_law_r32 : ∀ w ∈ wsL_law_r32, w ∈ lw_tbl := mem_r [751, 753, 12, 754, 755, 757, 13, 758, 759, 760, 761, 762, 763, 764, 765, 766, 767, 768, 769, 770, 771, 772, 773, 774] (by decide +kernel)
set_option maxRecDepth 20000 in
theorem in_wsL_law_r33 : ∀ w ∈ wsL_law_r33, w ∈ lw_tbl := mem_r [775, 1181, 1182, 1183, 1184, 914, 913, 919, 921, 922, 916, 1185, 1187, 34, 1188, 915, 917, 918, 1189, 1191, 35, 1192, 1193, 1195] (by decide +kernel)
set_option maxRecDepth 20000 in
theorem in_wsL_law_r34 : ∀ w ∈ wsL_law_r34, w ∈ lw_tbl := mem_r [36, 1196, 1201, 1220, 1229, 1230, 1231, 1232, 1197, 1199, 37, 1200, 1202, 1204, 38, 1205, 1206, 1208, 39, 1209, 1210, 1211, 1212, 1213] (by decide +kernel)
set_option maxRecDepth 20000 in
theorem in_wsL_law_r35 : ∀ w ∈ wsL_law_r35, w ∈ lw_tbl := mem_r [1214, 1215, 1216, 1218, 40, 1219, 1221, 1223, 41, 1224, 1225, 1227, 42, 1228, 777, 778, 779, 780, 331, 1233, 1234, 1235, 1236, 781] (by decide +kernel)
set_option maxRecDepth 20000 in
theorem in_wsL_law_r36 : ∀ w ∈ wsL_law_r36, w ∈ lw_tbl := mem_r [782, 783, 784, 785, 786, 787, 788, 789, 790, 791, 792, 98, 793, 794, 795, 796, 797, 799, 14, 800, 801, 803, 15, 804] (by decide +kernel)
set_option maxRecDepth 20000 in
theorem in_wsL_law_r37 : ∀ w ∈ wsL_law_r37, w ∈ lw_tbl := mem_r [805, 806, 807, 808, 809, 810, 811, 812, 813, 1237, 1238, 1239, 1240, 1241, 1243, 43, 1244, 1253, 1245, 1247, 44, 1248, 1249, 1251] (by decide +kernel)
set_option maxRecDepth 20000 in
theorem in_wsL_law_r38 : ∀ w ∈ wsL_law_r38, w ∈ lw_tbl := mem_r [45, 1252, 814, 815, 816, 817, 829, 818, 819, 820, 821, 822, 823, 824, 825, 826, 827, 828, 1254, 1255, 1256, 1257, 830, 831] (by decide +kernel)
set_option maxRecDepth 20000 in
theorem in_wsL_law_r39 : ∀ w ∈ wsL_law_r39, w ∈ lw_tbl := mem_r [832, 833, 95, 139, 179, 834, 835, 836, 837, 1258, 1259, 1260, 1261, 838, 839, 840, 841, 842, 843, 844, 845, 866, 846, 847] (by decide +kernel)
set_option maxRecDepth 20000 in
theorem in_wsL_law_r40 : ∀ w ∈ wsL_law_r40, w ∈ lw_tbl := mem_r [848, 849, 850, 851, 852, 853, 854, 855, 856, 857, 858, 859, 860, 861, 862, 863, 864, 865, 1262, 1263, 1264, 1265, 1266, 1268] (by decide +kernel)
set_option maxRecDepth 20000 in
theorem in_wsL_law_r41 : ∀ w ∈ wsL_law_r41, w ∈ lw_tbl := mem_r [46, 1269, 1270, 1271, 1272, 867, 868, 869, 870, 1273, 1274, 1275, 1276] (by decide +kernel)
set_option maxRecDepth 20000 in
theorem inX0 : ∀ w ∈ wsX00, w ∈ lw_tbl := mem_r [263, 265, 267, 269, 271, 273, 275, 277, 279, 281] (by decide +kernel)
set_option maxRecDepth 20000 in
theorem inX1 : ∀ w ∈ wsX10, w ∈ lw_tbl := mem_r [196, 198, 200, 202, 204, 206, 208, 210] (by decide +kernel)
set_option maxRecDepth 20000 in
theorem inX2 : ∀ w ∈ wsX20, w ∈ lw_tbl := mem_r [228, 230, 232, 234, 236, 238, 240, 242] (by decide +kernel)
set_option maxRecDepth 20000 in
theorem inX3 : ∀ w ∈ wsX30, w ∈ lw_tbl := mem_r [337, 339, 341, 343, 345, 347] (by decide +kernel)
set_option maxRecDepth 20000 in
theorem inX4 : ∀ w ∈ wsX40, w ∈ lw_tbl := mem_r [101, 103, 105] (by decide +kernel)
set_option maxRecDepth 20000 in
theorem inX5 : ∀ w ∈ wsX50, w ∈ lw_tbl := mem_r [122, 124, 126, 128] (by decide +kernel)
set_option maxRecDepth 20000 in
theorem inX6 : ∀ w ∈ wsX60, w ∈ lw_tbl := mem_r [296, 298] (by decide +kernel)
set_option maxRecDepth 20000 in
theorem inX7 : ∀ w ∈ wsX70, w ∈ lw_tbl := mem_r [156, 158, 160, 162, 164, 166, 168] (by decide +kernel)
set_option maxRecDepth 20000 in
theorem inX8 : ∀ w ∈ wsX80, w ∈ lw_tbl := mem_r [319, 321, 323, 325] (by decide +kernel)
set_option maxRecDepth 20000 in
theorem inX9 : ∀ w ∈ wsX90, w ∈ lw_tbl := mem_r [354, 356, 358, 360] (by decide +kernel)
set_option maxRecDepth 20000 in
theorem inX10 : ∀ w ∈ wsX100, w ∈ lw_tbl := mem_r [930, 932, 934, 936, 938, 940, 942, 944, 946, 948, 950, 952, 954, 956, 958, 960, 962, 964, 966, 968, 970, 972, 974, 976, 978, 980, 982, 984, 986, 988, 990, 992, 994, 996, 998, 1000, 1002, 1004, 1006, 1008, 1010, 1012, 1014, 1016, 1018, 1020, 1022, 1024, 1026, 1028, 1030, 1032, 1034] (by decide +kernel)
theorem wsL_law_in : ∀ w ∈ wsL_law, w ∈ lw_tbl := by
  intro w h
  unfold wsL_law at h
  simp only [List.mem_append, List.not_mem_nil, or_false] at h
  rcases h with (((((((((((h | h | h | h | h | h | h | h | h | h | h | h | h | h | h | h | h | h | h | h | h | h | h | h | h | h | h | h | h | h | h | h | h | h | h | h | h | h | h | h | h) | h) | h) | h) | h) | h) | h) | h) | h) | h) | h) | h
  · exact in_wsL_law_r1 w h
  · exact in_wsL_law_r2 w h
  · exact in_wsL_law_r3 w h
  · exact in_wsL_law_r4 w h
  · exact in_wsL_law_r5 w h
  · exact in_wsL_law_r6 w h
  · exact in_wsL_law_r7 w h
  · exact in_wsL_law_r8 w h
  · exact in_wsL_law_r9 w h
  · exact in_wsL_law_r10 w h
  · exact in_wsL_law_r11 w h
  · exact in_wsL_law_r12 w h
  · exact in_wsL_law_r13 w h
  · exact in_wsL_law_r14 w h
  · exact in_wsL_law_r15 w h
  · exact in_wsL_law_r16 w h
  · exact in_wsL_law_r17 w h
  · exact in_wsL_law_r18 w h
  · exact in_wsL_law_r19 w h
  · exact in_wsL_law_r20 w h
  · exact in_wsL_law_r21 w h
  · exact in_wsL_law_r22 w h
  · exact in_wsL_law_r23 w h
  · exact in_wsL_law_r24 w h
  · exact in_wsL_law_r25 w h
  · exact in_wsL_law_r26 w h
  · exact in_wsL_law_r27 w h
  · exact in_wsL_law_r28 w h
  · exact in_wsL_law_r29 w h
  · exact in_wsL_law_r30 w h
  · exact in_wsL_law_r31 w h
  · exact in_wsL_law_r32 w h
  · exact in_wsL_law_r33 w h
  · exact in_wsL_law_r34 w h
  · exact in_wsL_law_r35 w h
  · exact in_wsL_law_r36 w h
  · exact in_wsL_law_r37 w h
  · exact in_wsL_law_r38 w h
  · exact in_wsL_law_r39 w h
  · exact in_wsL_law_r40 w h
  · exact in_wsL_law_r41 w h
  · exact inX9 w h
  · exact inX10 w h
  · exact inX0 w h
  · exact inX6 w h
  · exact inX3 w h
  · exact inX4 w h
  · exact inX5 w h
  · exact inX7 w h
  · exact inX1 w h
  · exact inX2 w h
  · exact inX8 w h
theorem inlX0 : ∀ w ∈ wsX00, w ∈ wsL_law := fun _ h => List.mem_append_left _ (List.mem_append_left _ (List.mem_append_left _ (List.mem_append_left _ (List.mem_append_left _ (List.mem_append_left _ (List.mem_append_left _ (List.mem_append_left _ (List.mem_append_left _ (List.mem_append_right _ h)))))))))
theorem inlX1 : ∀ w ∈ wsX10, w ∈ wsL_law := fun _ h => List.mem_append_left _ (List.mem_append_left _ (List.mem_append_left _ (List.mem_append_right _ h)))
theorem inlX2 : ∀ w ∈ wsX20, w ∈ wsL_law := fun _ h => List.mem_append_left _ (List.mem_append_left _ (List.mem_append_right _ h))
theorem inlX3 : ∀ w ∈ wsX30, w ∈ wsL_law := fun _ h => List.mem_append_left _ (List.mem_append_left _ (List.mem_append_left _ (List.mem_append_left _ (List.mem_append_left _ (List.mem_append_left _ (List.mem_append_left _ (List.mem_append_right _ h)))))))
theorem inlX4 : ∀ w ∈ wsX40, w ∈ wsL_law := fun _ h => List.mem_append_left _ (List.mem_append_left _ (List.mem_append_left _ (List.mem_append_left _ (List.mem_append_left _ (List.mem_append_left _ (List.mem_append_right _ h))))))
theorem inlX5 : ∀ w ∈ wsX50, w ∈ wsL_law := fun _ h => List.mem_append_left _ (List.mem_append_left _ (List.mem_append_left _ (List.mem_append_left _ (List.mem_append_left _ (List.mem_append_right _ h)))))
theorem inlX6 : ∀ w ∈ wsX60, w ∈ wsL_law := fun _ h => List.mem_append_left _ (List.mem_append_left _ (List.mem_append_left _ (List.mem_append_left _ (List.mem_append_left _ (List.mem_append_left _ (List.mem_append_left _ (List.mem_append_left _ (List.mem_append_right _ h))))))))
theorem inlX7 : ∀ w ∈ wsX70, w ∈ wsL_law := fun _ h => List.mem_append_left _ (List.mem_append_left _ (List.mem_append_left _ (List.mem_append_left _ (List.mem_append_right _ h))))
theorem inlX8 : ∀ w ∈ wsX80, w ∈ wsL_law := fun _ h => List.mem_append_left _ (List.mem_append_right _ h)
theorem inlX9 : ∀ w ∈ wsX90, w ∈ wsL_law := fun _ h => List.mem_append_left _ (List.mem_append_left _ (List.mem_append_left _ (List.mem_append_left _ (List.mem_append_left _ (List.mem_append_left _ (List.mem_append_left _ (List.mem_append_left _ (List.mem_append_left _ (List.mem_append_left _ (List.mem_append_left _ (List.mem_append_right _ h)))))))))))
theorem inlX10 : ∀ w ∈ wsX100, w ∈ wsL_law := fun _ h => List.mem_append_left _ (List.mem_append_left _ (List.mem_append_left _ (List.mem_append_left _ (List.mem_append_left _ (List.mem_append_left _ (List.mem_append_left _ (List.mem_append_left _ (List.mem_append_left _ (List.mem_append_left _ (List.mem_append_right _ h))))))))))
