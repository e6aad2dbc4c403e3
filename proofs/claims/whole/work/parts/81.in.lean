/-! THE LAW'S WORDS are among the tables' -/
theorem sub_places {big ws : List Cond} (ps : List Nat) (h : ws = ps.filterMap (fun i => big[i]?)) : ∀ w ∈ ws, w ∈ big := by
  intro w hw
  rw [h] at hw
  obtain ⟨i, -, hi⟩ := List.mem_filterMap.mp hw
  exact List.mem_of_getElem? hi
theorem app_in {big a b : List Cond} (h1 : ∀ w ∈ a, w ∈ big) (h2 : ∀ w ∈ b, w ∈ big) : ∀ w ∈ a ++ b, w ∈ big := fun w h => (List.mem_append.mp h).elim (h1 w) (h2 w)
set_option maxRecDepth 100000 in
theorem wsL_law_i1 : ∀ w ∈ wsL_law0_r1, w ∈ lw_tbl := sub_places [95, 96, 76, 917, 918, 81, 1316, 97, 98, 99, 100, 101, 102, 103, 234, 105, 77, 135, 136, 78, 235, 236, 230, 142] rfl
set_option maxRecDepth 100000 in
theorem wsL_law_i2 : ∀ w ∈ wsL_law0_r2, w ∈ lw_tbl := sub_places [79, 237, 238, 239, 232, 149, 80, 240, 107, 108, 109, 134, 110, 112, 117, 119, 121, 138, 139, 140, 141, 212, 214, 215] rfl
set_option maxRecDepth 100000 in
theorem wsL_law_i3 : ∀ w ∈ wsL_law0_r3, w ∈ lw_tbl := sub_places [216, 217, 144, 145, 146, 147, 193, 195, 196, 199, 151, 152, 153, 919, 920, 921, 922, 923, 924, 925, 926, 928, 929, 935] rfl
set_option maxRecDepth 100000 in
theorem wsL_law_i4 : ∀ w ∈ wsL_law0_r4, w ∈ lw_tbl := sub_places [937, 938, 939, 940, 941, 942, 256, 257, 258, 259, 260, 262, 0, 263, 264, 265, 266, 267, 268, 269, 272, 1, 273, 276] rfl
set_option maxRecDepth 100000 in
theorem wsL_law_i5 : ∀ w ∈ wsL_law0_r5, w ∈ lw_tbl := sub_places [2, 277, 279, 82, 280, 283, 3, 284, 285, 286, 287, 290, 4, 291, 292, 294, 5, 295, 298, 6, 299, 154, 157, 160] rfl
set_option maxRecDepth 100000 in
theorem wsL_law_i6 : ∀ w ∈ wsL_law0_r6, w ∈ lw_tbl := sub_places [165, 170, 173, 176, 301, 83, 302, 304, 305, 307, 308, 309, 310, 311, 312, 313, 314, 317, 7, 318, 319, 321, 322, 323] rfl
set_option maxRecDepth 100000 in
theorem wsL_law_i7 : ∀ w ∈ wsL_law0_r7, w ∈ lw_tbl := sub_places [324, 325, 326, 329, 8, 330, 333, 9, 334, 336, 337, 987, 988, 989, 990, 933, 934, 932, 991, 993, 56, 994, 995, 996] rfl
set_option maxRecDepth 100000 in
theorem wsL_law_i8 : ∀ w ∈ wsL_law0_r8, w ∈ lw_tbl := sub_places [997, 998, 999, 1000, 1001, 1003, 57, 1004, 1005, 1007, 58, 1008, 1009, 1011, 59, 1012, 1013, 1014, 1015, 1016, 1018, 60, 1019, 1020] rfl
set_option maxRecDepth 100000 in
theorem wsL_law_i9 : ∀ w ∈ wsL_law0_r9, w ∈ lw_tbl := sub_places [1021, 1022, 1023, 1024, 1025, 1026, 1027, 1028, 1029, 1030, 1031, 1032, 1033, 1034, 1035, 1037, 61, 1038, 338, 339, 340, 341, 345, 10] rfl
set_option maxRecDepth 100000 in
theorem wsL_law_i10 : ∀ w ∈ wsL_law0_r10, w ∈ lw_tbl := sub_places [346, 348, 349, 1039, 1040, 1041, 1042, 1043, 1044, 1045, 1046, 1047, 1048, 1049, 1050, 1051, 350, 351, 352, 353, 354, 357, 11, 358] rfl
set_option maxRecDepth 100000 in
theorem wsL_law_i11 : ∀ w ∈ wsL_law0_r11, w ∈ lw_tbl := sub_places [360, 361, 1052, 1053, 1054, 1055, 1059, 1056, 1057, 1058, 362, 363, 364, 365, 366, 367, 368, 369, 370, 371, 372, 373, 374, 1060] rfl
set_option maxRecDepth 100000 in
theorem wsL_law_i12 : ∀ w ∈ wsL_law0_r12, w ∈ lw_tbl := sub_places [1061, 1062, 1063, 1064, 1066, 62, 1067, 376, 377, 378, 379, 1068, 1069, 1070, 1071, 381, 382, 383, 384, 1072, 1073, 1074, 1075, 385] rfl
set_option maxRecDepth 100000 in
theorem wsL_law_i13 : ∀ w ∈ wsL_law0_r13, w ∈ lw_tbl := sub_places [386, 387, 388, 391, 12, 392, 393, 395, 13, 396, 397, 399, 14, 400, 1076, 1077, 1078, 1079, 1080, 1081, 1082, 1083, 1084, 1085] rfl
set_option maxRecDepth 100000 in
theorem wsL_law_i14 : ∀ w ∈ wsL_law0_r14, w ∈ lw_tbl := sub_places [1086, 1087, 1088, 401, 402, 403, 404, 407, 15, 408, 1089, 1090, 1091, 1092, 1093, 1094, 1095, 410, 411, 412, 413, 416, 16, 417] rfl
set_option maxRecDepth 100000 in
theorem wsL_law_i15 : ∀ w ∈ wsL_law0_r15, w ∈ lw_tbl := sub_places [418, 420, 17, 421, 424, 18, 425, 426, 428, 19, 429, 430, 431, 84, 432, 433, 434, 435, 1096, 1097, 1098, 1099, 1100, 1101] rfl
set_option maxRecDepth 100000 in
theorem wsL_law_i16 : ∀ w ∈ wsL_law0_r16, w ∈ lw_tbl := sub_places [1102, 436, 437, 438, 439, 1103, 1104, 1105, 1106, 441, 442, 443, 444, 1107, 1108, 1109, 1110, 1111, 1112, 1113, 445, 446, 447, 448] rfl
set_option maxRecDepth 100000 in
theorem wsL_law_i17 : ∀ w ∈ wsL_law0_r17, w ∈ lw_tbl := sub_places [451, 20, 452, 453, 1114, 1115, 1116, 1117, 1118, 1120, 63, 1121, 454, 455, 456, 457, 460, 21, 461, 463, 465, 22, 466, 467] rfl
set_option maxRecDepth 100000 in
theorem wsL_law_i18 : ∀ w ∈ wsL_law0_r18, w ∈ lw_tbl := sub_places [469, 23, 470, 471, 472, 473, 475, 477, 24, 478, 481, 25, 482, 485, 26, 486, 487, 1122, 1123, 1124, 1125, 1126, 1128, 64] rfl
set_option maxRecDepth 100000 in
theorem wsL_law_i19 : ∀ w ∈ wsL_law0_r19, w ∈ lw_tbl := sub_places [1129, 930, 931, 1130, 1132, 65, 1133, 1134, 1135, 1136, 1137, 1139, 66, 1140, 488, 489, 490, 491, 1141, 1142, 1143, 1144, 492, 493] rfl
set_option maxRecDepth 100000 in
theorem wsL_law_i20 : ∀ w ∈ wsL_law0_r20, w ∈ lw_tbl := sub_places [494, 495, 498, 27, 499, 502, 28, 503, 1145, 1146, 1147, 1148, 506, 507, 508, 509, 512, 29, 513, 516, 30, 517, 1149, 1150] rfl
set_option maxRecDepth 100000 in
theorem wsL_law_i21 : ∀ w ∈ wsL_law0_r21, w ∈ lw_tbl := sub_places [1151, 1152, 518, 519, 520, 521, 524, 31, 525, 529, 32, 530, 1153, 1154, 1155, 1156, 1157, 1159, 67, 1160, 1161, 1163, 68, 1164] rfl
set_option maxRecDepth 100000 in
theorem wsL_law_i22 : ∀ w ∈ wsL_law0_r22, w ∈ lw_tbl := sub_places [531, 532, 533, 534, 1165, 1166, 1167, 1168, 535, 536, 537, 538, 539, 541, 33, 542, 544, 85, 545, 550, 551, 552, 553, 554] rfl
set_option maxRecDepth 100000 in
theorem wsL_law_i23 : ∀ w ∈ wsL_law0_r23, w ∈ lw_tbl := sub_places [555, 556, 557, 559, 560, 1169, 1170, 1171, 1172, 1173, 1175, 69, 1176, 1177, 1179, 70, 1180, 1181, 1183, 71, 1184, 561, 562, 563] rfl
set_option maxRecDepth 100000 in
theorem wsL_law_i24 : ∀ w ∈ wsL_law0_r24, w ∈ lw_tbl := sub_places [564, 1185, 1186, 1187, 1188, 566, 567, 568, 569, 573, 34, 574, 575, 576, 86, 577, 1189, 1190, 1191, 1192, 1193, 1194, 1195, 579] rfl
set_option maxRecDepth 100000 in
theorem wsL_law_i25 : ∀ w ∈ wsL_law0_r25, w ∈ lw_tbl := sub_places [580, 581, 582, 586, 35, 587, 588, 590, 36, 591, 592, 1196, 1197, 1198, 1199, 1200, 1201, 1202, 1203, 593, 594, 595, 596, 599] rfl
set_option maxRecDepth 100000 in
theorem wsL_law_i26 : ∀ w ∈ wsL_law0_r26, w ∈ lw_tbl := sub_places [37, 600, 604, 38, 605, 1204, 1205, 1206, 1207, 1208, 1210, 72, 1211, 606, 607, 608, 609, 612, 39, 613, 616, 40, 617, 1212] rfl
set_option maxRecDepth 100000 in
theorem wsL_law_i27 : ∀ w ∈ wsL_law0_r27, w ∈ lw_tbl := sub_places [1213, 1214, 1215, 618, 619, 620, 621, 623, 624, 625, 626, 627, 628, 1216, 1217, 1218, 1219, 1220, 1221, 1222, 629, 630, 631, 632] rfl
set_option maxRecDepth 100000 in
theorem wsL_law_i28 : ∀ w ∈ wsL_law0_r28, w ∈ lw_tbl := sub_places [633, 635, 87, 636, 637, 638, 639, 640, 641, 642, 645, 646, 647, 648, 649, 1223, 1224, 1225, 1226, 1227, 1228, 1229, 1230, 1231] rfl
set_option maxRecDepth 100000 in
theorem wsL_law_i29 : ∀ w ∈ wsL_law0_r29, w ∈ lw_tbl := sub_places [1232, 1233, 650, 651, 652, 653, 658, 659, 660, 656, 41, 657, 1234, 1235, 1236, 1237, 1238, 1240, 73, 1241, 661, 662, 663, 664] rfl
set_option maxRecDepth 100000 in
theorem wsL_law_i30 : ∀ w ∈ wsL_law0_r30, w ∈ lw_tbl := sub_places [667, 42, 668, 674, 669, 671, 43, 672, 677, 44, 678, 679, 1242, 1243, 1244, 1245, 680, 681, 682, 683, 686, 45, 687, 1246] rfl
set_option maxRecDepth 100000 in
theorem wsL_law_i31 : ∀ w ∈ wsL_law0_r31, w ∈ lw_tbl := sub_places [1247, 1248, 1249, 689, 690, 691, 692, 695, 46, 696, 1250, 1251, 1252, 1253, 698, 699, 700, 701, 702, 1254, 1255, 1256, 1257, 705] rfl
set_option maxRecDepth 100000 in
theorem wsL_law_i32 : ∀ w ∈ wsL_law0_r32, w ∈ lw_tbl := sub_places [706, 707, 708, 709, 711, 47, 712, 713, 714, 715, 716, 717, 718, 719, 720, 721, 1258, 1259, 1260, 1261, 936, 1262, 1264, 74] rfl
set_option maxRecDepth 100000 in
theorem wsL_law_i33 : ∀ w ∈ wsL_law0_r33, w ∈ lw_tbl := sub_places [1265, 1266, 1267, 1268, 723, 724, 725, 726, 1269, 1270, 1271, 1272, 927, 727, 728, 729, 730, 1273, 1274, 1275, 1276, 731, 732, 733] rfl
set_option maxRecDepth 100000 in
theorem wsL_law_i34 : ∀ w ∈ wsL_law0_r34, w ∈ lw_tbl := sub_places [734, 737, 48, 738, 741, 49, 742, 1277, 1278, 1279, 1280, 743, 744, 745, 746, 749, 50, 750, 753, 51, 754, 755, 1285, 1286] rfl
set_option maxRecDepth 100000 in
theorem wsL_law_i35 : ∀ w ∈ wsL_law0_r35, w ∈ lw_tbl := sub_places [1287, 1288, 756, 757, 758, 759, 762, 52, 763, 1289, 1290, 1291, 1292, 764, 765, 766, 767, 770, 53, 771, 1293, 1294, 1295, 1296] rfl
set_option maxRecDepth 100000 in
theorem wsL_law_i36 : ∀ w ∈ wsL_law0_r36, w ∈ lw_tbl := sub_places [903, 904, 75, 905, 906, 907, 908, 909, 910, 911, 799, 91, 798, 92, 1297, 1298, 1299, 1300, 943, 1281, 1282, 1283, 1284, 772] rfl
set_option maxRecDepth 100000 in
theorem wsL_law_i37 : ∀ w ∈ wsL_law0_r37, w ∈ lw_tbl := sub_places [773, 774, 775, 780, 782, 781, 93, 778, 54, 779, 1301, 1302, 1303, 1304, 783, 784, 785, 786, 788, 789, 1305, 1306, 1307, 1308] rfl
set_option maxRecDepth 100000 in
theorem wsL_law_i38 : ∀ w ∈ wsL_law0_r38, w ∈ lw_tbl := sub_places [1309, 1310, 1311, 790, 791, 792, 793, 794, 795, 796, 797, 801, 802, 803, 871, 94, 887, 1312, 1313, 1314, 1315] rfl
set_option maxRecDepth 100000 in
theorem wsL_law_c8 : ∀ w ∈ wsX80, w ∈ lw_tbl := sub_places [241, 243, 245, 247, 249, 251, 253] rfl
set_option maxRecDepth 100000 in
theorem wsL_law_c9 : ∀ w ∈ wsX90, w ∈ lw_tbl := sub_places [944, 946, 948, 950, 952, 954, 956, 958, 960, 962, 964, 966, 968, 970, 972, 974, 976, 978, 980, 982, 984] rfl
set_option maxRecDepth 100000 in
theorem wsL_law_c5 : ∀ w ∈ wsX50, w ∈ lw_tbl := sub_places [123, 125, 127, 129, 131] rfl
set_option maxRecDepth 100000 in
theorem wsL_law_c0 : ∀ w ∈ wsX00, w ∈ lw_tbl := sub_places [219, 221, 223, 225, 227] rfl
set_option maxRecDepth 100000 in
theorem wsL_law_c7 : ∀ w ∈ wsX70, w ∈ lw_tbl := sub_places [203, 205, 207, 209] rfl
set_option maxRecDepth 100000 in
theorem wsL_law_c1 : ∀ w ∈ wsX10, w ∈ lw_tbl := sub_places [178, 180, 182, 184, 186, 188, 190] rfl
theorem wsL_law_in0 : ∀ w ∈ wsL_law0, w ∈ lw_tbl := app_in (app_in (app_in (app_in (app_in (app_in (app_in (app_in wsL_law_i1 (app_in wsL_law_i2 (app_in wsL_law_i3 (app_in wsL_law_i4 (app_in wsL_law_i5 (app_in wsL_law_i6 (app_in wsL_law_i7 (app_in wsL_law_i8 (app_in wsL_law_i9 (app_in wsL_law_i10 (app_in wsL_law_i11 (app_in wsL_law_i12 (app_in wsL_law_i13 (app_in wsL_law_i14 (app_in wsL_law_i15 (app_in wsL_law_i16 (app_in wsL_law_i17 (app_in wsL_law_i18 (app_in wsL_law_i19 (app_in wsL_law_i20 (app_in wsL_law_i21 (app_in wsL_law_i22 (app_in wsL_law_i23 (app_in wsL_law_i24 (app_in wsL_law_i25 (app_in wsL_law_i26 (app_in wsL_law_i27 (app_in wsL_law_i28 (app_in wsL_law_i29 (app_in wsL_law_i30 (app_in wsL_law_i31 (app_in wsL_law_i32 (app_in wsL_law_i33 (app_in wsL_law_i34 (app_in wsL_law_i35 (app_in wsL_law_i36 (app_in wsL_law_i37 (wsL_law_i38)))))))))))))))))))))))))))))))))))))) wsL_law_c8) wsL_law_c9) wsL_law_c5) wsL_law_c0) wsL_law_c7) wsL_law_c1) (fun _ h => absurd h List.not_mem_nil)
theorem wsL_law_x0 : ∀ w ∈ (vx_atS RX8 311 "java/lang/IllegalArgumentException" ["java/lang/RuntimeException", "java/lang/Exception"]).filter goodWord, w ∈ lw_tbl := by decide +kernel
theorem wsL_law_x1 : ∀ w ∈ (vx_atS RX8 322 "java/lang/IllegalStateException" ["java/lang/RuntimeException", "java/lang/Exception"]).filter goodWord, w ∈ lw_tbl := by decide +kernel
theorem wsL_law_x2 : ∀ w ∈ (vx_atS RX4 13 "java/lang/IllegalStateException" ["java/lang/RuntimeException", "java/lang/Exception"]).filter goodWord, w ∈ lw_tbl := by decide +kernel
theorem wsL_law_x3 : ∀ w ∈ (vx_atS RX4 20 "java/lang/UnsupportedOperationException" ["java/lang/RuntimeException", "java/lang/Exception"]).filter goodWord, w ∈ lw_tbl := by decide +kernel
theorem wsL_law_x4 : ∀ w ∈ (vx_atS RX4 25 "java/lang/IllegalArgumentException" ["java/lang/RuntimeException", "java/lang/Exception"]).filter goodWord, w ∈ lw_tbl := by decide +kernel
theorem wsL_law_in : ∀ w ∈ wsL_law, w ∈ lw_tbl := fun w h => (List.mem_append.mp h).elim (fun h => (List.mem_append.mp h).elim (fun h => (List.mem_append.mp h).elim (fun h => (List.mem_append.mp h).elim (fun h => (List.mem_append.mp h).elim (fun h => wsL_law_in0 w h) (fun h => wsL_law_x0 w h)) (fun h => wsL_law_x1 w h)) (fun h => wsL_law_x2 w h)) (fun h => wsL_law_x3 w h)) (fun h => wsL_law_x4 w h)
theorem inlX0 : ∀ w ∈ wsX00, w ∈ wsL_law := fun _ h => List.mem_append_left _ (List.mem_append_left _ (List.mem_append_left _ (List.mem_append_left _ (List.mem_append_left _ (List.mem_append_left _ (List.mem_append_left _ (List.mem_append_left _ (List.mem_append_right _ h))))))))
theorem inX0 : ∀ w ∈ wsX00, w ∈ lw_tbl := fun w h => wsL_law_in w (inlX0 w h)
theorem inlX1 : ∀ w ∈ wsX10, w ∈ wsL_law := fun _ h => List.mem_append_left _ (List.mem_append_left _ (List.mem_append_left _ (List.mem_append_left _ (List.mem_append_left _ (List.mem_append_left _ (List.mem_append_right _ h))))))
theorem inX1 : ∀ w ∈ wsX10, w ∈ lw_tbl := fun w h => wsL_law_in w (inlX1 w h)
theorem inX2 : ∀ w ∈ wsX20, w ∈ lw_tbl := by decide +kernel
theorem inX3 : ∀ w ∈ wsX30, w ∈ lw_tbl := by decide +kernel
theorem inX4 : ∀ w ∈ wsX40, w ∈ lw_tbl := by decide +kernel
theorem inlX5 : ∀ w ∈ wsX50, w ∈ wsL_law := fun _ h => List.mem_append_left _ (List.mem_append_left _ (List.mem_append_left _ (List.mem_append_left _ (List.mem_append_left _ (List.mem_append_left _ (List.mem_append_left _ (List.mem_append_left _ (List.mem_append_left _ (List.mem_append_right _ h)))))))))
theorem inX5 : ∀ w ∈ wsX50, w ∈ lw_tbl := fun w h => wsL_law_in w (inlX5 w h)
theorem inX6 : ∀ w ∈ wsX60, w ∈ lw_tbl := by decide +kernel
theorem inlX7 : ∀ w ∈ wsX70, w ∈ wsL_law := fun _ h => List.mem_append_left _ (List.mem_append_left _ (List.mem_append_left _ (List.mem_append_left _ (List.mem_append_left _ (List.mem_append_left _ (List.mem_append_left _ (List.mem_append_right _ h)))))))
theorem inX7 : ∀ w ∈ wsX70, w ∈ lw_tbl := fun w h => wsL_law_in w (inlX7 w h)
theorem inlX8 : ∀ w ∈ wsX80, w ∈ wsL_law := fun _ h => List.mem_append_left _ (List.mem_append_left _ (List.mem_append_left _ (List.mem_append_left _ (List.mem_append_left _ (List.mem_append_left _ (List.mem_append_left _ (List.mem_append_left _ (List.mem_append_left _ (List.mem_append_left _ (List.mem_append_left _ (List.mem_append_right _ h)))))))))))
theorem inX8 : ∀ w ∈ wsX80, w ∈ lw_tbl := fun w h => wsL_law_in w (inlX8 w h)
theorem inlX9 : ∀ w ∈ wsX90, w ∈ wsL_law := fun _ h => List.mem_append_left _ (List.mem_append_left _ (List.mem_append_left _ (List.mem_append_left _ (List.mem_append_left _ (List.mem_append_left _ (List.mem_append_left _ (List.mem_append_left _ (List.mem_append_left _ (List.mem_append_left _ (List.mem_append_right _ h))))))))))
theorem inX9 : ∀ w ∈ wsX90, w ∈ lw_tbl := fun w h => wsL_law_in w (inlX9 w h)
theorem inJ6 : ∀ w ∈ wsJ60, w ∈ lw_tbl := by decide +kernel
theorem inJ9 : ∀ w ∈ wsJ90, w ∈ lw_tbl := by decide +kernel
theorem inJ0 : ∀ w ∈ wsJ00, w ∈ lw_tbl := by decide +kernel
theorem inJ10 : ∀ w ∈ wsJ100, w ∈ lw_tbl := by decide +kernel
