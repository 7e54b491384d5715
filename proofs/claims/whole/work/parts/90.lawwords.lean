theorem mem_r {big ws : List Cond} (ps : List Nat) (hp : (ws == ps.filterMap (fun i => big[i]?)) = true) : ∀ w ∈ ws, w ∈ big := by
  intro w hw
  rw [eq_of_beq hp] at hw
  obtain ⟨i, -, hi⟩ := List.mem_filterMap.mp hw
  exact List.mem_of_getElem? hi
theorem lin_wsL_law0_r1 : ∀ w ∈ wsL_law0_r1, w ∈ lw_tbl := mem_r [81, 82, 61, 909, 903, 71, 1223, 83, 84, 85, 86, 87, 88, 89, 90, 62, 314, 105, 106, 63, 315, 140, 141, 64] (by decide +kernel)
theorem lin_wsL_law0_r2 : ∀ w ∈ wsL_law0_r2, w ∈ lw_tbl := mem_r [316, 317, 240, 241, 67, 318, 256, 257, 68, 319, 269, 270, 69, 320, 300, 301, 70, 321, 322, 92, 93, 94, 104, 95] (by decide +kernel)
theorem lin_wsL_law0_r3 : ∀ w ∈ wsL_law0_r3, w ∈ lw_tbl := mem_r [108, 109, 110, 139, 111, 143, 144, 145, 146, 147, 65, 169, 175, 177, 181, 184, 188, 148, 149, 150, 151, 152, 153, 66] (by decide +kernel)
theorem lin_wsL_law0_r4 : ∀ w ∈ wsL_law0_r4, w ∈ lw_tbl := mem_r [154, 155, 156, 243, 244, 245, 246, 247, 248, 259, 260, 261, 262, 263, 272, 273, 274, 303, 304, 305, 306, 910, 911, 912] (by decide +kernel)
theorem lin_wsL_law0_r5 : ∀ w ∈ wsL_law0_r5, w ∈ lw_tbl := mem_r [913, 915, 925, 926, 927, 929, 930, 931, 932, 342, 343, 344, 345, 97, 346, 347, 348, 349, 96, 350, 351, 352, 353, 896] (by decide +kernel)
theorem lin_wsL_law0_r6 : ∀ w ∈ wsL_law0_r6, w ∈ lw_tbl := mem_r [897, 898, 899, 914, 916, 900, 902, 24, 904, 354, 355, 356, 357, 905, 906, 907, 908, 358, 359, 360, 361, 115, 117, 308] (by decide +kernel)
theorem lin_wsL_law0_r7 : ∀ w ∈ wsL_law0_r7, w ∈ lw_tbl := mem_r [113, 362, 363, 364, 365, 112, 114, 116, 118, 120, 366, 367, 368, 369, 158, 191, 194, 196, 201, 203, 205, 207, 209, 370] (by decide +kernel)
theorem lin_wsL_law0_r8 : ∀ w ∈ wsL_law0_r8, w ∈ lw_tbl := mem_r [372, 0, 373, 98, 374, 375, 376, 119, 377, 378, 379, 380, 381, 382, 383, 384, 386, 1, 387, 121, 388, 389, 390, 391] (by decide +kernel)
theorem lin_wsL_law0_r9 : ∀ w ∈ wsL_law0_r9, w ∈ lw_tbl := mem_r [392, 393, 394, 396, 2, 397, 398, 400, 3, 401, 402, 404, 4, 405, 406, 408, 5, 409, 410, 411, 412, 422, 424, 6] (by decide +kernel)
theorem lin_wsL_law0_r10 : ∀ w ∈ wsL_law0_r10, w ∈ lw_tbl := mem_r [425, 426, 427, 428, 72, 429, 1238, 430, 431, 432, 433, 434, 1239, 436, 437, 438, 439, 440, 441, 442, 443, 444, 445, 73] (by decide +kernel)
theorem lin_wsL_law0_r11 : ∀ w ∈ wsL_law0_r11, w ∈ lw_tbl := mem_r [446, 447, 448, 449, 450, 452, 453, 74, 454, 455, 456, 75, 457, 458, 459, 460, 461, 462, 463, 464, 465, 466, 467, 468] (by decide +kernel)
theorem lin_wsL_law0_r12 : ∀ w ∈ wsL_law0_r12, w ∈ lw_tbl := mem_r [470, 472, 474, 476, 7, 477, 478, 479, 480, 176, 206, 180, 183, 161, 187, 481, 482, 483, 484, 157, 485, 486, 487, 488] (by decide +kernel)
theorem lin_wsL_law0_r13 : ∀ w ∈ wsL_law0_r13, w ∈ lw_tbl := mem_r [490, 8, 491, 492, 493, 494, 174, 511, 495, 496, 497, 498, 499, 500, 501, 502, 503, 504, 505, 506, 507, 508, 509, 510] (by decide +kernel)
theorem lin_wsL_law0_r14 : ∀ w ∈ wsL_law0_r14, w ∈ lw_tbl := mem_r [512, 513, 514, 515, 200, 516, 518, 9, 519, 520, 522, 10, 523, 192, 195, 202, 204, 208, 524, 526, 11, 527, 528, 529] (by decide +kernel)
theorem lin_wsL_law0_r15 : ∀ w ∈ wsL_law0_r15, w ∈ lw_tbl := mem_r [530, 531, 532, 533, 534, 535, 536, 537, 538, 539, 540, 975, 976, 977, 978, 917, 922, 918, 920, 923, 928, 979, 981, 25] (by decide +kernel)
theorem lin_wsL_law0_r16 : ∀ w ∈ wsL_law0_r16, w ∈ lw_tbl := mem_r [982, 919, 924, 921, 993, 994, 983, 984, 985, 986, 987, 988, 989, 991, 26, 992, 995, 997, 27, 998, 999, 1001, 28, 1002] (by decide +kernel)
theorem lin_wsL_law0_r17 : ∀ w ∈ wsL_law0_r17, w ∈ lw_tbl := mem_r [1011, 1003, 1005, 29, 1006, 1007, 1009, 30, 1010, 1012, 1014, 31, 1015, 1016, 1017, 1018, 1019, 1021, 32, 1022, 1023, 1025, 33, 1026] (by decide +kernel)
theorem lin_wsL_law0_r18 : ∀ w ∈ wsL_law0_r18, w ∈ lw_tbl := mem_r [1027, 1029, 34, 1030, 1031, 1033, 35, 1034, 1035, 1037, 36, 1038, 541, 542, 543, 544, 1039, 1040, 1041, 1042, 545, 546, 547, 548] (by decide +kernel)
theorem lin_wsL_law0_r19 : ∀ w ∈ wsL_law0_r19, w ∈ lw_tbl := mem_r [198, 186, 160, 190, 276, 210, 669, 549, 550, 551, 552, 553, 554, 555, 556, 557, 558, 559, 560, 562, 564, 561, 563, 565] (by decide +kernel)
theorem lin_wsL_law0_r20 : ∀ w ∈ wsL_law0_r20, w ∈ lw_tbl := mem_r [566, 567, 568, 569, 571, 12, 572, 573, 574, 575, 576, 597, 577, 579, 13, 580, 581, 582, 583, 584, 592, 585, 586, 587] (by decide +kernel)
theorem lin_wsL_law0_r21 : ∀ w ∈ wsL_law0_r21, w ∈ lw_tbl := mem_r [588, 589, 590, 591, 593, 594, 595, 596, 598, 599, 600, 601, 185, 189, 193, 178, 602, 603, 76, 604, 605, 607, 14, 608] (by decide +kernel)
theorem lin_wsL_law0_r22 : ∀ w ∈ wsL_law0_r22, w ∈ lw_tbl := mem_r [159, 609, 610, 611, 613, 15, 614, 615, 616, 617, 618, 619, 620, 621, 622, 623, 624, 625, 626, 171, 199, 640, 641, 646] (by decide +kernel)
theorem lin_wsL_law0_r23 : ∀ w ∈ wsL_law0_r23, w ∈ lw_tbl := mem_r [627, 628, 629, 630, 631, 632, 633, 634, 635, 636, 637, 638, 639, 642, 643, 644, 645, 647, 648, 649, 650, 651, 275, 281] (by decide +kernel)
theorem lin_wsL_law0_r24 : ∀ w ∈ wsL_law0_r24, w ∈ lw_tbl := mem_r [652, 654, 16, 655, 170, 197, 656, 657, 658, 659, 660, 661, 663, 662, 664, 665, 667, 17, 668, 277, 279, 283, 285, 1043] (by decide +kernel)
theorem lin_wsL_law0_r25 : ∀ w ∈ wsL_law0_r25, w ∈ lw_tbl := mem_r [1044, 1045, 1046, 933, 1118, 1047, 1049, 37, 1050, 1051, 1053, 38, 1054, 1055, 1057, 39, 1058, 1059, 1060, 1062, 40, 1063, 1064, 1066] (by decide +kernel)
theorem lin_wsL_law0_r26 : ∀ w ∈ wsL_law0_r26, w ∈ lw_tbl := mem_r [41, 1067, 1068, 1070, 42, 1071, 1072, 1074, 43, 1075, 1076, 1078, 44, 1079, 1080, 1081, 1082, 1083, 1085, 45, 1086, 1092, 1087, 1089] (by decide +kernel)
theorem lin_wsL_law0_r27 : ∀ w ∈ wsL_law0_r27, w ∈ lw_tbl := mem_r [46, 1090, 1091, 1093, 1095, 47, 1096, 1097, 1099, 48, 1100, 1101, 1103, 49, 1104, 1105, 1107, 50, 1108, 1113, 1109, 1111, 51, 1112] (by decide +kernel)
theorem lin_wsL_law0_r28 : ∀ w ∈ wsL_law0_r28, w ∈ lw_tbl := mem_r [1114, 1116, 52, 1117, 670, 671, 672, 673, 674, 675, 676, 677, 1119, 1120, 1121, 1122, 1123, 678, 679, 680, 681, 182, 682, 683] (by decide +kernel)
theorem lin_wsL_law0_r29 : ∀ w ∈ wsL_law0_r29, w ∈ lw_tbl := mem_r [684, 1124, 1125, 1126, 1127, 1128, 1129, 1130, 685, 686, 687, 688, 173, 689, 690, 691, 692, 693, 694, 695, 696, 697, 698, 699] (by decide +kernel)
theorem lin_wsL_law0_r30 : ∀ w ∈ wsL_law0_r30, w ∈ lw_tbl := mem_r [700, 701, 702, 703, 704, 705, 1131, 1132, 1133, 1134, 706, 707, 708, 709, 710, 1135, 1136, 1137, 1138, 711, 712, 713, 714, 715] (by decide +kernel)
theorem lin_wsL_law0_r31 : ∀ w ∈ wsL_law0_r31, w ∈ lw_tbl := mem_r [717, 18, 718, 724, 719, 720, 721, 722, 172, 723, 1139, 1140, 1141, 1142, 1143, 1145, 53, 1146, 725, 726, 727, 728, 179, 729] (by decide +kernel)
theorem lin_wsL_law0_r32 : ∀ w ∈ wsL_law0_r32, w ∈ lw_tbl := mem_r [730, 731, 732, 1147, 1148, 1149, 1150, 733, 734, 735, 736, 737, 1151, 1152, 1153, 1154, 1155, 1157, 54, 1158, 818, 819, 60, 820] (by decide +kernel)
theorem lin_wsL_law0_r33 : ∀ w ∈ wsL_law0_r33, w ∈ lw_tbl := mem_r [821, 822, 823, 824, 825, 826, 80, 278, 280, 282, 284, 286, 1159, 1160, 1161, 1162, 1163, 1165, 55, 1166, 892, 893, 894, 895] (by decide +kernel)
theorem lin_wsL_law0_r34 : ∀ w ∈ wsL_law0_r34, w ∈ lw_tbl := mem_r [738, 739, 740, 741, 742, 743, 744, 745, 1167, 1168, 1169, 1170, 1171, 1173, 56, 1174, 746, 747, 748, 749, 750, 1175, 1176, 1177] (by decide +kernel)
theorem lin_wsL_law0_r35 : ∀ w ∈ wsL_law0_r35, w ∈ lw_tbl := mem_r [1178, 751, 752, 753, 754, 755, 757, 19, 758, 1179, 1180, 1181, 1182, 1183, 1185, 57, 1186, 759, 760, 761, 762, 763, 764, 765] (by decide +kernel)
theorem lin_wsL_law0_r36 : ∀ w ∈ wsL_law0_r36, w ∈ lw_tbl := mem_r [766, 768, 20, 769, 1187, 1188, 1189, 1190, 770, 771, 772, 773, 1191, 1192, 1193, 1194, 774, 775, 776, 777, 778, 779, 780, 781] (by decide +kernel)
theorem lin_wsL_law0_r37 : ∀ w ∈ wsL_law0_r37, w ∈ lw_tbl := mem_r [782, 783, 307, 784, 786, 21, 787, 1195, 1196, 1197, 1198, 1199, 1201, 58, 1202, 1203, 1205, 59, 1206, 788, 789, 790, 791, 1207] (by decide +kernel)
theorem lin_wsL_law0_r38 : ∀ w ∈ wsL_law0_r38, w ∈ lw_tbl := mem_r [1208, 1209, 1210, 792, 793, 794, 795, 796, 798, 22, 799, 801, 800, 1211, 1212, 1213, 1214, 802, 803, 804, 805, 1215, 1216, 1217] (by decide +kernel)
theorem lin_wsL_law0_r39 : ∀ w ∈ wsL_law0_r39, w ∈ lw_tbl := mem_r [1218, 806, 807, 808, 809, 810, 811, 812, 813, 814, 815, 816, 817, 1219, 1220, 1221, 1222] (by decide +kernel)
theorem lin_wsX80 : ∀ w ∈ wsX80, w ∈ lw_tbl := by
  have h : (wsX80).all (fun w => decide (w ∈ lw_tbl)) = true := by decide +kernel
  exact fun w hw => of_decide_eq_true (List.all_eq_true.mp h w hw)
theorem lin_wsX90 : ∀ w ∈ wsX90, w ∈ lw_tbl := by
  have h : (wsX90).all (fun w => decide (w ∈ lw_tbl)) = true := by decide +kernel
  exact fun w hw => of_decide_eq_true (List.all_eq_true.mp h w hw)
theorem lin_wsX60 : ∀ w ∈ wsX60, w ∈ lw_tbl := by
  have h : (wsX60).all (fun w => decide (w ∈ lw_tbl)) = true := by decide +kernel
  exact fun w hw => of_decide_eq_true (List.all_eq_true.mp h w hw)
theorem lin_wsX40 : ∀ w ∈ wsX40, w ∈ lw_tbl := by
  have h : (wsX40).all (fun w => decide (w ∈ lw_tbl)) = true := by decide +kernel
  exact fun w hw => of_decide_eq_true (List.all_eq_true.mp h w hw)
theorem lin_wsX70 : ∀ w ∈ wsX70, w ∈ lw_tbl := by
  have h : (wsX70).all (fun w => decide (w ∈ lw_tbl)) = true := by decide +kernel
  exact fun w hw => of_decide_eq_true (List.all_eq_true.mp h w hw)
theorem lin_wsX10 : ∀ w ∈ wsX10, w ∈ lw_tbl := by
  have h : (wsX10).all (fun w => decide (w ∈ lw_tbl)) = true := by decide +kernel
  exact fun w hw => of_decide_eq_true (List.all_eq_true.mp h w hw)
theorem lin_wsX00 : ∀ w ∈ wsX00, w ∈ lw_tbl := by
  have h : (wsX00).all (fun w => decide (w ∈ lw_tbl)) = true := by decide +kernel
  exact fun w hw => of_decide_eq_true (List.all_eq_true.mp h w hw)
theorem lin_wsX30 : ∀ w ∈ wsX30, w ∈ lw_tbl := by
  have h : (wsX30).all (fun w => decide (w ∈ lw_tbl)) = true := by decide +kernel
  exact fun w hw => of_decide_eq_true (List.all_eq_true.mp h w hw)
theorem lin_wsX20 : ∀ w ∈ wsX20, w ∈ lw_tbl := by
  have h : (wsX20).all (fun w => decide (w ∈ lw_tbl)) = true := by decide +kernel
  exact fun w hw => of_decide_eq_true (List.all_eq_true.mp h w hw)
theorem lin_wsX50 : ∀ w ∈ wsX50, w ∈ lw_tbl := by
  have h : (wsX50).all (fun w => decide (w ∈ lw_tbl)) = true := by decide +kernel
  exact fun w hw => of_decide_eq_true (List.all_eq_true.mp h w hw)
theorem wsL_law_in0 : ∀ w ∈ wsL_law0, w ∈ lw_tbl := fun w h => (List.mem_append.mp h).elim (fun h => (List.mem_append.mp h).elim (fun h => (List.mem_append.mp h).elim (fun h => (List.mem_append.mp h).elim (fun h => (List.mem_append.mp h).elim (fun h => (List.mem_append.mp h).elim (fun h => (List.mem_append.mp h).elim (fun h => (List.mem_append.mp h).elim (fun h => (List.mem_append.mp h).elim (fun h => (List.mem_append.mp h).elim (fun h => (List.mem_append.mp h).elim (fun h => (List.mem_append.mp h).elim (fun h => lin_wsL_law0_r1 w h) (fun h => (List.mem_append.mp h).elim (fun h => lin_wsL_law0_r2 w h) (fun h => (List.mem_append.mp h).elim (fun h => lin_wsL_law0_r3 w h) (fun h => (List.mem_append.mp h).elim (fun h => lin_wsL_law0_r4 w h) (fun h => (List.mem_append.mp h).elim (fun h => lin_wsL_law0_r5 w h) (fun h => (List.mem_append.mp h).elim (fun h => lin_wsL_law0_r6 w h) (fun h => (List.mem_append.mp h).elim (fun h => lin_wsL_law0_r7 w h) (fun h => (List.mem_append.mp h).elim (fun h => lin_wsL_law0_r8 w h) (fun h => (List.mem_append.mp h).elim (fun h => lin_wsL_law0_r9 w h) (fun h => (List.mem_append.mp h).elim (fun h => lin_wsL_law0_r10 w h) (fun h => (List.mem_append.mp h).elim (fun h => lin_wsL_law0_r11 w h) (fun h => (List.mem_append.mp h).elim (fun h => lin_wsL_law0_r12 w h) (fun h => (List.mem_append.mp h).elim (fun h => lin_wsL_law0_r13 w h) (fun h => (List.mem_append.mp h).elim (fun h => lin_wsL_law0_r14 w h) (fun h => (List.mem_append.mp h).elim (fun h => lin_wsL_law0_r15 w h) (fun h => (List.mem_append.mp h).elim (fun h => lin_wsL_law0_r16 w h) (fun h => (List.mem_append.mp h).elim (fun h => lin_wsL_law0_r17 w h) (fun h => (List.mem_append.mp h).elim (fun h => lin_wsL_law0_r18 w h) (fun h => (List.mem_append.mp h).elim (fun h => lin_wsL_law0_r19 w h) (fun h => (List.mem_append.mp h).elim (fun h => lin_wsL_law0_r20 w h) (fun h => (List.mem_append.mp h).elim (fun h => lin_wsL_law0_r21 w h) (fun h => (List.mem_append.mp h).elim (fun h => lin_wsL_law0_r22 w h) (fun h => (List.mem_append.mp h).elim (fun h => lin_wsL_law0_r23 w h) (fun h => (List.mem_append.mp h).elim (fun h => lin_wsL_law0_r24 w h) (fun h => (List.mem_append.mp h).elim (fun h => lin_wsL_law0_r25 w h) (fun h => (List.mem_append.mp h).elim (fun h => lin_wsL_law0_r26 w h) (fun h => (List.mem_append.mp h).elim (fun h => lin_wsL_law0_r27 w h) (fun h => (List.mem_append.mp h).elim (fun h => lin_wsL_law0_r28 w h) (fun h => (List.mem_append.mp h).elim (fun h => lin_wsL_law0_r29 w h) (fun h => (List.mem_append.mp h).elim (fun h => lin_wsL_law0_r30 w h) (fun h => (List.mem_append.mp h).elim (fun h => lin_wsL_law0_r31 w h) (fun h => (List.mem_append.mp h).elim (fun h => lin_wsL_law0_r32 w h) (fun h => (List.mem_append.mp h).elim (fun h => lin_wsL_law0_r33 w h) (fun h => (List.mem_append.mp h).elim (fun h => lin_wsL_law0_r34 w h) (fun h => (List.mem_append.mp h).elim (fun h => lin_wsL_law0_r35 w h) (fun h => (List.mem_append.mp h).elim (fun h => lin_wsL_law0_r36 w h) (fun h => (List.mem_append.mp h).elim (fun h => lin_wsL_law0_r37 w h) (fun h => (List.mem_append.mp h).elim (fun h => lin_wsL_law0_r38 w h) (fun h => lin_wsL_law0_r39 w h))))))))))))))))))))))))))))))))))))))) (fun h => lin_wsX80 w h)) (fun h => lin_wsX90 w h)) (fun h => lin_wsX60 w h)) (fun h => lin_wsX40 w h)) (fun h => lin_wsX70 w h)) (fun h => lin_wsX10 w h)) (fun h => lin_wsX00 w h)) (fun h => lin_wsX30 w h)) (fun h => lin_wsX20 w h)) (fun h => lin_wsX50 w h)) (fun h => absurd h List.not_mem_nil)
