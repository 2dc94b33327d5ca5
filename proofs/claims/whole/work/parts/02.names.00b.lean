theorem mem_r {big ws : List Cond} (ps : List Nat) (hp : ws = ps.filterMap (fun i => big[i]?)) : ∀ w ∈ ws, w ∈ big := by
  intro w hw
  rw [hp] at hw
  obtain ⟨i, -, hi⟩ := List.mem_filterMap.mp hw
  exact List.mem_of_getElem? hi
set_option maxRecDepth 20000 in
theorem inw_wsL_law_r1 : ∀ w ∈ wsL_law_r1, w ∈ lw_tbl := mem_r [86, 87, 69, 824, 825, 76, 88, 89, 90, 91, 92, 93, 94, 95, 70, 223, 224, 118, 119, 71, 225, 134, 135, 72] (by decide +kernel)
set_option maxRecDepth 20000 in
theorem inw_wsL_law_r2 : ∀ w ∈ wsL_law_r2, w ∈ lw_tbl := mem_r [226, 157, 158, 73, 227, 176, 177, 74, 228, 204, 205, 75, 229, 96, 97, 98, 99, 117, 104, 105, 100, 101, 102, 103] (by decide +kernel)
set_option maxRecDepth 20000 in
theorem inw_wsL_law_r3 : ∀ w ∈ wsL_law_r3, w ∈ lw_tbl := mem_r [106, 107, 120, 121, 122, 123, 124, 127, 126, 137, 138, 139, 156, 140, 159, 160, 161, 162, 164, 165, 163, 178, 179, 180] (by decide +kernel)
set_option maxRecDepth 20000 in
theorem inw_wsL_law_r4 : ∀ w ∈ wsL_law_r4, w ∈ lw_tbl := mem_r [181, 183, 184, 185, 186, 182, 206, 207, 208, 209, 212, 210, 211, 826, 827, 828, 829, 834, 835, 836, 838, 846, 847, 848] (by decide +kernel)
set_option maxRecDepth 20000 in
theorem inw_wsL_law_r5 : ∀ w ∈ wsL_law_r5, w ∈ lw_tbl := mem_r [849, 850, 851, 852, 830, 832, 22, 833, 245, 246, 247, 248, 249, 250, 251, 252, 253, 254, 255, 256, 128, 257, 259, 0] (by decide +kernel)
set_option maxRecDepth 20000 in
theorem inw_wsL_law_r6 : ∀ w ∈ wsL_law_r6, w ∈ lw_tbl := mem_r [260, 261, 262, 263, 264, 265, 892, 893, 894, 895, 896, 897, 898, 899, 901, 23, 902, 903, 905, 24, 906, 837, 266, 267] (by decide +kernel)
set_option maxRecDepth 20000 in
theorem inw_wsL_law_r7 : ∀ w ∈ wsL_law_r7, w ∈ lw_tbl := mem_r [268, 269, 270, 271, 272, 273, 274, 275, 276, 277, 278, 279, 280, 281, 282, 907, 908, 909, 910, 911, 913, 25, 914, 283] (by decide +kernel)
set_option maxRecDepth 20000 in
theorem inw_wsL_law_r8 : ∀ w ∈ wsL_law_r8, w ∈ lw_tbl := mem_r [284, 285, 286, 287, 288, 289, 290, 291, 292, 293, 294, 295, 296, 297, 298, 299, 300, 301, 302, 303, 304, 77, 305, 306] (by decide +kernel)
set_option maxRecDepth 20000 in
theorem inw_wsL_law_r9 : ∀ w ∈ wsL_law_r9, w ∈ lw_tbl := mem_r [307, 308, 309, 310, 311, 78, 312, 313, 314, 315, 915, 916, 917, 918, 919, 921, 26, 922, 923, 925, 27, 926, 927, 929] (by decide +kernel)
set_option maxRecDepth 20000 in
theorem inw_wsL_law_r10 : ∀ w ∈ wsL_law_r10, w ∈ lw_tbl := mem_r [28, 930, 931, 932, 933, 934, 935, 936, 316, 317, 318, 319, 320, 321, 322, 323, 324, 937, 938, 939, 940, 325, 326, 327] (by decide +kernel)
set_option maxRecDepth 20000 in
theorem inw_wsL_law_r11 : ∀ w ∈ wsL_law_r11, w ∈ lw_tbl := mem_r [328, 941, 942, 943, 944, 329, 330, 331, 332, 333, 334, 335, 336, 337, 166, 338, 339, 79, 340, 341, 342, 343, 344, 345] (by decide +kernel)
set_option maxRecDepth 20000 in
theorem inw_wsL_law_r12 : ∀ w ∈ wsL_law_r12, w ∈ lw_tbl := mem_r [346, 347, 348, 349, 350, 351, 352, 353, 354, 355, 356, 357, 358, 359, 360, 361, 362, 363, 364, 365, 366, 80, 367, 368] (by decide +kernel)
set_option maxRecDepth 20000 in
theorem inw_wsL_law_r13 : ∀ w ∈ wsL_law_r13, w ∈ lw_tbl := mem_r [369, 370, 371, 372, 373, 374, 375, 376, 377, 378, 379, 380, 381, 382, 383, 384, 385, 386, 387, 388, 389, 390, 391, 392] (by decide +kernel)
set_option maxRecDepth 20000 in
theorem inw_wsL_law_r14 : ∀ w ∈ wsL_law_r14, w ∈ lw_tbl := mem_r [393, 394, 395, 945, 946, 947, 948, 949, 951, 29, 952, 953, 955, 30, 956, 957, 959, 31, 960, 961, 963, 32, 964, 965] (by decide +kernel)
set_option maxRecDepth 20000 in
theorem inw_wsL_law_r15 : ∀ w ∈ wsL_law_r15, w ∈ lw_tbl := mem_r [967, 33, 968, 969, 971, 34, 972, 973, 974, 975, 976, 977, 978, 979, 981, 35, 982, 983, 985, 36, 986, 987, 989, 37] (by decide +kernel)
set_option maxRecDepth 20000 in
theorem inw_wsL_law_r16 : ∀ w ∈ wsL_law_r16, w ∈ lw_tbl := mem_r [990, 396, 397, 398, 399, 400, 401, 402, 403, 404, 405, 406, 407, 991, 992, 993, 994, 408, 409, 410, 411, 412, 413, 414] (by decide +kernel)
set_option maxRecDepth 20000 in
theorem inw_wsL_law_r17 : ∀ w ∈ wsL_law_r17, w ∈ lw_tbl := mem_r [415, 995, 996, 997, 998, 416, 417, 418, 419, 420, 421, 422, 423, 424, 425, 426, 427, 428, 429, 430, 431, 432, 433, 434] (by decide +kernel)
set_option maxRecDepth 20000 in
theorem inw_wsL_law_r18 : ∀ w ∈ wsL_law_r18, w ∈ lw_tbl := mem_r [435, 436, 437, 438, 439, 440, 441, 442, 443, 444, 141, 445, 446, 447, 448, 999, 1000, 1001, 1002, 839, 1003, 1005, 38, 1006] (by decide +kernel)
set_option maxRecDepth 20000 in
theorem inw_wsL_law_r19 : ∀ w ∈ wsL_law_r19, w ∈ lw_tbl := mem_r [1007, 1009, 39, 1010, 1011, 1013, 40, 1014, 1015, 1017, 41, 1018, 449, 450, 451, 452, 1019, 1020, 1021, 1022, 453, 454, 455, 456] (by decide +kernel)
set_option maxRecDepth 20000 in
theorem inw_wsL_law_r20 : ∀ w ∈ wsL_law_r20, w ∈ lw_tbl := mem_r [457, 458, 459, 460, 461, 462, 463, 464, 465, 1023, 1024, 1025, 1026, 466, 467, 468, 469, 470, 471, 472, 473, 1027, 1028, 1029] (by decide +kernel)
set_option maxRecDepth 20000 in
theorem inw_wsL_law_r21 : ∀ w ∈ wsL_law_r21, w ∈ lw_tbl := mem_r [1030, 474, 475, 476, 477, 478, 479, 480, 481, 144, 142, 143, 482, 483, 485, 1, 486, 487, 489, 2, 490, 491, 493, 3] (by decide +kernel)
set_option maxRecDepth 20000 in
theorem inw_wsL_law_r22 : ∀ w ∈ wsL_law_r22, w ∈ lw_tbl := mem_r [494, 495, 497, 4, 498, 499, 501, 5, 502, 503, 504, 506, 6, 507, 508, 510, 7, 511, 512, 513, 514, 516, 518, 8] (by decide +kernel)
set_option maxRecDepth 20000 in
theorem inw_wsL_law_r23 : ∀ w ∈ wsL_law_r23, w ∈ lw_tbl := mem_r [519, 520, 521, 522, 81, 523, 1219, 524, 525, 526, 527, 528, 1220, 530, 531, 532, 533, 534, 535, 536, 537, 538, 539, 82] (by decide +kernel)
set_option maxRecDepth 20000 in
theorem inw_wsL_law_r24 : ∀ w ∈ wsL_law_r24, w ∈ lw_tbl := mem_r [540, 541, 542, 543, 544, 546, 547, 83, 548, 549, 550, 84, 551, 552, 553, 554, 555, 556, 557, 558, 559, 560, 561, 562] (by decide +kernel)
set_option maxRecDepth 20000 in
theorem inw_wsL_law_r25 : ∀ w ∈ wsL_law_r25, w ∈ lw_tbl := mem_r [564, 566, 568, 570, 9, 571, 572, 574, 10, 575, 577, 578, 580, 11, 581, 582, 584, 586, 12, 587, 588, 589, 590, 592] (by decide +kernel)
set_option maxRecDepth 20000 in
theorem inw_wsL_law_r26 : ∀ w ∈ wsL_law_r26, w ∈ lw_tbl := mem_r [13, 593, 596, 597, 599, 600, 601, 603, 604, 605, 606, 607, 1031, 1032, 1033, 1034, 840, 842, 841, 1035, 1037, 42, 1038, 844] (by decide +kernel)
set_option maxRecDepth 20000 in
theorem inw_wsL_law_r27 : ∀ w ∈ wsL_law_r27, w ∈ lw_tbl := mem_r [845, 1043, 843, 1039, 1041, 43, 1042, 1044, 1046, 44, 1047, 1048, 1057, 1062, 1049, 1051, 45, 1052, 1053, 1055, 46, 1056, 1058, 1060] (by decide +kernel)
set_option maxRecDepth 20000 in
theorem inw_wsL_law_r28 : ∀ w ∈ wsL_law_r28, w ∈ lw_tbl := mem_r [47, 1061, 1063, 1065, 48, 1066, 1067, 1068, 1069, 1070, 1071, 1073, 49, 1074, 1075, 1077, 50, 1078, 1079, 1081, 51, 1082, 609, 610] (by decide +kernel)
set_option maxRecDepth 20000 in
theorem inw_wsL_law_r29 : ∀ w ∈ wsL_law_r29, w ∈ lw_tbl := mem_r [611, 612, 613, 614, 615, 616, 617, 618, 619, 624, 625, 85, 626, 620, 621, 622, 623, 1083, 1084, 1085, 1086, 1087, 1089, 52] (by decide +kernel)
set_option maxRecDepth 20000 in
theorem inw_wsL_law_r30 : ∀ w ∈ wsL_law_r30, w ∈ lw_tbl := mem_r [1090, 1091, 1093, 53, 1094, 627, 628, 629, 630, 631, 632, 633, 634, 635, 1095, 1096, 1097, 1098, 1099, 1101, 54, 1102, 1103, 636] (by decide +kernel)
set_option maxRecDepth 20000 in
theorem inw_wsL_law_r31 : ∀ w ∈ wsL_law_r31, w ∈ lw_tbl := mem_r [637, 638, 639, 640, 641, 642, 643, 644, 1104, 1105, 1106, 1107, 1108, 1110, 55, 1111, 645, 646, 647, 648, 1112, 1113, 1114, 1115] (by decide +kernel)
set_option maxRecDepth 20000 in
theorem inw_wsL_law_r32 : ∀ w ∈ wsL_law_r32, w ∈ lw_tbl := mem_r [649, 650, 651, 652, 653, 654, 655, 656, 1116, 1117, 1118, 1119, 657, 658, 659, 660, 661, 662, 663, 664, 665, 666, 667, 668] (by decide +kernel)
set_option maxRecDepth 20000 in
theorem inw_wsL_law_r33 : ∀ w ∈ wsL_law_r33, w ∈ lw_tbl := mem_r [1120, 1121, 1122, 1123, 1124, 1125, 1126, 669, 670, 671, 672, 673, 674, 675, 676, 677, 678, 1127, 1128, 1129, 1130, 1131, 1133, 56] (by decide +kernel)
set_option maxRecDepth 20000 in
theorem inw_wsL_law_r34 : ∀ w ∈ wsL_law_r34, w ∈ lw_tbl := mem_r [1134, 679, 680, 681, 682, 683, 684, 685, 686, 687, 688, 1135, 1136, 1137, 1138, 1139, 1141, 57, 1142, 689, 690, 691, 692, 693] (by decide +kernel)
set_option maxRecDepth 20000 in
theorem inw_wsL_law_r35 : ∀ w ∈ wsL_law_r35, w ∈ lw_tbl := mem_r [1143, 1144, 1145, 1146, 694, 695, 696, 697, 698, 699, 700, 701, 702, 703, 704, 187, 188, 705, 706, 707, 708, 709, 710, 711] (by decide +kernel)
set_option maxRecDepth 20000 in
theorem inw_wsL_law_r36 : ∀ w ∈ wsL_law_r36, w ∈ lw_tbl := mem_r [713, 14, 714, 715, 716, 717, 718, 719, 721, 15, 722, 723, 725, 16, 726, 727, 728, 729, 730, 731, 732, 1147, 1148, 1149] (by decide +kernel)
set_option maxRecDepth 20000 in
theorem inw_wsL_law_r37 : ∀ w ∈ wsL_law_r37, w ∈ lw_tbl := mem_r [1150, 1151, 1153, 58, 1154, 1155, 1157, 59, 1158, 1159, 1161, 60, 1162, 1163, 1165, 61, 1166, 733, 734, 735, 736, 737, 738, 739] (by decide +kernel)
set_option maxRecDepth 20000 in
theorem inw_wsL_law_r38 : ∀ w ∈ wsL_law_r38, w ∈ lw_tbl := mem_r [740, 741, 1167, 1168, 1169, 1170, 1171, 1173, 62, 1174, 742, 743, 744, 745, 746, 747, 748, 749, 751, 752, 753, 750, 1175, 1176] (by decide +kernel)
set_option maxRecDepth 20000 in
theorem inw_wsL_law_r39 : ∀ w ∈ wsL_law_r39, w ∈ lw_tbl := mem_r [1177, 1178, 1179, 1181, 63, 1182, 754, 755, 756, 757, 758, 760, 17, 761, 1183, 1184, 1185, 1186, 1187, 1189, 64, 1190, 762, 763] (by decide +kernel)
set_option maxRecDepth 20000 in
theorem inw_wsL_law_r40 : ∀ w ∈ wsL_law_r40, w ∈ lw_tbl := mem_r [764, 765, 766, 767, 768, 769, 213, 770, 772, 18, 773, 774, 775, 777, 19, 778, 779, 780, 781, 783, 20, 784, 785, 786] (by decide +kernel)
set_option maxRecDepth 20000 in
theorem inw_wsL_law_r41 : ∀ w ∈ wsL_law_r41, w ∈ lw_tbl := mem_r [787, 788, 789, 790, 792, 21, 793, 794, 795, 796, 797, 798, 799, 1191, 1192, 1193, 1194, 1195, 1197, 65, 1198, 1199, 1201, 66] (by decide +kernel)
set_option maxRecDepth 20000 in
theorem inw_wsL_law_r42 : ∀ w ∈ wsL_law_r42, w ∈ lw_tbl := mem_r [1202, 1203, 1205, 67, 1206, 800, 801, 802, 803, 804, 805, 806, 807, 1207, 1208, 1209, 1210, 808, 809, 810, 811, 812, 813, 814] (by decide +kernel)
set_option maxRecDepth 20000 in
theorem inw_wsL_law_r43 : ∀ w ∈ wsL_law_r43, w ∈ lw_tbl := mem_r [815, 1211, 1212, 1213, 1214, 816, 817, 818, 819, 820, 821, 822, 823, 1215, 1216, 1217, 1218] (by decide +kernel)
set_option maxRecDepth 20000 in
theorem inw_wsX90 : ∀ w ∈ wsX90, w ∈ lw_tbl := mem_r [230, 232, 234, 236, 238, 240, 242] (by decide +kernel)
set_option maxRecDepth 20000 in
theorem inw_wsX100 : ∀ w ∈ wsX100, w ∈ lw_tbl := mem_r [853, 855, 857, 859, 861, 863, 865, 867, 869, 871, 873, 875, 877, 879, 881, 883, 885, 887, 889] (by decide +kernel)
set_option maxRecDepth 20000 in
theorem inw_wsX70 : ∀ w ∈ wsX70, w ∈ lw_tbl := mem_r [108, 110, 112, 114] (by decide +kernel)
set_option maxRecDepth 20000 in
theorem inw_wsX50 : ∀ w ∈ wsX50, w ∈ lw_tbl := mem_r [129, 131] (by decide +kernel)
set_option maxRecDepth 20000 in
theorem inw_wsX80 : ∀ w ∈ wsX80, w ∈ lw_tbl := mem_r [145, 147, 149, 151, 153] (by decide +kernel)
set_option maxRecDepth 20000 in
theorem inw_wsX30 : ∀ w ∈ wsX30, w ∈ lw_tbl := mem_r [167, 169, 171, 173] (by decide +kernel)
set_option maxRecDepth 20000 in
theorem inw_wsX40 : ∀ w ∈ wsX40, w ∈ lw_tbl := mem_r [189, 191, 193, 195, 197, 199, 201] (by decide +kernel)
set_option maxRecDepth 20000 in
theorem inw_wsX10 : ∀ w ∈ wsX10, w ∈ lw_tbl := mem_r [214, 216, 218, 220] (by decide +kernel)
theorem wsL_law_in : ∀ w ∈ wsL_law, w ∈ lw_tbl := by
  unfold wsL_law
  exact List.forall_mem_append.mpr ⟨List.forall_mem_append.mpr ⟨List.forall_mem_append.mpr ⟨List.forall_mem_append.mpr ⟨List.forall_mem_append.mpr ⟨List.forall_mem_append.mpr ⟨List.forall_mem_append.mpr ⟨List.forall_mem_append.mpr ⟨List.forall_mem_append.mpr ⟨List.forall_mem_append.mpr ⟨inw_wsL_law_r1, List.forall_mem_append.mpr ⟨inw_wsL_law_r2, List.forall_mem_append.mpr ⟨inw_wsL_law_r3, List.forall_mem_append.mpr ⟨inw_wsL_law_r4, List.forall_mem_append.mpr ⟨inw_wsL_law_r5, List.forall_mem_append.mpr ⟨inw_wsL_law_r6, List.forall_mem_append.mpr ⟨inw_wsL_law_r7, List.forall_mem_append.mpr ⟨inw_wsL_law_r8, List.forall_mem_append.mpr ⟨inw_wsL_law_r9, List.forall_mem_append.mpr ⟨inw_wsL_law_r10, List.forall_mem_append.mpr ⟨inw_wsL_law_r11, List.forall_mem_append.mpr ⟨inw_wsL_law_r12, List.forall_mem_append.mpr ⟨inw_wsL_law_r13, List.forall_mem_append.mpr ⟨inw_wsL_law_r14, List.forall_mem_append.mpr ⟨inw_wsL_law_r15, List.forall_mem_append.mpr ⟨inw_wsL_law_r16, List.forall_mem_append.mpr ⟨inw_wsL_law_r17, List.forall_mem_append.mpr ⟨inw_wsL_law_r18, List.forall_mem_append.mpr ⟨inw_wsL_law_r19, List.forall_mem_append.mpr ⟨inw_wsL_law_r20, List.forall_mem_append.mpr ⟨inw_wsL_law_r21, List.forall_mem_append.mpr ⟨inw_wsL_law_r22, List.forall_mem_append.mpr ⟨inw_wsL_law_r23, List.forall_mem_append.mpr ⟨inw_wsL_law_r24, List.forall_mem_append.mpr ⟨inw_wsL_law_r25, List.forall_mem_append.mpr ⟨inw_wsL_law_r26, List.forall_mem_append.mpr ⟨inw_wsL_law_r27, List.forall_mem_append.mpr ⟨inw_wsL_law_r28, List.forall_mem_append.mpr ⟨inw_wsL_law_r29, List.forall_mem_append.mpr ⟨inw_wsL_law_r30, List.forall_mem_append.mpr ⟨inw_wsL_law_r31, List.forall_mem_append.mpr ⟨inw_wsL_law_r32, List.forall_mem_append.mpr ⟨inw_wsL_law_r33, List.forall_mem_append.mpr ⟨inw_wsL_law_r34, List.forall_mem_append.mpr ⟨inw_wsL_law_r35, List.forall_mem_append.mpr ⟨inw_wsL_law_r36, List.forall_mem_append.mpr ⟨inw_wsL_law_r37, List.forall_mem_append.mpr ⟨inw_wsL_law_r38, List.forall_mem_append.mpr ⟨inw_wsL_law_r39, List.forall_mem_append.mpr ⟨inw_wsL_law_r40, List.forall_mem_append.mpr ⟨inw_wsL_law_r41, List.forall_mem_append.mpr ⟨inw_wsL_law_r42, inw_wsL_law_r43⟩⟩⟩⟩⟩⟩⟩⟩⟩⟩⟩⟩⟩⟩⟩⟩⟩⟩⟩⟩⟩⟩⟩⟩⟩⟩⟩⟩⟩⟩⟩⟩⟩⟩⟩⟩⟩⟩⟩⟩⟩⟩, inw_wsX90⟩, inw_wsX100⟩, inw_wsX70⟩, inw_wsX50⟩, inw_wsX80⟩, inw_wsX30⟩, inw_wsX40⟩, inw_wsX10⟩, fun _ h => absurd h List.not_mem_nil⟩
theorem inX0 : ∀ w ∈ wsX00, w ∈ lw_tbl := by decide +kernel
theorem inlX1 : ∀ w ∈ wsX10, w ∈ wsL_law := fun _ h => List.mem_append_left _ (List.mem_append_right _ h)
theorem inX1 : ∀ w ∈ wsX10, w ∈ lw_tbl := fun w h => wsL_law_in w (inlX1 w h)
theorem inX2 : ∀ w ∈ wsX20, w ∈ lw_tbl := by decide +kernel
theorem inlX3 : ∀ w ∈ wsX30, w ∈ wsL_law := fun _ h => List.mem_append_left _ (List.mem_append_left _ (List.mem_append_left _ (List.mem_append_right _ h)))
theorem inX3 : ∀ w ∈ wsX30, w ∈ lw_tbl := fun w h => wsL_law_in w (inlX3 w h)
theorem inlX4 : ∀ w ∈ wsX40, w ∈ wsL_law := fun _ h => List.mem_append_left _ (List.mem_append_left _ (List.mem_append_right _ h))
theorem inX4 : ∀ w ∈ wsX40, w ∈ lw_tbl := fun w h => wsL_law_in w (inlX4 w h)
theorem inlX5 : ∀ w ∈ wsX50, w ∈ wsL_law := fun _ h => List.mem_append_left _ (List.mem_append_left _ (List.mem_append_left _ (List.mem_append_left _ (List.mem_append_left _ (List.mem_append_right _ h)))))
theorem inX5 : ∀ w ∈ wsX50, w ∈ lw_tbl := fun w h => wsL_law_in w (inlX5 w h)
theorem inX6 : ∀ w ∈ wsX60, w ∈ lw_tbl := by decide +kernel
theorem inlX7 : ∀ w ∈ wsX70, w ∈ wsL_law := fun _ h => List.mem_append_left _ (List.mem_append_left _ (List.mem_append_left _ (List.mem_append_left _ (List.mem_append_left _ (List.mem_append_left _ (List.mem_append_right _ h))))))
theorem inX7 : ∀ w ∈ wsX70, w ∈ lw_tbl := fun w h => wsL_law_in w (inlX7 w h)
theorem inlX8 : ∀ w ∈ wsX80, w ∈ wsL_law := fun _ h => List.mem_append_left _ (List.mem_append_left _ (List.mem_append_left _ (List.mem_append_left _ (List.mem_append_right _ h))))
theorem inX8 : ∀ w ∈ wsX80, w ∈ lw_tbl := fun w h => wsL_law_in w (inlX8 w h)
theorem inlX9 : ∀ w ∈ wsX90, w ∈ wsL_law := fun _ h => List.mem_append_left _ (List.mem_append_left _ (List.mem_append_left _ (List.mem_append_left _ (List.mem_append_left _ (List.mem_append_left _ (List.mem_append_left _ (List.mem_append_left _ (List.mem_append_right _ h))))))))
theorem inX9 : ∀ w ∈ wsX90, w ∈ lw_tbl := fun w h => wsL_law_in w (inlX9 w h)
theorem inlX10 : ∀ w ∈ wsX100, w ∈ wsL_law := fun _ h => List.mem_append_left _ (List.mem_append_left _ (List.mem_append_left _ (List.mem_append_left _ (List.mem_append_left _ (List.mem_append_left _ (List.mem_append_left _ (List.mem_append_right _ h)))))))
theorem inX10 : ∀ w ∈ wsX100, w ∈ lw_tbl := fun w h => wsL_law_in w (inlX10 w h)
theorem inJ6 : ∀ w ∈ wsJ60, w ∈ lw_tbl := by decide +kernel
theorem inJ9 : ∀ w ∈ wsJ90, w ∈ lw_tbl := by decide +kernel
theorem inJ0 : ∀ w ∈ wsJ00, w ∈ lw_tbl := by decide +kernel
theorem inJ1 : ∀ w ∈ wsJ10, w ∈ lw_tbl := by decide +kernel
theorem inJ2 : ∀ w ∈ wsJ20, w ∈ lw_tbl := by decide +kernel
theorem inJ3 : ∀ w ∈ wsJ30, w ∈ lw_tbl := by decide +kernel
set_option maxRecDepth 20000 in
theorem ggX0_edges_X6_firstOnes : GoodIn wsX0_edges wsX6_firstOnes := goodIn_r _ [4] (by decide +kernel) (by decide +kernel)
set_option maxRecDepth 20000 in
theorem gX0_edges_X6_firstOnes : GoodIn wsX0_edges (va_wsS RX0 9 yX6_firstOnes wsX6_firstOnes) := goodIn_app (goodIn_of _ (by decide +kernel)) ggX0_edges_X6_firstOnes
set_option maxRecDepth 20000 in
theorem ggX0_edges_X0_path : GoodIn wsX0_edges wsX0_path := goodIn_r _ [8, 9, 10, 7, 11, 12, 13, 3, 14, 15, 16, 17, 18, 19, 20, 21, 22, 23, 24, 25, 26, 27, 28] (by decide +kernel) (by decide +kernel)
set_option maxRecDepth 20000 in
theorem gX0_edges_X0_path : GoodIn wsX0_edges (va_wsS RX0 15 yX0_path wsX0_path) := goodIn_app (goodIn_of _ (by decide +kernel)) ggX0_edges_X0_path
set_option maxRecDepth 20000 in
theorem ggX0_edges_X6_smallest : GoodIn wsX0_edges wsX6_smallest := goodIn_r _ [28, 25, 13, 3, 14] (by decide +kernel) (by decide +kernel)
set_option maxRecDepth 20000 in
theorem gX0_edges_X6_smallest : GoodIn wsX0_edges (va_wsS RX0 21 yX6_smallest wsX6_smallest) := goodIn_app (goodIn_of _ (by decide +kernel)) ggX0_edges_X6_smallest
set_option maxRecDepth 20000 in
theorem ggX0_edges_X2_star : GoodIn wsX0_edges wsX2_star := goodIn_r _ [31, 32, 16, 17, 18] (by decide +kernel) (by decide +kernel)
set_option maxRecDepth 20000 in
theorem gX0_edges_X2_star : GoodIn wsX0_edges (va_wsS RX0 24 yX2_star wsX2_star) := goodIn_app (goodIn_of _ (by decide +kernel)) ggX0_edges_X2_star
set_option maxRecDepth 20000 in
theorem ggX0_edges_X2_clique : GoodIn wsX0_edges wsX2_clique := goodIn_r _ [35, 36, 13, 3, 14, 32, 16, 17, 18] (by decide +kernel) (by decide +kernel)
set_option maxRecDepth 20000 in
theorem gX0_edges_X2_clique : GoodIn wsX0_edges (va_wsS RX0 29 yX2_clique wsX2_clique) := goodIn_app (goodIn_of _ (by decide +kernel)) ggX0_edges_X2_clique
set_option maxRecDepth 20000 in
theorem ggX0_edges_X0_bridge : GoodIn wsX0_edges wsX0_bridge := goodIn_r _ [21, 22, 23, 3, 24, 25, 13, 14, 26, 27, 28, 15, 16, 17, 18] (by decide +kernel) (by decide +kernel)
set_option maxRecDepth 20000 in
theorem gX0_edges_X0_bridge : GoodIn wsX0_edges (va_wsS RX0 32 yX0_bridge wsX0_bridge) := goodIn_app (goodIn_of _ (by decide +kernel)) ggX0_edges_X0_bridge
