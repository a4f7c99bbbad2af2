/-! THE WORDS of the tables are among the Statement's, by their places (written by gen21.py). -/
def ixw_y : List MethodName := [⟨"java/lang/AbstractStringBuilder", "ensureCapacityInternal", "(I)V"⟩, ⟨"java/lang/AbstractStringBuilder", "newCapacity", "(I)I"⟩, ⟨"java/lang/AbstractStringBuilder", "putStringAt", "(ILjava/lang/String;)V"⟩, ⟨"java/lang/AbstractStringBuilder", "inflateIfNeededFor", "(Ljava/lang/String;)V"⟩]
def ixw_x : List Cond := ixw_y.map (fun y => Cond.selects "java/lang/StringBuilder" y y)
def lw_tb2 : List Cond := ixw_x ++ lw_tbl
theorem ixw_pl {ws : List Cond} {ps : List Nat} (h : ws = ps.filterMap (fun i => lw_tb2[i]?)) : ∀ w ∈ ws, w ∈ lw_tb2 := fun w hw => by
  rw [h] at hw
  obtain ⟨i, -, hi⟩ := List.mem_filterMap.mp hw
  exact List.mem_of_getElem? hi
theorem ixw_CL : ∀ w ∈ ixCL.flatMap (fun r => u_ws r.1 r.2.1 r.2.2), w ∈ lw_tb2 := ixw_pl (ps := [401, 403, 405, 407, 409, 411, 413, 415, 417, 419, 421, 423, 425, 427, 429, 218, 220, 222, 224, 226, 228, 230, 232, 234, 293, 295, 297, 299, 301, 303, 305, 307, 309, 311, 313, 315, 317, 319, 321, 323, 325, 327, 329, 343, 345, 347, 349, 351, 353, 355, 357, 359, 361, 363, 91, 93, 171, 173, 175, 177, 179, 181, 437, 439, 441, 443, 445, 1111, 1113, 1115, 1117, 1119, 1121, 1123, 1125, 1127, 1129, 1347, 1349, 1351, 1353, 1290, 1292, 1294, 1296]) (by decide +kernel)
theorem ixw_FT : ∀ w ∈ ixFT.flatMap (ix_wF (ixP .null)), w ∈ lw_tb2 := ixw_pl (ps := [1100, 1102, 1104, 1106, 1108, 1110, 1096, 384, 386, 388, 389, 391, 393, 395, 397, 399, 374, 382, 380, 272, 376, 378, 256, 280, 268, 250, 264, 260, 262, 266, 287, 284, 291, 201, 208, 210, 274, 277, 206, 248, 243, 240, 400, 215, 217, 203, 204, 205, 207, 209, 214, 216, 211, 199, 241, 244, 246, 253, 259, 261, 263, 265, 271, 273, 276, 283, 286, 289, 237, 249, 255, 267, 279, 198, 212, 332, 333, 334, 335, 336, 337, 338, 164, 339, 340, 341, 166, 342, 239, 258, 252, 270, 282, 292, 213, 202, 168, 88, 90, 162, 163, 165, 167, 169, 170, 432, 433, 436, 434, 435, 89, 375, 377, 379, 238, 251, 257, 269, 281, 290, 200, 381, 254, 385, 387, 242, 245, 247, 390, 275, 278, 392, 394, 396, 285, 288, 398, 383, 1098, 1099, 1101, 1103, 1105, 1107, 1109, 1094, 1095, 1097, 1286, 1287, 1289, 1345, 1346, 1288]) (by decide +kernel)
theorem ixw_NT : ∀ w ∈ ixNT.flatMap (ix_wN (ixP .null)), w ∈ lw_tb2 := ixw_pl (ps := [74, 75, 61, 1277, 1278, 50, 1087, 768, 53, 192, 193, 66, 103, 104, 64, 186, 187, 65, 82, 83, 62, 97, 98, 63, 366, 187, 65, 368, 369, 67, 1303, 1304, 51]) (by decide +kernel)
theorem ixw_KT : ∀ w ∈ ixKT.flatMap (ix_wK (ixP .null)), w ∈ lw_tb2 := ixw_pl (ps := [831, 835, 924, 161, 754, 755, 1162, 1158]) (by decide +kernel)
theorem ixw_CT : ∀ w ∈ ixCT.flatMap (ix_wC (ixP .null)), w ∈ lw_tb2 := ixw_pl (ps := [61, 839, 840, 841, 51, 844, 111, 112, 51, 845, 121, 122, 61, 846, 847, 848, 61, 871, 872, 873, 50, 1279, 1280, 50, 1134, 1135, 1136, 50, 1238, 1239, 1240, 50, 1299, 1300, 1301, 53, 1088, 1089, 48, 832, 833, 48, 828, 829, 48, 1358, 1359, 48, 1372, 1373, 53, 761, 762, 763, 61, 639, 640, 641, 61, 1395, 1396, 1397, 61, 1400, 1401, 1402, 53, 1406, 813, 814, 61, 1407, 1408, 1409, 61, 1412, 1413, 1414, 48, 1417, 1418, 48, 1084, 1085, 61, 76, 77, 48, 836, 837, 48, 1391, 1392, 61, 448, 449, 450, 61, 551, 552, 553, 61, 572, 573, 574, 61, 579, 580, 581, 61, 621, 622, 623, 61, 746, 747, 748, 61, 626, 627, 628, 61, 750, 751, 752, 61, 724, 725, 726, 61, 708, 709, 710, 61, 736, 737, 738, 61, 742, 743, 744, 61, 728, 729, 730, 53, 804, 805, 806, 61, 1081, 1082, 61, 717, 718, 67, 666, 668, 10, 67, 674, 676, 12, 67, 687, 689, 15, 67, 695, 697, 16, 61, 460, 461, 67, 670, 672, 11, 67, 467, 468, 469, 67, 569, 570, 61, 601, 602, 67, 678, 566, 567, 67, 679, 681, 13, 67, 683, 685, 14, 66, 588, 589, 590, 67, 593, 595, 5, 67, 691, 585, 586, 67, 692, 693, 65, 699, 700, 701, 67, 704, 705, 706, 67, 483, 453, 454, 67, 479, 480, 481, 67, 475, 476, 477, 67, 635, 637, 9, 67, 597, 599, 6, 67, 604, 605, 67, 607, 609, 7, 67, 611, 613, 8, 61, 1025, 602, 61, 592, 461, 66, 194, 195, 61, 972, 602, 61, 703, 461, 64, 105, 106, 65, 188, 189, 65, 879, 880, 881, 64, 883, 884, 885, 61, 932, 461, 63, 933, 935, 23, 63, 973, 975, 30, 63, 981, 983, 31, 63, 989, 991, 32, 63, 997, 999, 33, 63, 1065, 1067, 47, 63, 941, 943, 25, 63, 937, 939, 24, 63, 945, 947, 26, 63, 960, 962, 28, 63, 964, 966, 29, 65, 968, 969, 970, 65, 977, 978, 979, 65, 985, 986, 987, 65, 993, 994, 995, 63, 1001, 1003, 34, 63, 1005, 1007, 35, 63, 1009, 1011, 36, 63, 1038, 1040, 42, 63, 1057, 1059, 46, 63, 955, 957, 27, 66, 1061, 1062, 1063, 61, 949, 950, 63, 952, 953, 61, 959, 930, 63, 1042, 1044, 43, 66, 1021, 1022, 1023, 63, 1046, 1048, 44, 63, 1030, 1032, 40, 63, 1050, 1052, 45, 63, 1054, 1055, 63, 1013, 1015, 37, 63, 1017, 1019, 38, 63, 1026, 1028, 39, 63, 1034, 1036, 41, 61, 870, 602, 61, 895, 461, 51, 110, 111, 112, 51, 120, 121, 122, 64, 158, 159, 64, 887, 889, 18, 64, 899, 901, 19, 61, 928, 602, 61, 929, 930, 62, 891, 892, 893, 64, 896, 897, 64, 903, 904, 64, 906, 908, 20, 64, 913, 914, 64, 920, 922, 22, 64, 925, 926, 64, 910, 911, 64, 916, 918, 21, 62, 84, 85, 63, 99, 100, 65, 367, 189, 67, 370, 371, 62, 866, 867, 868, 63, 875, 876, 877, 63, 1069, 1070, 1071, 63, 1073, 1074, 1075, 67, 1077, 1078, 1079, 67, 452, 453, 454, 67, 456, 457, 458, 67, 463, 464, 465, 67, 471, 472, 473, 61, 555, 556, 61, 559, 461, 67, 560, 468, 469, 67, 561, 562, 563, 67, 565, 566, 567, 67, 577, 480, 481, 67, 578, 476, 477, 67, 584, 585, 586, 67, 631, 632, 633, 61, 732, 733, 67, 1405, 705, 706, 61, 741, 602, 61, 643, 644, 67, 662, 663, 664, 67, 713, 714, 715, 61, 756, 449, 450, 61, 757, 552, 553, 61, 758, 573, 574, 61, 759, 580, 581, 61, 760, 622, 623, 53, 786, 787, 788, 53, 782, 783, 784, 53, 790, 791, 792, 53, 778, 779, 780, 53, 774, 775, 776, 53, 798, 799, 800, 53, 770, 771, 772, 53, 765, 767, 17, 53, 794, 795, 796, 53, 808, 809, 810, 53, 812, 813, 814, 53, 816, 817, 818, 61, 820, 449, 450, 61, 821, 573, 574, 61, 822, 552, 553, 61, 823, 580, 581, 61, 824, 622, 623, 61, 825, 627, 628, 61, 826, 747, 748, 51, 1196, 111, 112, 51, 1205, 115, 116, 49, 1175, 1177, 1178, 1176, 49, 1146, 1424, 0, 1148, 49, 1150, 1425, 1, 1152, 56, 1163, 1164, 54, 1154, 1155, 49, 1197, 1426, 2, 1199, 60, 1245, 1246, 60, 1248, 1249, 49, 1201, 1427, 3, 1203, 51, 1232, 1233, 1234, 56, 1326, 1327, 51, 114, 115, 116, 51, 1308, 1309, 51, 124, 125, 126, 59, 128, 129, 50, 1317, 1319, 1320, 1321, 1318, 49, 1312, 1314, 1315, 1313, 49, 1325, 1177, 1178, 1176, 58, 136, 137, 49, 1282, 1283, 49, 1138, 1422, 1139, 1140, 49, 1242, 1429, 1139, 1243, 51, 1305, 1306, 49, 1323, 1319, 1139, 1318, 51, 131, 132, 56, 1329, 1330, 56, 1332, 1333]) (by decide +kernel)
set_option maxRecDepth 30000 in
theorem ixw_M1 : ix_wM ixM1 ∈ lw_tb2 := List.mem_of_getElem? (i := 372) rfl
set_option maxRecDepth 30000 in
theorem ixw_M2 : ix_wM ixM2 ∈ lw_tb2 := List.mem_of_getElem? (i := 1080) rfl
set_option maxRecDepth 30000 in
theorem ixw_M3 : ix_wM ixM3 ∈ lw_tb2 := List.mem_of_getElem? (i := 716) rfl
set_option maxRecDepth 30000 in
theorem ixw_M4 : ix_wM ixM4 ∈ lw_tb2 := List.mem_of_getElem? (i := 665) rfl
set_option maxRecDepth 30000 in
theorem ixw_M5 : ix_wM ixM5 ∈ lw_tb2 := List.mem_of_getElem? (i := 669) rfl
set_option maxRecDepth 30000 in
theorem ixw_M6 : ix_wM ixM6 ∈ lw_tb2 := List.mem_of_getElem? (i := 677) rfl
set_option maxRecDepth 30000 in
theorem ixw_M7 : ix_wM ixM7 ∈ lw_tb2 := List.mem_of_getElem? (i := 682) rfl
set_option maxRecDepth 30000 in
theorem ixw_M8 : ix_wM ixM8 ∈ lw_tb2 := List.mem_of_getElem? (i := 686) rfl
set_option maxRecDepth 30000 in
theorem ixw_M9 : ix_wM ixM9 ∈ lw_tb2 := List.mem_of_getElem? (i := 690) rfl
set_option maxRecDepth 30000 in
theorem ixw_M10 : ix_wM ixM10 ∈ lw_tb2 := List.mem_of_getElem? (i := 587) rfl
set_option maxRecDepth 30000 in
theorem ixw_M11 : ix_wM ixM11 ∈ lw_tb2 := List.mem_of_getElem? (i := 694) rfl
set_option maxRecDepth 30000 in
theorem ixw_M12 : ix_wM ixM12 ∈ lw_tb2 := List.mem_of_getElem? (i := 698) rfl
set_option maxRecDepth 30000 in
theorem ixw_M13 : ix_wM ixM13 ∈ lw_tb2 := List.mem_of_getElem? (i := 707) rfl
set_option maxRecDepth 30000 in
theorem ixw_M14 : ix_wM ixM14 ∈ lw_tb2 := List.mem_of_getElem? (i := 673) rfl
set_option maxRecDepth 30000 in
theorem ixw_M15 : ix_wM ixM15 ∈ lw_tb2 := List.mem_of_getElem? (i := 470) rfl
set_option maxRecDepth 30000 in
theorem ixw_M16 : ix_wM ixM16 ∈ lw_tb2 := List.mem_of_getElem? (i := 568) rfl
set_option maxRecDepth 30000 in
theorem ixw_M17 : ix_wM ixM17 ∈ lw_tb2 := List.mem_of_getElem? (i := 564) rfl
set_option maxRecDepth 30000 in
theorem ixw_M18 : ix_wM ixM18 ∈ lw_tb2 := List.mem_of_getElem? (i := 455) rfl
set_option maxRecDepth 30000 in
theorem ixw_M19 : ix_wM ixM19 ∈ lw_tb2 := List.mem_of_getElem? (i := 482) rfl
set_option maxRecDepth 30000 in
theorem ixw_M20 : ix_wM ixM20 ∈ lw_tb2 := List.mem_of_getElem? (i := 478) rfl
set_option maxRecDepth 30000 in
theorem ixw_M21 : ix_wM ixM21 ∈ lw_tb2 := List.mem_of_getElem? (i := 474) rfl
set_option maxRecDepth 30000 in
theorem ixw_M22 : ix_wM ixM22 ∈ lw_tb2 := List.mem_of_getElem? (i := 459) rfl
set_option maxRecDepth 30000 in
theorem ixw_M23 : ix_wM ixM23 ∈ lw_tb2 := List.mem_of_getElem? (i := 466) rfl
set_option maxRecDepth 30000 in
theorem ixw_M24 : ix_wM ixM24 ∈ lw_tb2 := List.mem_of_getElem? (i := 634) rfl
set_option maxRecDepth 30000 in
theorem ixw_M25 : ix_wM ixM25 ∈ lw_tb2 := List.mem_of_getElem? (i := 638) rfl
set_option maxRecDepth 30000 in
theorem ixw_M26 : ix_wM ixM26 ∈ lw_tb2 := List.mem_of_getElem? (i := 571) rfl
set_option maxRecDepth 30000 in
theorem ixw_M27 : ix_wM ixM27 ∈ lw_tb2 := List.mem_of_getElem? (i := 596) rfl
set_option maxRecDepth 30000 in
theorem ixw_M28 : ix_wM ixM28 ∈ lw_tb2 := List.mem_of_getElem? (i := 614) rfl
set_option maxRecDepth 30000 in
theorem ixw_M29 : ix_wM ixM29 ∈ lw_tb2 := List.mem_of_getElem? (i := 606) rfl
set_option maxRecDepth 30000 in
theorem ixw_M30 : ix_wM ixM30 ∈ lw_tb2 := List.mem_of_getElem? (i := 600) rfl
set_option maxRecDepth 30000 in
theorem ixw_M31 : ix_wM ixM31 ∈ lw_tb2 := List.mem_of_getElem? (i := 610) rfl
set_option maxRecDepth 30000 in
theorem ixw_M32 : ix_wM ixM32 ∈ lw_tb2 := List.mem_of_getElem? (i := 196) rfl
set_option maxRecDepth 30000 in
theorem ixw_M33 : ix_wM ixM33 ∈ lw_tb2 := List.mem_of_getElem? (i := 1024) rfl
set_option maxRecDepth 30000 in
theorem ixw_M34 : ix_wM ixM34 ∈ lw_tb2 := List.mem_of_getElem? (i := 1064) rfl
set_option maxRecDepth 30000 in
theorem ixw_M35 : ix_wM ixM35 ∈ lw_tb2 := List.mem_of_getElem? (i := 591) rfl
set_option maxRecDepth 30000 in
theorem ixw_M36 : ix_wM ixM36 ∈ lw_tb2 := List.mem_of_getElem? (i := 190) rfl
set_option maxRecDepth 30000 in
theorem ixw_M37 : ix_wM ixM37 ∈ lw_tb2 := List.mem_of_getElem? (i := 882) rfl
set_option maxRecDepth 30000 in
theorem ixw_M38 : ix_wM ixM38 ∈ lw_tb2 := List.mem_of_getElem? (i := 971) rfl
set_option maxRecDepth 30000 in
theorem ixw_M39 : ix_wM ixM39 ∈ lw_tb2 := List.mem_of_getElem? (i := 980) rfl
set_option maxRecDepth 30000 in
theorem ixw_M40 : ix_wM ixM40 ∈ lw_tb2 := List.mem_of_getElem? (i := 988) rfl
set_option maxRecDepth 30000 in
theorem ixw_M41 : ix_wM ixM41 ∈ lw_tb2 := List.mem_of_getElem? (i := 996) rfl
set_option maxRecDepth 30000 in
theorem ixw_M42 : ix_wM ixM42 ∈ lw_tb2 := List.mem_of_getElem? (i := 702) rfl
set_option maxRecDepth 30000 in
theorem ixw_M43 : ix_wM ixM43 ∈ lw_tb2 := List.mem_of_getElem? (i := 101) rfl
set_option maxRecDepth 30000 in
theorem ixw_M44 : ix_wM ixM44 ∈ lw_tb2 := List.mem_of_getElem? (i := 878) rfl
set_option maxRecDepth 30000 in
theorem ixw_M45 : ix_wM ixM45 ∈ lw_tb2 := List.mem_of_getElem? (i := 1072) rfl
set_option maxRecDepth 30000 in
theorem ixw_M46 : ix_wM ixM46 ∈ lw_tb2 := List.mem_of_getElem? (i := 1076) rfl
set_option maxRecDepth 30000 in
theorem ixw_M47 : ix_wM ixM47 ∈ lw_tb2 := List.mem_of_getElem? (i := 967) rfl
set_option maxRecDepth 30000 in
theorem ixw_M48 : ix_wM ixM48 ∈ lw_tb2 := List.mem_of_getElem? (i := 940) rfl
set_option maxRecDepth 30000 in
theorem ixw_M49 : ix_wM ixM49 ∈ lw_tb2 := List.mem_of_getElem? (i := 944) rfl
set_option maxRecDepth 30000 in
theorem ixw_M50 : ix_wM ixM50 ∈ lw_tb2 := List.mem_of_getElem? (i := 958) rfl
set_option maxRecDepth 30000 in
theorem ixw_M51 : ix_wM ixM51 ∈ lw_tb2 := List.mem_of_getElem? (i := 936) rfl
set_option maxRecDepth 30000 in
theorem ixw_M52 : ix_wM ixM52 ∈ lw_tb2 := List.mem_of_getElem? (i := 976) rfl
set_option maxRecDepth 30000 in
theorem ixw_M53 : ix_wM ixM53 ∈ lw_tb2 := List.mem_of_getElem? (i := 984) rfl
set_option maxRecDepth 30000 in
theorem ixw_M54 : ix_wM ixM54 ∈ lw_tb2 := List.mem_of_getElem? (i := 992) rfl
set_option maxRecDepth 30000 in
theorem ixw_M55 : ix_wM ixM55 ∈ lw_tb2 := List.mem_of_getElem? (i := 1000) rfl
set_option maxRecDepth 30000 in
theorem ixw_M56 : ix_wM ixM56 ∈ lw_tb2 := List.mem_of_getElem? (i := 1068) rfl
set_option maxRecDepth 30000 in
theorem ixw_M57 : ix_wM ixM57 ∈ lw_tb2 := List.mem_of_getElem? (i := 1004) rfl
set_option maxRecDepth 30000 in
theorem ixw_M58 : ix_wM ixM58 ∈ lw_tb2 := List.mem_of_getElem? (i := 1060) rfl
set_option maxRecDepth 30000 in
theorem ixw_M59 : ix_wM ixM59 ∈ lw_tb2 := List.mem_of_getElem? (i := 948) rfl
set_option maxRecDepth 30000 in
theorem ixw_M60 : ix_wM ixM60 ∈ lw_tb2 := List.mem_of_getElem? (i := 1008) rfl
set_option maxRecDepth 30000 in
theorem ixw_M61 : ix_wM ixM61 ∈ lw_tb2 := List.mem_of_getElem? (i := 954) rfl
set_option maxRecDepth 30000 in
theorem ixw_M62 : ix_wM ixM62 ∈ lw_tb2 := List.mem_of_getElem? (i := 963) rfl
set_option maxRecDepth 30000 in
theorem ixw_M63 : ix_wM ixM63 ∈ lw_tb2 := List.mem_of_getElem? (i := 1041) rfl
set_option maxRecDepth 30000 in
theorem ixw_M64 : ix_wM ixM64 ∈ lw_tb2 := List.mem_of_getElem? (i := 1045) rfl
set_option maxRecDepth 30000 in
theorem ixw_M65 : ix_wM ixM65 ∈ lw_tb2 := List.mem_of_getElem? (i := 1049) rfl
set_option maxRecDepth 30000 in
theorem ixw_M66 : ix_wM ixM66 ∈ lw_tb2 := List.mem_of_getElem? (i := 1053) rfl
set_option maxRecDepth 30000 in
theorem ixw_M67 : ix_wM ixM67 ∈ lw_tb2 := List.mem_of_getElem? (i := 1056) rfl
set_option maxRecDepth 30000 in
theorem ixw_M68 : ix_wM ixM68 ∈ lw_tb2 := List.mem_of_getElem? (i := 1012) rfl
set_option maxRecDepth 30000 in
theorem ixw_M69 : ix_wM ixM69 ∈ lw_tb2 := List.mem_of_getElem? (i := 1016) rfl
set_option maxRecDepth 30000 in
theorem ixw_M70 : ix_wM ixM70 ∈ lw_tb2 := List.mem_of_getElem? (i := 1020) rfl
set_option maxRecDepth 30000 in
theorem ixw_M71 : ix_wM ixM71 ∈ lw_tb2 := List.mem_of_getElem? (i := 1029) rfl
set_option maxRecDepth 30000 in
theorem ixw_M72 : ix_wM ixM72 ∈ lw_tb2 := List.mem_of_getElem? (i := 1037) rfl
set_option maxRecDepth 30000 in
theorem ixw_M73 : ix_wM ixM73 ∈ lw_tb2 := List.mem_of_getElem? (i := 1033) rfl
set_option maxRecDepth 30000 in
theorem ixw_M74 : ix_wM ixM74 ∈ lw_tb2 := List.mem_of_getElem? (i := 86) rfl
set_option maxRecDepth 30000 in
theorem ixw_M75 : ix_wM ixM75 ∈ lw_tb2 := List.mem_of_getElem? (i := 869) rfl
set_option maxRecDepth 30000 in
theorem ixw_M76 : ix_wM ixM76 ∈ lw_tb2 := List.mem_of_getElem? (i := 894) rfl
set_option maxRecDepth 30000 in
theorem ixw_M77 : ix_wM ixM77 ∈ lw_tb2 := List.mem_of_getElem? (i := 107) rfl
set_option maxRecDepth 30000 in
theorem ixw_M78 : ix_wM ixM78 ∈ lw_tb2 := List.mem_of_getElem? (i := 886) rfl
set_option maxRecDepth 30000 in
theorem ixw_M79 : ix_wM ixM79 ∈ lw_tb2 := List.mem_of_getElem? (i := 890) rfl
set_option maxRecDepth 30000 in
theorem ixw_M80 : ix_wM ixM80 ∈ lw_tb2 := List.mem_of_getElem? (i := 902) rfl
set_option maxRecDepth 30000 in
theorem ixw_M81 : ix_wM ixM81 ∈ lw_tb2 := List.mem_of_getElem? (i := 909) rfl
set_option maxRecDepth 30000 in
theorem ixw_M82 : ix_wM ixM82 ∈ lw_tb2 := List.mem_of_getElem? (i := 923) rfl
set_option maxRecDepth 30000 in
theorem ixw_M83 : ix_wM ixM83 ∈ lw_tb2 := List.mem_of_getElem? (i := 919) rfl
set_option maxRecDepth 30000 in
theorem ixw_M84 : ix_wM ixM84 ∈ lw_tb2 := List.mem_of_getElem? (i := 160) rfl
set_option maxRecDepth 30000 in
theorem ixw_M85 : ix_wM ixM85 ∈ lw_tb2 := List.mem_of_getElem? (i := 898) rfl
set_option maxRecDepth 30000 in
theorem ixw_M86 : ix_wM ixM86 ∈ lw_tb2 := List.mem_of_getElem? (i := 905) rfl
set_option maxRecDepth 30000 in
theorem ixw_M87 : ix_wM ixM87 ∈ lw_tb2 := List.mem_of_getElem? (i := 915) rfl
set_option maxRecDepth 30000 in
theorem ixw_M88 : ix_wM ixM88 ∈ lw_tb2 := List.mem_of_getElem? (i := 912) rfl
set_option maxRecDepth 30000 in
theorem ixw_M89 : ix_wM ixM89 ∈ lw_tb2 := List.mem_of_getElem? (i := 927) rfl
set_option maxRecDepth 30000 in
theorem ixw_M90 : ix_wM ixM90 ∈ lw_tb2 := List.mem_of_getElem? (i := 78) rfl
set_option maxRecDepth 30000 in
theorem ixw_M91 : ix_wM ixM91 ∈ lw_tb2 := List.mem_of_getElem? (i := 849) rfl
set_option maxRecDepth 30000 in
theorem ixw_M92 : ix_wM ixM92 ∈ lw_tb2 := List.mem_of_getElem? (i := 842) rfl
set_option maxRecDepth 30000 in
theorem ixw_M93 : ix_wM ixM93 ∈ lw_tb2 := List.mem_of_getElem? (i := 874) rfl
set_option maxRecDepth 30000 in
theorem ixw_M94 : ix_wM ixM94 ∈ lw_tb2 := List.mem_of_getElem? (i := 451) rfl
set_option maxRecDepth 30000 in
theorem ixw_M95 : ix_wM ixM95 ∈ lw_tb2 := List.mem_of_getElem? (i := 554) rfl
set_option maxRecDepth 30000 in
theorem ixw_M96 : ix_wM ixM96 ∈ lw_tb2 := List.mem_of_getElem? (i := 575) rfl
set_option maxRecDepth 30000 in
theorem ixw_M97 : ix_wM ixM97 ∈ lw_tb2 := List.mem_of_getElem? (i := 582) rfl
set_option maxRecDepth 30000 in
theorem ixw_M98 : ix_wM ixM98 ∈ lw_tb2 := List.mem_of_getElem? (i := 624) rfl
set_option maxRecDepth 30000 in
theorem ixw_M99 : ix_wM ixM99 ∈ lw_tb2 := List.mem_of_getElem? (i := 629) rfl
set_option maxRecDepth 30000 in
theorem ixw_M100 : ix_wM ixM100 ∈ lw_tb2 := List.mem_of_getElem? (i := 1398) rfl
set_option maxRecDepth 30000 in
theorem ixw_M101 : ix_wM ixM101 ∈ lw_tb2 := List.mem_of_getElem? (i := 1403) rfl
set_option maxRecDepth 30000 in
theorem ixw_M102 : ix_wM ixM102 ∈ lw_tb2 := List.mem_of_getElem? (i := 1410) rfl
set_option maxRecDepth 30000 in
theorem ixw_M103 : ix_wM ixM103 ∈ lw_tb2 := List.mem_of_getElem? (i := 1415) rfl
set_option maxRecDepth 30000 in
theorem ixw_M104 : ix_wM ixM104 ∈ lw_tb2 := List.mem_of_getElem? (i := 642) rfl
set_option maxRecDepth 30000 in
theorem ixw_M105 : ix_wM ixM105 ∈ lw_tb2 := List.mem_of_getElem? (i := 711) rfl
set_option maxRecDepth 30000 in
theorem ixw_M106 : ix_wM ixM106 ∈ lw_tb2 := List.mem_of_getElem? (i := 727) rfl
set_option maxRecDepth 30000 in
theorem ixw_M107 : ix_wM ixM107 ∈ lw_tb2 := List.mem_of_getElem? (i := 731) rfl
set_option maxRecDepth 30000 in
theorem ixw_M108 : ix_wM ixM108 ∈ lw_tb2 := List.mem_of_getElem? (i := 739) rfl
set_option maxRecDepth 30000 in
theorem ixw_M109 : ix_wM ixM109 ∈ lw_tb2 := List.mem_of_getElem? (i := 745) rfl
set_option maxRecDepth 30000 in
theorem ixw_M110 : ix_wM ixM110 ∈ lw_tb2 := List.mem_of_getElem? (i := 749) rfl
set_option maxRecDepth 30000 in
theorem ixw_M111 : ix_wM ixM111 ∈ lw_tb2 := List.mem_of_getElem? (i := 753) rfl
set_option maxRecDepth 30000 in
theorem ixw_M112 : ix_wM ixM112 ∈ lw_tb2 := List.mem_of_getElem? (i := 557) rfl
set_option maxRecDepth 30000 in
theorem ixw_M113 : ix_wM ixM113 ∈ lw_tb2 := List.mem_of_getElem? (i := 645) rfl
set_option maxRecDepth 30000 in
theorem ixw_M114 : ix_wM ixM114 ∈ lw_tb2 := List.mem_of_getElem? (i := 734) rfl
set_option maxRecDepth 30000 in
theorem ixw_M115 : ix_wM ixM115 ∈ lw_tb2 := List.mem_of_getElem? (i := 462) rfl
set_option maxRecDepth 30000 in
theorem ixw_M116 : ix_wM ixM116 ∈ lw_tb2 := List.mem_of_getElem? (i := 951) rfl
set_option maxRecDepth 30000 in
theorem ixw_M117 : ix_wM ixM117 ∈ lw_tb2 := List.mem_of_getElem? (i := 603) rfl
set_option maxRecDepth 30000 in
theorem ixw_M118 : ix_wM ixM118 ∈ lw_tb2 := List.mem_of_getElem? (i := 931) rfl
set_option maxRecDepth 30000 in
theorem ixw_M119 : ix_wM ixM119 ∈ lw_tb2 := List.mem_of_getElem? (i := 1083) rfl
set_option maxRecDepth 30000 in
theorem ixw_M120 : ix_wM ixM120 ∈ lw_tb2 := List.mem_of_getElem? (i := 719) rfl
set_option maxRecDepth 30000 in
theorem ixw_M121 : ix_wM ixM121 ∈ lw_tb2 := List.mem_of_getElem? (i := 1090) rfl
set_option maxRecDepth 30000 in
theorem ixw_M122 : ix_wM ixM122 ∈ lw_tb2 := List.mem_of_getElem? (i := 789) rfl
set_option maxRecDepth 30000 in
theorem ixw_M123 : ix_wM ixM123 ∈ lw_tb2 := List.mem_of_getElem? (i := 785) rfl
set_option maxRecDepth 30000 in
theorem ixw_M124 : ix_wM ixM124 ∈ lw_tb2 := List.mem_of_getElem? (i := 781) rfl
set_option maxRecDepth 30000 in
theorem ixw_M125 : ix_wM ixM125 ∈ lw_tb2 := List.mem_of_getElem? (i := 793) rfl
set_option maxRecDepth 30000 in
theorem ixw_M126 : ix_wM ixM126 ∈ lw_tb2 := List.mem_of_getElem? (i := 801) rfl
set_option maxRecDepth 30000 in
theorem ixw_M127 : ix_wM ixM127 ∈ lw_tb2 := List.mem_of_getElem? (i := 777) rfl
set_option maxRecDepth 30000 in
theorem ixw_M128 : ix_wM ixM128 ∈ lw_tb2 := List.mem_of_getElem? (i := 773) rfl
set_option maxRecDepth 30000 in
theorem ixw_M129 : ix_wM ixM129 ∈ lw_tb2 := List.mem_of_getElem? (i := 797) rfl
set_option maxRecDepth 30000 in
theorem ixw_M130 : ix_wM ixM130 ∈ lw_tb2 := List.mem_of_getElem? (i := 769) rfl
set_option maxRecDepth 30000 in
theorem ixw_M131 : ix_wM ixM131 ∈ lw_tb2 := List.mem_of_getElem? (i := 764) rfl
set_option maxRecDepth 30000 in
theorem ixw_M132 : ix_wM ixM132 ∈ lw_tb2 := List.mem_of_getElem? (i := 811) rfl
set_option maxRecDepth 30000 in
theorem ixw_M133 : ix_wM ixM133 ∈ lw_tb2 := List.mem_of_getElem? (i := 815) rfl
set_option maxRecDepth 30000 in
theorem ixw_M134 : ix_wM ixM134 ∈ lw_tb2 := List.mem_of_getElem? (i := 819) rfl
set_option maxRecDepth 30000 in
theorem ixw_M135 : ix_wM ixM135 ∈ lw_tb2 := List.mem_of_getElem? (i := 807) rfl
set_option maxRecDepth 30000 in
theorem ixw_M136 : ix_wM ixM136 ∈ lw_tb2 := List.mem_of_getElem? (i := 1284) rfl
set_option maxRecDepth 30000 in
theorem ixw_M137 : ix_wM ixM137 ∈ lw_tb2 := List.mem_of_getElem? (i := 1324) rfl
set_option maxRecDepth 30000 in
theorem ixw_M138 : ix_wM ixM138 ∈ lw_tb2 := List.mem_of_getElem? (i := 1149) rfl
set_option maxRecDepth 30000 in
theorem ixw_M139 : ix_wM ixM139 ∈ lw_tb2 := List.mem_of_getElem? (i := 1153) rfl
set_option maxRecDepth 30000 in
theorem ixw_M140 : ix_wM ixM140 ∈ lw_tb2 := List.mem_of_getElem? (i := 1141) rfl
set_option maxRecDepth 30000 in
theorem ixw_M141 : ix_wM ixM141 ∈ lw_tb2 := List.mem_of_getElem? (i := 1244) rfl
set_option maxRecDepth 30000 in
theorem ixw_M142 : ix_wM ixM142 ∈ lw_tb2 := List.mem_of_getElem? (i := 1316) rfl
set_option maxRecDepth 30000 in
theorem ixw_M143 : ix_wM ixM143 ∈ lw_tb2 := List.mem_of_getElem? (i := 1179) rfl
set_option maxRecDepth 30000 in
theorem ixw_M144 : ix_wM ixM144 ∈ lw_tb2 := List.mem_of_getElem? (i := 1204) rfl
set_option maxRecDepth 30000 in
theorem ixw_M145 : ix_wM ixM145 ∈ lw_tb2 := List.mem_of_getElem? (i := 1200) rfl
set_option maxRecDepth 30000 in
theorem ixw_M146 : ix_wM ixM146 ∈ lw_tb2 := List.mem_of_getElem? (i := 1250) rfl
set_option maxRecDepth 30000 in
theorem ixw_M147 : ix_wM ixM147 ∈ lw_tb2 := List.mem_of_getElem? (i := 1247) rfl
set_option maxRecDepth 30000 in
theorem ixw_M148 : ix_wM ixM148 ∈ lw_tb2 := List.mem_of_getElem? (i := 1307) rfl
set_option maxRecDepth 30000 in
theorem ixw_M149 : ix_wM ixM149 ∈ lw_tb2 := List.mem_of_getElem? (i := 113) rfl
set_option maxRecDepth 30000 in
theorem ixw_M150 : ix_wM ixM150 ∈ lw_tb2 := List.mem_of_getElem? (i := 123) rfl
set_option maxRecDepth 30000 in
theorem ixw_M151 : ix_wM ixM151 ∈ lw_tb2 := List.mem_of_getElem? (i := 1235) rfl
set_option maxRecDepth 30000 in
theorem ixw_M152 : ix_wM ixM152 ∈ lw_tb2 := List.mem_of_getElem? (i := 1310) rfl
set_option maxRecDepth 30000 in
theorem ixw_M153 : ix_wM ixM153 ∈ lw_tb2 := List.mem_of_getElem? (i := 117) rfl
set_option maxRecDepth 30000 in
theorem ixw_M154 : ix_wM ixM154 ∈ lw_tb2 := List.mem_of_getElem? (i := 127) rfl
set_option maxRecDepth 30000 in
theorem ixw_M155 : ix_wM ixM155 ∈ lw_tb2 := List.mem_of_getElem? (i := 133) rfl
set_option maxRecDepth 30000 in
theorem ixw_M156 : ix_wM ixM156 ∈ lw_tb2 := List.mem_of_getElem? (i := 1281) rfl
set_option maxRecDepth 30000 in
theorem ixw_M157 : ix_wM ixM157 ∈ lw_tb2 := List.mem_of_getElem? (i := 1137) rfl
set_option maxRecDepth 30000 in
theorem ixw_M158 : ix_wM ixM158 ∈ lw_tb2 := List.mem_of_getElem? (i := 1241) rfl
set_option maxRecDepth 30000 in
theorem ixw_M159 : ix_wM ixM159 ∈ lw_tb2 := List.mem_of_getElem? (i := 1302) rfl
set_option maxRecDepth 30000 in
theorem ixw_M160 : ix_wM ixM160 ∈ lw_tb2 := List.mem_of_getElem? (i := 1322) rfl
set_option maxRecDepth 30000 in
theorem ixw_M161 : ix_wM ixM161 ∈ lw_tb2 := List.mem_of_getElem? (i := 130) rfl
set_option maxRecDepth 30000 in
theorem ixw_M162 : ix_wM ixM162 ∈ lw_tb2 := List.mem_of_getElem? (i := 1165) rfl
set_option maxRecDepth 30000 in
theorem ixw_M163 : ix_wM ixM163 ∈ lw_tb2 := List.mem_of_getElem? (i := 1328) rfl
set_option maxRecDepth 30000 in
theorem ixw_M164 : ix_wM ixM164 ∈ lw_tb2 := List.mem_of_getElem? (i := 1331) rfl
set_option maxRecDepth 30000 in
theorem ixw_M165 : ix_wM ixM165 ∈ lw_tb2 := List.mem_of_getElem? (i := 1156) rfl
set_option maxRecDepth 30000 in
theorem ixw_M166 : ix_wM ixM166 ∈ lw_tb2 := List.mem_of_getElem? (i := 138) rfl
set_option maxRecDepth 30000 in
theorem ixw_M167 : ix_wM ixM167 ∈ lw_tb2 := List.mem_of_getElem? (i := 830) rfl
set_option maxRecDepth 30000 in
theorem ixw_M168 : ix_wM ixM168 ∈ lw_tb2 := List.mem_of_getElem? (i := 834) rfl
set_option maxRecDepth 30000 in
theorem ixw_M169 : ix_wM ixM169 ∈ lw_tb2 := List.mem_of_getElem? (i := 838) rfl
set_option maxRecDepth 30000 in
theorem ixw_M170 : ix_wM ixM170 ∈ lw_tb2 := List.mem_of_getElem? (i := 1360) rfl
set_option maxRecDepth 30000 in
theorem ixw_M171 : ix_wM ixM171 ∈ lw_tb2 := List.mem_of_getElem? (i := 1374) rfl
set_option maxRecDepth 30000 in
theorem ixw_M172 : ix_wM ixM172 ∈ lw_tb2 := List.mem_of_getElem? (i := 1086) rfl
set_option maxRecDepth 30000 in
theorem ixw_M173 : ix_wM ixM173 ∈ lw_tb2 := List.mem_of_getElem? (i := 1419) rfl
set_option maxRecDepth 30000 in
theorem ixw_M174 : ix_wM ixM174 ∈ lw_tb2 := List.mem_of_getElem? (i := 1393) rfl
set_option maxRecDepth 30000 in
theorem ixw_M175 : ix_wM ixM175 ∈ lw_tb2 := List.mem_of_getElem? (i := 1334) rfl
theorem ixw_fc {a : ix_M} {l : List ix_M} (h : ix_wM a ∈ lw_tb2) (g : ∀ m ∈ l, ix_wM m ∈ lw_tb2) : ∀ m ∈ a :: l, ix_wM m ∈ lw_tb2 := fun m hm => (List.mem_cons.mp hm).elim (fun e => e ▸ h) (g m)
def ixw_l8 : List ix_M := ixM161 :: ixM162 :: ixM163 :: ixM164 :: ixM165 :: ixM166 :: ixM167 :: ixM168 :: ixM169 :: ixM170 :: ixM171 :: ixM172 :: ixM173 :: ixM174 :: ixM175 :: []
theorem ixw_t8 : ∀ m ∈ ixw_l8, ix_wM m ∈ lw_tb2 := ixw_fc ixw_M161 (ixw_fc ixw_M162 (ixw_fc ixw_M163 (ixw_fc ixw_M164 (ixw_fc ixw_M165 (ixw_fc ixw_M166 (ixw_fc ixw_M167 (ixw_fc ixw_M168 (ixw_fc ixw_M169 (ixw_fc ixw_M170 (ixw_fc ixw_M171 (ixw_fc ixw_M172 (ixw_fc ixw_M173 (ixw_fc ixw_M174 (ixw_fc ixw_M175 ((fun m hm => absurd hm List.not_mem_nil))))))))))))))))
def ixw_l7 : List ix_M := ixM141 :: ixM142 :: ixM143 :: ixM144 :: ixM145 :: ixM146 :: ixM147 :: ixM148 :: ixM149 :: ixM150 :: ixM151 :: ixM152 :: ixM153 :: ixM154 :: ixM155 :: ixM156 :: ixM157 :: ixM158 :: ixM159 :: ixM160 :: ixw_l8
theorem ixw_t7 : ∀ m ∈ ixw_l7, ix_wM m ∈ lw_tb2 := ixw_fc ixw_M141 (ixw_fc ixw_M142 (ixw_fc ixw_M143 (ixw_fc ixw_M144 (ixw_fc ixw_M145 (ixw_fc ixw_M146 (ixw_fc ixw_M147 (ixw_fc ixw_M148 (ixw_fc ixw_M149 (ixw_fc ixw_M150 (ixw_fc ixw_M151 (ixw_fc ixw_M152 (ixw_fc ixw_M153 (ixw_fc ixw_M154 (ixw_fc ixw_M155 (ixw_fc ixw_M156 (ixw_fc ixw_M157 (ixw_fc ixw_M158 (ixw_fc ixw_M159 (ixw_fc ixw_M160 (ixw_t8))))))))))))))))))))
def ixw_l6 : List ix_M := ixM121 :: ixM122 :: ixM123 :: ixM124 :: ixM125 :: ixM126 :: ixM127 :: ixM128 :: ixM129 :: ixM130 :: ixM131 :: ixM132 :: ixM133 :: ixM134 :: ixM135 :: ixM136 :: ixM137 :: ixM138 :: ixM139 :: ixM140 :: ixw_l7
theorem ixw_t6 : ∀ m ∈ ixw_l6, ix_wM m ∈ lw_tb2 := ixw_fc ixw_M121 (ixw_fc ixw_M122 (ixw_fc ixw_M123 (ixw_fc ixw_M124 (ixw_fc ixw_M125 (ixw_fc ixw_M126 (ixw_fc ixw_M127 (ixw_fc ixw_M128 (ixw_fc ixw_M129 (ixw_fc ixw_M130 (ixw_fc ixw_M131 (ixw_fc ixw_M132 (ixw_fc ixw_M133 (ixw_fc ixw_M134 (ixw_fc ixw_M135 (ixw_fc ixw_M136 (ixw_fc ixw_M137 (ixw_fc ixw_M138 (ixw_fc ixw_M139 (ixw_fc ixw_M140 (ixw_t7))))))))))))))))))))
def ixw_l5 : List ix_M := ixM101 :: ixM102 :: ixM103 :: ixM104 :: ixM105 :: ixM106 :: ixM107 :: ixM108 :: ixM109 :: ixM110 :: ixM111 :: ixM112 :: ixM113 :: ixM114 :: ixM115 :: ixM116 :: ixM117 :: ixM118 :: ixM119 :: ixM120 :: ixw_l6
theorem ixw_t5 : ∀ m ∈ ixw_l5, ix_wM m ∈ lw_tb2 := ixw_fc ixw_M101 (ixw_fc ixw_M102 (ixw_fc ixw_M103 (ixw_fc ixw_M104 (ixw_fc ixw_M105 (ixw_fc ixw_M106 (ixw_fc ixw_M107 (ixw_fc ixw_M108 (ixw_fc ixw_M109 (ixw_fc ixw_M110 (ixw_fc ixw_M111 (ixw_fc ixw_M112 (ixw_fc ixw_M113 (ixw_fc ixw_M114 (ixw_fc ixw_M115 (ixw_fc ixw_M116 (ixw_fc ixw_M117 (ixw_fc ixw_M118 (ixw_fc ixw_M119 (ixw_fc ixw_M120 (ixw_t6))))))))))))))))))))
def ixw_l4 : List ix_M := ixM81 :: ixM82 :: ixM83 :: ixM84 :: ixM85 :: ixM86 :: ixM87 :: ixM88 :: ixM89 :: ixM90 :: ixM91 :: ixM92 :: ixM93 :: ixM94 :: ixM95 :: ixM96 :: ixM97 :: ixM98 :: ixM99 :: ixM100 :: ixw_l5
theorem ixw_t4 : ∀ m ∈ ixw_l4, ix_wM m ∈ lw_tb2 := ixw_fc ixw_M81 (ixw_fc ixw_M82 (ixw_fc ixw_M83 (ixw_fc ixw_M84 (ixw_fc ixw_M85 (ixw_fc ixw_M86 (ixw_fc ixw_M87 (ixw_fc ixw_M88 (ixw_fc ixw_M89 (ixw_fc ixw_M90 (ixw_fc ixw_M91 (ixw_fc ixw_M92 (ixw_fc ixw_M93 (ixw_fc ixw_M94 (ixw_fc ixw_M95 (ixw_fc ixw_M96 (ixw_fc ixw_M97 (ixw_fc ixw_M98 (ixw_fc ixw_M99 (ixw_fc ixw_M100 (ixw_t5))))))))))))))))))))
def ixw_l3 : List ix_M := ixM61 :: ixM62 :: ixM63 :: ixM64 :: ixM65 :: ixM66 :: ixM67 :: ixM68 :: ixM69 :: ixM70 :: ixM71 :: ixM72 :: ixM73 :: ixM74 :: ixM75 :: ixM76 :: ixM77 :: ixM78 :: ixM79 :: ixM80 :: ixw_l4
theorem ixw_t3 : ∀ m ∈ ixw_l3, ix_wM m ∈ lw_tb2 := ixw_fc ixw_M61 (ixw_fc ixw_M62 (ixw_fc ixw_M63 (ixw_fc ixw_M64 (ixw_fc ixw_M65 (ixw_fc ixw_M66 (ixw_fc ixw_M67 (ixw_fc ixw_M68 (ixw_fc ixw_M69 (ixw_fc ixw_M70 (ixw_fc ixw_M71 (ixw_fc ixw_M72 (ixw_fc ixw_M73 (ixw_fc ixw_M74 (ixw_fc ixw_M75 (ixw_fc ixw_M76 (ixw_fc ixw_M77 (ixw_fc ixw_M78 (ixw_fc ixw_M79 (ixw_fc ixw_M80 (ixw_t4))))))))))))))))))))
def ixw_l2 : List ix_M := ixM41 :: ixM42 :: ixM43 :: ixM44 :: ixM45 :: ixM46 :: ixM47 :: ixM48 :: ixM49 :: ixM50 :: ixM51 :: ixM52 :: ixM53 :: ixM54 :: ixM55 :: ixM56 :: ixM57 :: ixM58 :: ixM59 :: ixM60 :: ixw_l3
theorem ixw_t2 : ∀ m ∈ ixw_l2, ix_wM m ∈ lw_tb2 := ixw_fc ixw_M41 (ixw_fc ixw_M42 (ixw_fc ixw_M43 (ixw_fc ixw_M44 (ixw_fc ixw_M45 (ixw_fc ixw_M46 (ixw_fc ixw_M47 (ixw_fc ixw_M48 (ixw_fc ixw_M49 (ixw_fc ixw_M50 (ixw_fc ixw_M51 (ixw_fc ixw_M52 (ixw_fc ixw_M53 (ixw_fc ixw_M54 (ixw_fc ixw_M55 (ixw_fc ixw_M56 (ixw_fc ixw_M57 (ixw_fc ixw_M58 (ixw_fc ixw_M59 (ixw_fc ixw_M60 (ixw_t3))))))))))))))))))))
def ixw_l1 : List ix_M := ixM21 :: ixM22 :: ixM23 :: ixM24 :: ixM25 :: ixM26 :: ixM27 :: ixM28 :: ixM29 :: ixM30 :: ixM31 :: ixM32 :: ixM33 :: ixM34 :: ixM35 :: ixM36 :: ixM37 :: ixM38 :: ixM39 :: ixM40 :: ixw_l2
theorem ixw_t1 : ∀ m ∈ ixw_l1, ix_wM m ∈ lw_tb2 := ixw_fc ixw_M21 (ixw_fc ixw_M22 (ixw_fc ixw_M23 (ixw_fc ixw_M24 (ixw_fc ixw_M25 (ixw_fc ixw_M26 (ixw_fc ixw_M27 (ixw_fc ixw_M28 (ixw_fc ixw_M29 (ixw_fc ixw_M30 (ixw_fc ixw_M31 (ixw_fc ixw_M32 (ixw_fc ixw_M33 (ixw_fc ixw_M34 (ixw_fc ixw_M35 (ixw_fc ixw_M36 (ixw_fc ixw_M37 (ixw_fc ixw_M38 (ixw_fc ixw_M39 (ixw_fc ixw_M40 (ixw_t2))))))))))))))))))))
def ixw_l0 : List ix_M := ixM1 :: ixM2 :: ixM3 :: ixM4 :: ixM5 :: ixM6 :: ixM7 :: ixM8 :: ixM9 :: ixM10 :: ixM11 :: ixM12 :: ixM13 :: ixM14 :: ixM15 :: ixM16 :: ixM17 :: ixM18 :: ixM19 :: ixM20 :: ixw_l1
theorem ixw_t0 : ∀ m ∈ ixw_l0, ix_wM m ∈ lw_tb2 := ixw_fc ixw_M1 (ixw_fc ixw_M2 (ixw_fc ixw_M3 (ixw_fc ixw_M4 (ixw_fc ixw_M5 (ixw_fc ixw_M6 (ixw_fc ixw_M7 (ixw_fc ixw_M8 (ixw_fc ixw_M9 (ixw_fc ixw_M10 (ixw_fc ixw_M11 (ixw_fc ixw_M12 (ixw_fc ixw_M13 (ixw_fc ixw_M14 (ixw_fc ixw_M15 (ixw_fc ixw_M16 (ixw_fc ixw_M17 (ixw_fc ixw_M18 (ixw_fc ixw_M19 (ixw_fc ixw_M20 (ixw_t1))))))))))))))))))))
set_option maxRecDepth 30000 in
theorem ixw_MTe : ixMT.tail = ixw_l0 := rfl
theorem ixw_MT : ∀ w ∈ ixMT.tail.map ix_wM, w ∈ lw_tb2 := by
  intro w hw
  obtain ⟨m, hm, rfl⟩ := List.mem_map.mp hw
  exact ixw_t0 m (ixw_MTe ▸ hm)
theorem ixw_ST : ∀ w ∈ (ixST .null).flatMap (ix_wS (ixP .null)), w ∈ lw_tb2 := ixw_pl (ps := [1180, 1251, 1253, 118, 134]) (by decide +kernel)
theorem ixw_AT : ∀ w ∈ ixAT.flatMap (ix_wA (ixP .null)), w ∈ lw_tb2 := ixw_pl (ps := [1132, 1420, 1092, 1172]) (by decide +kernel)
theorem ixw_NV : ∀ w ∈ ixNV.flatMap (ix_wV (ixP .null)), w ∈ lw_tb2 := ixw_pl (ps := [373, 80, 81, 615, 616, 55, 617, 618, 619, 55, 620, 197, 80, 81, 191, 80, 81, 102, 80, 81, 87, 80, 81, 108, 80, 81, 79, 80, 81, 720, 616, 55, 617, 721, 723, 722, 57, 1091, 80, 81, 802, 616, 55, 617, 803, 619, 55, 620, 1285, 80, 81, 1311, 80, 81, 1236, 723, 722, 57, 1174, 723, 722, 57, 1173, 616, 55, 617, 1166, 1167, 1168, 1169, 1170, 1171, 1157, 619, 55, 620]) (by decide +kernel)
theorem ixw_XT : ∀ w ∈ ixXT.flatMap (ix_wX (ixP .null)), w ∈ lw_tb2 := by decide +kernel
theorem ixw_HT : ∀ w ∈ ixHT.flatMap (ix_wH (ixP .null)), w ∈ lw_tb2 := by decide +kernel
theorem ixw_PR : ∀ w ∈ ix_pr [.int, .long, .byte, .boolean, .byte, .array .int], w ∈ lw_tb2 := by decide +kernel
theorem ix_selp {y z : MethodName} {C : String} {s : State} {args : Array Value} (hy : y.cls ≠ "java/lang/invoke/MethodHandle" ∧ y.cls ≠ "java/lang/invoke/VarHandle") (hz : z.cls = y.cls) (hsel : (Cond.selects C z z).before args s = true) (hpriv : (Cond.privateMethod y).before args s = true) (hinst : (Cond.instanceMethod y).before args s = true) : (Cond.selects C y y).before args s = true := by
  obtain ⟨mk, methM, hnamed, hmethM, -, -⟩ := Cond.instanceMethod_spec hinst
  have hfound : s.methodFound? y.cls y.name y.desc = some mk := State.methodFound?_of_named hnamed hy
  have hcy := findClass_of_methodNamed hnamed
  unfold Cond.before Cond.holds at hsel
  simp only [Cond.value] at hsel
  cases hc : s.vm.findClass C with
  | none => simp [hc] at hsel
  | some c =>
  cases hzn : s.methodNamed? z with
  | none => simp [hc, hzn] at hsel
  | some mz =>
  cases hzf : s.methodFound? z.cls z.name z.desc with
  | none => simp [hc, hzn, hzf] at hsel
  | some rz =>
  have hcz := findClass_of_methodNamed hzn
  rw [hz, hcy] at hcz
  have hcls : mk.cls = mz.cls := Option.some.inj hcz
  have hint : (s.vm.classes[mk.cls]?).any (!·.isInterface) = true := by
    simp only [hc, hzn, hzf] at hsel
    rw [hcls]
    split at hsel
    · simp at hsel
      simpa using hsel.2
    · simp at hsel
  have hsm : selectMethod {} s.vm c mk = .method mk := selectMethod_private hmethM (Cond.privateMethod_at hpriv mk methM hnamed hmethM)
  unfold Cond.before Cond.holds
  simp only [Cond.value, hc, hfound, hnamed, hsm, hint]
  simp
theorem ixw_xs {s : State} {args : Array Value} (hts : ∀ w ∈ lw_tbl, w.before args s = true) : ∀ w ∈ lw_tb2, w.before args s = true := by
  intro w hw
  rcases List.mem_append.mp hw with hw | hw
  · obtain ⟨y, hy, rfl⟩ := List.mem_map.mp hw
    have h1 : ∀ y ∈ ixw_y, (y.cls = "java/lang/AbstractStringBuilder") ∧ Cond.privateMethod y ∈ lw_tbl ∧ Cond.instanceMethod y ∈ lw_tbl := by decide +kernel
    obtain ⟨g1, g2, g3⟩ := h1 y hy
    exact ix_selp (z := ⟨"java/lang/AbstractStringBuilder", "isLatin1", "()Z"⟩) ⟨by rw [g1]; decide, by rw [g1]; decide⟩ g1.symm (hts _ (by decide +kernel)) (hts _ g2) (hts _ g3)
  · exact hts w hw
