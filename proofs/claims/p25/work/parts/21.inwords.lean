/-! THE WORDS of the tables are among the Statement's, by their places (written by gen21.py). -/
def ixw_y : List MethodName := [⟨"java/lang/AbstractStringBuilder", "ensureCapacityInternal", "(I)V"⟩, ⟨"java/lang/AbstractStringBuilder", "newCapacity", "(I)I"⟩, ⟨"java/lang/AbstractStringBuilder", "putStringAt", "(ILjava/lang/String;)V"⟩, ⟨"java/lang/AbstractStringBuilder", "inflateIfNeededFor", "(Ljava/lang/String;)V"⟩]
def ixw_x : List Cond := ixw_y.map (fun y => Cond.selects "java/lang/StringBuilder" y y)
def lw_tb2 : List Cond := ixw_x ++ lw_tbl
theorem ixw_pl {ws : List Cond} {ps : List Nat} (h : ws = ps.filterMap (fun i => lw_tb2[i]?)) : ∀ w ∈ ws, w ∈ lw_tb2 := fun w hw => by
  rw [h] at hw
  obtain ⟨i, -, hi⟩ := List.mem_filterMap.mp hw
  exact List.mem_of_getElem? hi
theorem ixw_CL : ∀ w ∈ ixCL.flatMap (fun r => u_ws r.1 r.2.1 r.2.2), w ∈ lw_tb2 := ixw_pl (ps := [401, 403, 405, 407, 409, 411, 413, 415, 417, 419, 421, 423, 425, 427, 429, 218, 220, 222, 224, 226, 228, 230, 232, 234, 293, 295, 297, 299, 301, 303, 305, 307, 309, 311, 313, 315, 317, 319, 321, 323, 325, 327, 329, 343, 345, 347, 349, 351, 353, 355, 357, 359, 361, 363, 91, 93, 171, 173, 175, 177, 179, 181, 437, 439, 441, 443, 445, 1111, 1113, 1115, 1117, 1119, 1121, 1123, 1125, 1127, 1129, 1347, 1349, 1351, 1353, 1290, 1292, 1294, 1296]) (by decide +kernel)
theorem ixw_FT : ∀ w ∈ ixFT.flatMap (ix_wF (ixP .null)), w ∈ lw_tb2 := ixw_pl (ps := [1100, 1102, 1104, 1106, 1108, 1110, 1096, 384, 386, 388, 389, 391, 393, 395, 397, 399, 374, 382, 380, 272, 376, 378, 256, 280, 268, 250, 264, 260, 262, 266, 287, 284, 291, 201, 208, 210, 274, 277, 206, 248, 243, 240, 400, 215, 217, 203, 204, 205, 207, 209, 214, 216, 211, 199, 241, 244, 246, 253, 259, 261, 263, 265, 271, 273, 276, 283, 286, 289, 237, 249, 255, 267, 279, 198, 212, 332, 333, 334, 335, 336, 337, 338, 164, 339, 340, 341, 166, 342, 239, 258, 252, 270, 282, 292, 213, 202, 168, 88, 90, 162, 163, 165, 167, 169, 170, 432, 433, 436, 434, 435, 89, 375, 377, 379, 238, 251, 257, 269, 281, 290, 200, 381, 254, 385, 387, 242, 245, 247, 390, 275, 278, 392, 394, 396, 285, 288, 398, 383, 1098, 1099, 1101, 1103, 1105, 1107, 1109, 1094, 1095, 1097, 1286, 1287, 1289, 1345, 1346, 1288]) (by decide +kernel)
theorem ixw_NT : ∀ w ∈ ixNT.flatMap (ix_wN (ixP .null)), w ∈ lw_tb2 := ixw_pl (ps := [74, 75, 61, 1277, 1278, 50, 1087, 768, 53, 192, 193, 66, 103, 104, 64, 186, 187, 65, 82, 83, 62, 97, 98, 63, 366, 187, 65, 368, 369, 67, 1303, 1304, 51]) (by decide +kernel)
theorem ixw_KT : ∀ w ∈ ixKT.flatMap (ix_wK (ixP .null)), w ∈ lw_tb2 := ixw_pl (ps := [831, 835, 924, 161, 754, 755, 1162, 1158]) (by decide +kernel)
theorem ixw_CT : ∀ w ∈ ixCT.flatMap (ix_wC (ixP .null)), w ∈ lw_tb2 := ixw_pl (ps := [61, 839, 840, 841, 51, 844, 111, 112, 51, 845, 121, 122, 61, 846, 847, 848, 61, 871, 872, 873, 50, 1279, 1280, 50, 1134, 1135, 1136, 50, 1238, 1239, 1240, 50, 1299, 1300, 1301, 53, 1088, 1089, 48, 832, 833, 48, 828, 829, 48, 1358, 1359, 48, 1372, 1373, 53, 761, 762, 763, 61, 639, 640, 641, 61, 1395, 1396, 1397, 61, 1400, 1401, 1402, 53, 1406, 813, 814, 61, 1407, 1408, 1409, 61, 1412, 1413, 1414, 48, 1417, 1418, 48, 1084, 1085, 61, 76, 77, 48, 836, 837, 48, 1391, 1392, 61, 448, 449, 450, 61, 551, 552, 553, 61, 572, 573, 574, 61, 579, 580, 581, 61, 621, 622, 623, 61, 746, 747, 748, 61, 626, 627, 628, 61, 750, 751, 752, 61, 724, 725, 726, 61, 708, 709, 710, 61, 736, 737, 738, 61, 742, 743, 744, 61, 728, 729, 730, 53, 804, 805, 806, 61, 1081, 1082, 61, 717, 718, 67, 666, 668, 10, 67, 674, 676, 12, 67, 687, 689, 15, 67, 695, 697, 16, 61, 460, 461, 67, 670, 672, 11, 67, 467, 468, 469, 67, 569, 570, 61, 601, 602, 67, 678, 566, 567, 67, 679, 681, 13, 67, 683, 685, 14, 66, 588, 589, 590, 67, 593, 595, 5, 67, 691, 585, 586, 67, 692, 693, 65, 699, 700, 701, 67, 704, 705, 706, 67, 483, 453, 454, 67, 479, 480, 481, 67, 475, 476, 477, 67, 635, 637, 9, 67, 597, 599, 6, 67, 604, 605, 67, 607, 609, 7, 67, 611, 613, 8, 61, 1025, 602, 61, 592, 461, 66, 194, 195, 61, 972, 602, 61, 703, 461, 64, 105, 106, 65, 188, 189, 65, 879, 880, 881, 64, 883, 884, 885, 61, 932, 461, 63, 933, 935, 23, 63, 973, 975, 30, 63, 981, 983, 31, 63, 989, 991, 32, 63, 997, 999, 33, 63, 1065, 1067, 47, 63, 941, 943, 25, 63, 937, 939, 24, 63, 945, 947, 26, 63, 960, 962, 28, 63, 964, 966, 29, 65, 968, 969, 970, 65, 977, 978, 979, 65, 985, 986, 987, 65, 993, 994, 995, 63, 1001, 1003, 34, 63, 1005, 1007, 35, 63, 1009, 1011, 36, 63, 1038, 1040, 42, 63, 1057, 1059, 46, 63, 955, 957, 27, 66, 1061, 1062, 1063, 61, 949, 950, 63, 952, 953, 61, 959, 930, 63, 1042, 1044, 43, 66, 1021, 1022, 1023, 63, 1046, 1048, 44, 63, 1030, 1032, 40, 63, 1050, 1052, 45, 63, 1054, 1055, 63, 1013, 1015, 37, 63, 1017, 1019, 38, 63, 1026, 1028, 39, 63, 1034, 1036, 41, 61, 870, 602, 61, 895, 461, 51, 110, 111, 112, 51, 120, 121, 122, 64, 158, 159, 64, 887, 889, 18, 64, 899, 901, 19, 61, 928, 602, 61, 929, 930, 62, 891, 892, 893, 64, 896, 897, 64, 903, 904, 64, 906, 908, 20, 64, 913, 914, 64, 920, 922, 22, 64, 925, 926, 64, 910, 911, 64, 916, 918, 21, 62, 84, 85, 63, 99, 100, 65, 367, 189, 67, 370, 371, 62, 866, 867, 868, 63, 875, 876, 877, 63, 1069, 1070, 1071, 63, 1073, 1074, 1075, 67, 1077, 1078, 1079, 67, 452, 453, 454, 67, 456, 457, 458, 67, 463, 464, 465, 67, 471, 472, 473, 61, 555, 556, 61, 559, 461, 67, 560, 468, 469, 67, 561, 562, 563, 67, 565, 566, 567, 67, 577, 480, 481, 67, 578, 476, 477, 67, 584, 585, 586, 67, 631, 632, 633, 61, 732, 733, 67, 1405, 705, 706, 61, 741, 602, 61, 643, 644, 67, 662, 663, 664, 67, 713, 714, 715, 61, 756, 449, 450, 61, 757, 552, 553, 61, 758, 573, 574, 61, 759, 580, 581, 61, 760, 622, 623, 53, 786, 787, 788, 53, 782, 783, 784, 53, 790, 791, 792, 53, 778, 779, 780, 53, 774, 775, 776, 53, 798, 799, 800, 53, 770, 771, 772, 53, 765, 767, 17, 53, 794, 795, 796, 53, 808, 809, 810, 53, 812, 813, 814, 53, 816, 817, 818, 61, 820, 449, 450, 61, 821, 573, 574, 61, 822, 552, 553, 61, 823, 580, 581, 61, 824, 622, 623, 61, 825, 627, 628, 61, 826, 747, 748, 51, 1196, 111, 112, 51, 1205, 115, 116, 49, 1175, 1177, 1178, 1176, 49, 1146, 1424, 0, 1148, 49, 1150, 1425, 1, 1152, 56, 1163, 1164, 54, 1154, 1155, 49, 1197, 1426, 2, 1199, 60, 1245, 1246, 60, 1248, 1249, 49, 1201, 1427, 3, 1203, 51, 1232, 1233, 1234, 56, 1326, 1327, 51, 114, 115, 116, 51, 1308, 1309, 51, 124, 125, 126, 59, 128, 129, 50, 1317, 1319, 1320, 1321, 1318, 49, 1312, 1314, 1315, 1313, 49, 1325, 1177, 1178, 1176, 58, 136, 137, 49, 1282, 1283, 49, 1138, 1422, 1139, 1140, 49, 1242, 1429, 1139, 1243, 51, 1305, 1306, 49, 1323, 1319, 1139, 1318, 51, 131, 132, 56, 1329, 1330]) (by decide +kernel)
theorem ixw_MT : ∀ w ∈ ixMT.tail.map ix_wM, w ∈ lw_tb2 := ixw_pl (ps := [372, 1080, 716, 665, 669, 677, 682, 686, 690, 587, 694, 698, 707, 673, 470, 568, 564, 455, 482, 478, 474, 459, 466, 634, 638, 571, 596, 614, 606, 600, 610, 196, 1024, 1064, 591, 190, 882, 971, 980, 988, 996, 702, 101, 878, 1072, 1076, 967, 940, 944, 958, 936, 976, 984, 992, 1000, 1068, 1004, 1060, 948, 1008, 954, 963, 1041, 1045, 1049, 1053, 1056, 1012, 1016, 1020, 1029, 1037, 1033, 86, 869, 894, 107, 886, 890, 902, 909, 923, 919, 160, 898, 905, 915, 912, 927, 78, 849, 842, 874, 451, 554, 575, 582, 624, 629, 1398, 1403, 1410, 1415, 642, 711, 727, 731, 739, 745, 749, 753, 557, 645, 734, 462, 951, 603, 931, 1083, 719, 1090, 789, 785, 781, 793, 801, 777, 773, 797, 769, 764, 811, 815, 819, 807, 1284, 1324, 1149, 1153, 1141, 1244, 1316, 1179, 1204, 1200, 1250, 1247, 1307, 113, 123, 1235, 1310, 117, 127, 133, 1281, 1137, 1241, 1302, 1322, 130, 1165, 1328, 1331, 1156, 138, 830, 834, 838, 1360, 1374, 1086, 1419, 1393]) (by decide +kernel)
theorem ixw_ST : ∀ w ∈ (ixST .null).flatMap (ix_wS (ixP .null)), w ∈ lw_tb2 := ixw_pl (ps := [1180, 1251, 1253, 118, 134]) (by decide +kernel)
theorem ixw_AT : ∀ w ∈ ixAT.flatMap (ix_wA (ixP .null)), w ∈ lw_tb2 := ixw_pl (ps := [1132, 1420, 1092, 1172]) (by decide +kernel)
theorem ixw_NV : ∀ w ∈ ixNV.flatMap (ix_wV (ixP .null)), w ∈ lw_tb2 := ixw_pl (ps := [373, 80, 81, 615, 616, 55, 617, 618, 619, 55, 620, 197, 80, 81, 191, 80, 81, 102, 80, 81, 87, 80, 81, 108, 80, 81, 79, 80, 81, 720, 616, 55, 617, 721, 723, 722, 57, 1091, 80, 81, 802, 616, 55, 617, 803, 619, 55, 620, 1285, 80, 81, 1311, 80, 81, 1236, 723, 722, 57, 1174, 723, 722, 57, 1173, 616, 55, 617, 1166, 1167, 1168, 1169, 1170, 1171, 1157, 619, 55, 620]) (by decide +kernel)
theorem ixw_XT : ∀ w ∈ ixXT.flatMap (ix_wX (ixP .null)), w ∈ lw_tb2 := by decide +kernel
theorem ixw_HT : ∀ w ∈ ixHT.flatMap (ix_wH (ixP .null)), w ∈ lw_tb2 := by decide +kernel
theorem ixw_PR : ∀ w ∈ ix_pr [.int, .long, .byte, .boolean, .byte, .array .int], w ∈ lw_tb2 := by decide +kernel
theorem ix_selp {y z : MethodName} {C : String} {s : State} {args : Array Value} (hy : y.cls ≠ "java/lang/invoke/MethodHandle" ∧ y.cls ≠ "java/lang/invoke/VarHandle") (hz : z.cls = y.cls) (hsel : (Cond.selects C z z).before args s = true) (hpriv : (Cond.privateMethod y).before args s = true) (hinst : (Cond.instanceMethod y).before args s = true) : (Cond.selects C y y).before args s = true := by
  obtain ⟨mk, methM, hnamed, hmethM, -, -⟩ := Cond.instanceMethod_spec hinst
  have hfound : s.methodFound? y.cls y.name y.desc = some mk := State.methodFound?_of_named hnamed hy
  have hcy := findClass_of_methodNamed hnamed
  unfold Cond.before Cond.holds at hsel
  simp only [Cond.value] at hsel
  cases hc : s.vm.findClass C with
  | none => simp [hc] at hsel
  | some c =>
  cases hzn : s.methodNamed? z with
  | none => simp [hc, hzn] at hsel
  | some mz =>
  cases hzf : s.methodFound? z.cls z.name z.desc with
  | none => simp [hc, hzn, hzf] at hsel
  | some rz =>
  have hcz := findClass_of_methodNamed hzn
  rw [hz, hcy] at hcz
  have hcls : mk.cls = mz.cls := Option.some.inj hcz
  have hint : (s.vm.classes[mk.cls]?).any (!·.isInterface) = true := by
    simp only [hc, hzn, hzf] at hsel
    rw [hcls]
    split at hsel
    · simp at hsel
      simpa using hsel.2
    · simp at hsel
  have hsm : selectMethod {} s.vm c mk = .method mk := selectMethod_private hmethM (Cond.privateMethod_at hpriv mk methM hnamed hmethM)
  unfold Cond.before Cond.holds
  simp only [Cond.value, hc, hfound, hnamed, hsm, hint]
  simp
theorem ixw_xs {s : State} {args : Array Value} (hts : ∀ w ∈ lw_tbl, w.before args s = true) : ∀ w ∈ lw_tb2, w.before args s = true := by
  intro w hw
  rcases List.mem_append.mp hw with hw | hw
  · obtain ⟨y, hy, rfl⟩ := List.mem_map.mp hw
    have h1 : ∀ y ∈ ixw_y, (y.cls = "java/lang/AbstractStringBuilder") ∧ Cond.privateMethod y ∈ lw_tbl ∧ Cond.instanceMethod y ∈ lw_tbl := by decide +kernel
    obtain ⟨g1, g2, g3⟩ := h1 y hy
    exact ix_selp (z := ⟨"java/lang/AbstractStringBuilder", "isLatin1", "()Z"⟩) ⟨by rw [g1]; decide, by rw [g1]; decide⟩ g1.symm (hts _ (by decide +kernel)) (hts _ g2) (hts _ g3)
  · exact hts w hw
