/-! THE START: the Statement's words give the small machine's (written by gen25.py). -/
def ixKS : List (String × Nat × String) := [("SkylightWash$Tokens", 25, "bay panes thick chimney at soot every reach cradle speed wash flock birds go to scare when hour wind light dirt crack water perch dark not and or min max"), ("SkylightWash", 225, "the pane was not let go"), ("SkylightWashLaw", 35, ""), ("SkylightWashLaw", 48, "at c"), ("SkylightWashLaw", 50, "+"), ("SkylightWashLaw", 52, "-3"), ("SkylightWashLaw", 54, "min(dirt("), ("SkylightWashLaw", 56, "),"), ("SkylightWashLaw", 58, ")-2"), ("SkylightWashLaw", 60, "max(perch f"), ("SkylightWashLaw", 62, ",0)*2/2"), ("SkylightWashLaw", 64, "hour-hour/9*9+wind"), ("SkylightWashLaw", 66, "-2+"), ("SkylightWashLaw", 68, " when hour>"), ("SkylightWashLaw", 70, "/4"), ("SkylightWashLaw", 72, " when dark b"), ("SkylightWashLaw", 74, " when not dark b"), ("SkylightWashLaw", 76, " when dirt("), ("SkylightWashLaw", 78, ")>="), ("SkylightWashLaw", 80, " when water c"), ("SkylightWashLaw", 82, "=0 or at c"), ("SkylightWashLaw", 84, ">"), ("SkylightWashLaw", 86, " when [light<"), ("SkylightWashLaw", 88, "*30 and wind>=0]or not hour="), ("SkylightWashLaw", 90, " when crack("), ("SkylightWashLaw", 92, ")*2 > "), ("SkylightWashLaw", 94, " - perch f"), ("SkylightWashLaw", 96, " when "), ("SkylightWashLaw", 98, "/2*2="), ("SkylightWashLaw", 119, "bay b"), ("SkylightWashLaw", 121, " panes "), ("SkylightWashLaw", 123, " thick "), ("SkylightWashLaw", 125, ";"), ("SkylightWashLaw", 133, "chimney k"), ("SkylightWashLaw", 135, " at "), ("SkylightWashLaw", 137, " soot "), ("SkylightWashLaw", 139, " every "), ("SkylightWashLaw", 141, " reach "), ("SkylightWashLaw", 143, " ;\n"), ("SkylightWashLaw", 148, "cradle c"), ("SkylightWashLaw", 150, " speed "), ("SkylightWashLaw", 152, " wash "), ("SkylightWashLaw", 157, "flock f"), ("SkylightWashLaw", 159, " birds "), ("SkylightWashLaw", 164, "scare f"), ("SkylightWashLaw", 166, "go c"), ("SkylightWashLaw", 168, " to ")]
def ixsN : Cond := Jvm.Cond.and given_1 narrow_1
theorem ixs_pl {ws : List Cond} {ps : List Nat} (h : ws = ps.filterMap (fun i => (flatC ixsN)[i]?)) : ∀ w ∈ ws, w ∈ flatC ixsN := fun w hw => by
  rw [h] at hw
  obtain ⟨i, -, hi⟩ := List.mem_filterMap.mp hw
  exact List.mem_of_getElem? hi
def ixsT (k : Nat) : Term := Term.string (ixKS.getD k ("", 0, "")).1 (ixKS.getD k ("", 0, "")).2.1
def ixsV (k : Nat) : Term := .field (ixsT k) "java/lang/String" "value" "[B"
def ixsB (k : Nat) : List Cond := .exactly (ixsT k) "java/lang/String" :: .eq (.field (ixsT k) "java/lang/String" "coder" "B") (.int 0) :: .arrayOf (ixsV k) .byte :: .eq (.length (ixsV k)) (.int (Int32.ofNat (ixS.getD k []).length)) :: (List.range (ixS.getD k []).length).map (fun j => .eq (.elem (ixsV k) (.int (Int32.ofNat j))) (.int ((ixS.getD k []).getD j 0)))
theorem ixs_b0 : ∀ w ∈ ixsB 0, w ∈ flatC ixsN := ixs_pl (ps := [229, 230, 231, 232, 233, 234, 235, 236, 237, 238, 239, 240, 241, 242, 243, 244, 245, 246, 247, 248, 249, 250, 251, 252, 253, 254, 255, 256, 257, 258, 259, 260, 261, 262, 263, 264, 265, 266, 267, 268, 269, 270, 271, 272, 273, 274, 275, 276, 277, 278, 279, 280, 281, 282, 283, 284, 285, 286, 287, 288, 289, 290, 291, 292, 293, 294, 295, 296, 297, 298, 299, 300, 301, 302, 303, 304, 305, 306, 307, 308, 309, 310, 311, 312, 313, 314, 315, 316, 317, 318, 319, 320, 321, 322, 323, 324, 325, 326, 327, 328, 329, 330, 331, 332, 333, 334, 335, 336, 337, 338, 339, 340, 341, 342, 343, 344, 345, 346, 347, 348, 349, 350, 351, 352, 353, 354, 355, 356, 357, 358, 359, 360, 361, 362, 363, 364, 365, 366, 367, 368, 369, 370, 371, 372, 373, 374, 375, 376, 377, 378, 379, 380, 381, 382, 383, 384, 385]) (by decide +kernel)
theorem ixs_b1 : ∀ w ∈ ixsB 1, w ∈ flatC ixsN := ixs_pl (ps := [1202, 1203, 1204, 1205, 1206, 1207, 1208, 1209, 1210, 1211, 1212, 1213, 1214, 1215, 1216, 1217, 1218, 1219, 1220, 1221, 1222, 1223, 1224, 1225, 1226, 1227, 1228]) (by decide +kernel)
theorem ixs_b2 : ∀ w ∈ ixsB 2, w ∈ flatC ixsN := ixs_pl (ps := [859, 860, 861, 862]) (by decide +kernel)
theorem ixs_b3 : ∀ w ∈ ixsB 3, w ∈ flatC ixsN := ixs_pl (ps := [863, 864, 865, 866, 867, 868, 869, 870]) (by decide +kernel)
theorem ixs_b4 : ∀ w ∈ ixsB 4, w ∈ flatC ixsN := ixs_pl (ps := [871, 872, 873, 874, 875]) (by decide +kernel)
theorem ixs_b5 : ∀ w ∈ ixsB 5, w ∈ flatC ixsN := ixs_pl (ps := [876, 877, 878, 879, 880, 881]) (by decide +kernel)
theorem ixs_b6 : ∀ w ∈ ixsB 6, w ∈ flatC ixsN := ixs_pl (ps := [882, 883, 884, 885, 886, 887, 888, 889, 890, 891, 892, 893, 894]) (by decide +kernel)
theorem ixs_b7 : ∀ w ∈ ixsB 7, w ∈ flatC ixsN := ixs_pl (ps := [895, 896, 897, 898, 899, 900]) (by decide +kernel)
theorem ixs_b8 : ∀ w ∈ ixsB 8, w ∈ flatC ixsN := ixs_pl (ps := [901, 902, 903, 904, 905, 906, 907]) (by decide +kernel)
theorem ixs_b9 : ∀ w ∈ ixsB 9, w ∈ flatC ixsN := ixs_pl (ps := [908, 909, 910, 911, 912, 913, 914, 915, 916, 917, 918, 919, 920, 921, 922]) (by decide +kernel)
theorem ixs_b10 : ∀ w ∈ ixsB 10, w ∈ flatC ixsN := ixs_pl (ps := [923, 924, 925, 926, 927, 928, 929, 930, 931, 932, 933]) (by decide +kernel)
theorem ixs_b11 : ∀ w ∈ ixsB 11, w ∈ flatC ixsN := ixs_pl (ps := [934, 935, 936, 937, 938, 939, 940, 941, 942, 943, 944, 945, 946, 947, 948, 949, 950, 951, 952, 953, 954, 955]) (by decide +kernel)
theorem ixs_b12 : ∀ w ∈ ixsB 12, w ∈ flatC ixsN := ixs_pl (ps := [956, 957, 958, 959, 960, 961, 962]) (by decide +kernel)
theorem ixs_b13 : ∀ w ∈ ixsB 13, w ∈ flatC ixsN := ixs_pl (ps := [963, 964, 965, 966, 967, 968, 969, 970, 971, 972, 973, 974, 975, 976, 977]) (by decide +kernel)
theorem ixs_b14 : ∀ w ∈ ixsB 14, w ∈ flatC ixsN := ixs_pl (ps := [978, 979, 980, 981, 982, 983]) (by decide +kernel)
theorem ixs_b15 : ∀ w ∈ ixsB 15, w ∈ flatC ixsN := ixs_pl (ps := [984, 985, 986, 987, 988, 989, 990, 991, 992, 993, 994, 995, 996, 997, 998, 999]) (by decide +kernel)
theorem ixs_b16 : ∀ w ∈ ixsB 16, w ∈ flatC ixsN := ixs_pl (ps := [1000, 1001, 1002, 1003, 1004, 1005, 1006, 1007, 1008, 1009, 1010, 1011, 1012, 1013, 1014, 1015, 1016, 1017, 1018, 1019]) (by decide +kernel)
theorem ixs_b17 : ∀ w ∈ ixsB 17, w ∈ flatC ixsN := ixs_pl (ps := [1020, 1021, 1022, 1023, 1024, 1025, 1026, 1027, 1028, 1029, 1030, 1031, 1032, 1033, 1034]) (by decide +kernel)
theorem ixs_b18 : ∀ w ∈ ixsB 18, w ∈ flatC ixsN := ixs_pl (ps := [1035, 1036, 1037, 1038, 1039, 1040, 1041]) (by decide +kernel)
theorem ixs_b19 : ∀ w ∈ ixsB 19, w ∈ flatC ixsN := ixs_pl (ps := [1042, 1043, 1044, 1045, 1046, 1047, 1048, 1049, 1050, 1051, 1052, 1053, 1054, 1055, 1056, 1057, 1058]) (by decide +kernel)
theorem ixs_b20 : ∀ w ∈ ixsB 20, w ∈ flatC ixsN := ixs_pl (ps := [1059, 1060, 1061, 1062, 1063, 1064, 1065, 1066, 1067, 1068, 1069, 1070, 1071, 1072]) (by decide +kernel)
theorem ixs_b21 : ∀ w ∈ ixsB 21, w ∈ flatC ixsN := ixs_pl (ps := [1073, 1074, 1075, 1076, 1077]) (by decide +kernel)
theorem ixs_b22 : ∀ w ∈ ixsB 22, w ∈ flatC ixsN := ixs_pl (ps := [1078, 1079, 1080, 1081, 1082, 1083, 1084, 1085, 1086, 1087, 1088, 1089, 1090, 1091, 1092, 1093, 1094]) (by decide +kernel)
theorem ixs_b23 : ∀ w ∈ ixsB 23, w ∈ flatC ixsN := ixs_pl (ps := [1095, 1096, 1097, 1098, 1099, 1100, 1101, 1102, 1103, 1104, 1105, 1106, 1107, 1108, 1109, 1110, 1111, 1112, 1113, 1114, 1115, 1116, 1117, 1118, 1119, 1120, 1121, 1122, 1123, 1124, 1125, 1126]) (by decide +kernel)
theorem ixs_b24 : ∀ w ∈ ixsB 24, w ∈ flatC ixsN := ixs_pl (ps := [1127, 1128, 1129, 1130, 1131, 1132, 1133, 1134, 1135, 1136, 1137, 1138, 1139, 1140, 1141, 1142]) (by decide +kernel)
theorem ixs_b25 : ∀ w ∈ ixsB 25, w ∈ flatC ixsN := ixs_pl (ps := [1143, 1144, 1145, 1146, 1147, 1148, 1149, 1150, 1151, 1152]) (by decide +kernel)
theorem ixs_b26 : ∀ w ∈ ixsB 26, w ∈ flatC ixsN := ixs_pl (ps := [1153, 1154, 1155, 1156, 1157, 1158, 1159, 1160, 1161, 1162, 1163, 1164, 1165, 1166]) (by decide +kernel)
theorem ixs_b27 : ∀ w ∈ ixsB 27, w ∈ flatC ixsN := ixs_pl (ps := [1167, 1168, 1169, 1170, 1171, 1172, 1173, 1174, 1175, 1176]) (by decide +kernel)
theorem ixs_b28 : ∀ w ∈ ixsB 28, w ∈ flatC ixsN := ixs_pl (ps := [1177, 1178, 1179, 1180, 1181, 1182, 1183, 1184, 1185]) (by decide +kernel)
theorem ixs_b29 : ∀ w ∈ ixsB 29, w ∈ flatC ixsN := ixs_pl (ps := [681, 682, 683, 684, 685, 686, 687, 688, 689]) (by decide +kernel)
theorem ixs_b30 : ∀ w ∈ ixsB 30, w ∈ flatC ixsN := ixs_pl (ps := [690, 691, 692, 693, 694, 695, 696, 697, 698, 699, 700]) (by decide +kernel)
theorem ixs_b31 : ∀ w ∈ ixsB 31, w ∈ flatC ixsN := ixs_pl (ps := [701, 702, 703, 704, 705, 706, 707, 708, 709, 710, 711]) (by decide +kernel)
theorem ixs_b32 : ∀ w ∈ ixsB 32, w ∈ flatC ixsN := ixs_pl (ps := [712, 713, 714, 715, 716]) (by decide +kernel)
theorem ixs_b33 : ∀ w ∈ ixsB 33, w ∈ flatC ixsN := ixs_pl (ps := [717, 718, 719, 720, 721, 722, 723, 724, 725, 726, 727, 728, 729]) (by decide +kernel)
theorem ixs_b34 : ∀ w ∈ ixsB 34, w ∈ flatC ixsN := ixs_pl (ps := [730, 731, 732, 733, 734, 735, 736, 737]) (by decide +kernel)
theorem ixs_b35 : ∀ w ∈ ixsB 35, w ∈ flatC ixsN := ixs_pl (ps := [738, 739, 740, 741, 742, 743, 744, 745, 746, 747]) (by decide +kernel)
theorem ixs_b36 : ∀ w ∈ ixsB 36, w ∈ flatC ixsN := ixs_pl (ps := [748, 749, 750, 751, 752, 753, 754, 755, 756, 757, 758]) (by decide +kernel)
theorem ixs_b37 : ∀ w ∈ ixsB 37, w ∈ flatC ixsN := ixs_pl (ps := [759, 760, 761, 762, 763, 764, 765, 766, 767, 768, 769]) (by decide +kernel)
theorem ixs_b38 : ∀ w ∈ ixsB 38, w ∈ flatC ixsN := ixs_pl (ps := [770, 771, 772, 773, 774, 775, 776]) (by decide +kernel)
theorem ixs_b39 : ∀ w ∈ ixsB 39, w ∈ flatC ixsN := ixs_pl (ps := [777, 778, 779, 780, 781, 782, 783, 784, 785, 786, 787, 788]) (by decide +kernel)
theorem ixs_b40 : ∀ w ∈ ixsB 40, w ∈ flatC ixsN := ixs_pl (ps := [789, 790, 791, 792, 793, 794, 795, 796, 797, 798, 799]) (by decide +kernel)
theorem ixs_b41 : ∀ w ∈ ixsB 41, w ∈ flatC ixsN := ixs_pl (ps := [800, 801, 802, 803, 804, 805, 806, 807, 808, 809]) (by decide +kernel)
theorem ixs_b42 : ∀ w ∈ ixsB 42, w ∈ flatC ixsN := ixs_pl (ps := [810, 811, 812, 813, 814, 815, 816, 817, 818, 819, 820]) (by decide +kernel)
theorem ixs_b43 : ∀ w ∈ ixsB 43, w ∈ flatC ixsN := ixs_pl (ps := [821, 822, 823, 824, 825, 826, 827, 828, 829, 830, 831]) (by decide +kernel)
theorem ixs_b44 : ∀ w ∈ ixsB 44, w ∈ flatC ixsN := ixs_pl (ps := [832, 833, 834, 835, 836, 837, 838, 839, 840, 841, 842]) (by decide +kernel)
theorem ixs_b45 : ∀ w ∈ ixsB 45, w ∈ flatC ixsN := ixs_pl (ps := [843, 844, 845, 846, 847, 848, 849, 850]) (by decide +kernel)
theorem ixs_b46 : ∀ w ∈ ixsB 46, w ∈ flatC ixsN := ixs_pl (ps := [851, 852, 853, 854, 855, 856, 857, 858]) (by decide +kernel)
theorem ixs_B (i : Nat) (hi : i < 47) : ∀ w ∈ ixsB i, w ∈ flatC ixsN := by
  match i, hi with
  | 0, _ => exact ixs_b0
  | 1, _ => exact ixs_b1
  | 2, _ => exact ixs_b2
  | 3, _ => exact ixs_b3
  | 4, _ => exact ixs_b4
  | 5, _ => exact ixs_b5
  | 6, _ => exact ixs_b6
  | 7, _ => exact ixs_b7
  | 8, _ => exact ixs_b8
  | 9, _ => exact ixs_b9
  | 10, _ => exact ixs_b10
  | 11, _ => exact ixs_b11
  | 12, _ => exact ixs_b12
  | 13, _ => exact ixs_b13
  | 14, _ => exact ixs_b14
  | 15, _ => exact ixs_b15
  | 16, _ => exact ixs_b16
  | 17, _ => exact ixs_b17
  | 18, _ => exact ixs_b18
  | 19, _ => exact ixs_b19
  | 20, _ => exact ixs_b20
  | 21, _ => exact ixs_b21
  | 22, _ => exact ixs_b22
  | 23, _ => exact ixs_b23
  | 24, _ => exact ixs_b24
  | 25, _ => exact ixs_b25
  | 26, _ => exact ixs_b26
  | 27, _ => exact ixs_b27
  | 28, _ => exact ixs_b28
  | 29, _ => exact ixs_b29
  | 30, _ => exact ixs_b30
  | 31, _ => exact ixs_b31
  | 32, _ => exact ixs_b32
  | 33, _ => exact ixs_b33
  | 34, _ => exact ixs_b34
  | 35, _ => exact ixs_b35
  | 36, _ => exact ixs_b36
  | 37, _ => exact ixs_b37
  | 38, _ => exact ixs_b38
  | 39, _ => exact ixs_b39
  | 40, _ => exact ixs_b40
  | 41, _ => exact ixs_b41
  | 42, _ => exact ixs_b42
  | 43, _ => exact ixs_b43
  | 44, _ => exact ixs_b44
  | 45, _ => exact ixs_b45
  | 46, _ => exact ixs_b46
  | k + 47, h => exact absurd h (by omega)
def ixsR (k : Nat) : Cond := .stringRef (ixKS.getD k ("", 0, "")).1 (ixKS.getD k ("", 0, "")).2.1 (ixKS.getD k ("", 0, "")).2.2
theorem ixs_R : ∀ w ∈ (List.range 47).map ixsR, w ∈ lw_tb2 := ixw_pl (ps := [109, 1404, 1361, 1362, 1363, 1364, 1365, 1366, 1367, 1368, 1369, 1370, 1371, 1375, 1376, 1377, 1378, 1379, 1380, 1381, 1382, 1383, 1384, 1385, 1386, 1387, 1388, 1389, 1390, 1133, 1263, 1264, 1265, 1266, 1267, 1268, 1269, 1270, 1271, 1272, 1273, 1274, 1275, 1276, 1298, 1356, 1357]) (by decide +kernel)
theorem ixs_I : ∀ w ∈ [Cond.instantiable "SkylightWash$Arcade" 15, Cond.instantiable "SkylightWash$Orders" 9, Cond.instantiable "SkylightWash$Plan" 19, Cond.instantiable "SkylightWash$Reader" 11, Cond.instantiable "SkylightWash$Tape" 2, Cond.instantiable "SkylightWash$Tokens" 6, Cond.instantiable "SkylightWash" 5, Cond.instantiable "SkylightWashLaw$Sim" 10, Cond.instantiable "java/lang/String" 4, Cond.instantiable "java/lang/StringBuilder" 4, Cond.instantiable "java/lang/IllegalStateException" 6], w ∈ lw_tb2 := ixw_pl (ps := [369, 193, 187, 98, 83, 104, 75, 768, 1304, 1278, 851]) (by decide +kernel)
def ixsD (n : String) : Term := .static "java/lang/Integer" n "[B"
def ixsG (n : String) (l : List Int32) : List Cond := .arrayOf (ixsD n) .byte :: .eq (.length (ixsD n)) (.int 100) :: (List.range 100).map (fun j => .eq (.elem (ixsD n) (.int (Int32.ofNat j))) (.int (l.getD j 0)))
theorem ixs_G : ∀ w ∈ ixsG "DigitOnes" ixD1 ++ ixsG "DigitTens" ixD2, w ∈ flatC ixsN := ixs_pl (ps := [12, 13, 14, 15, 16, 17, 18, 19, 20, 21, 22, 23, 24, 25, 26, 27, 28, 29, 30, 31, 32, 33, 34, 35, 36, 37, 38, 39, 40, 41, 42, 43, 44, 45, 46, 47, 48, 49, 50, 51, 52, 53, 54, 55, 56, 57, 58, 59, 60, 61, 62, 63, 64, 65, 66, 67, 68, 69, 70, 71, 72, 73, 74, 75, 76, 77, 78, 79, 80, 81, 82, 83, 84, 85, 86, 87, 88, 89, 90, 91, 92, 93, 94, 95, 96, 97, 98, 99, 100, 101, 102, 103, 104, 105, 106, 107, 108, 109, 110, 111, 112, 113, 115, 116, 117, 118, 119, 120, 121, 122, 123, 124, 125, 126, 127, 128, 129, 130, 131, 132, 133, 134, 135, 136, 137, 138, 139, 140, 141, 142, 143, 144, 145, 146, 147, 148, 149, 150, 151, 152, 153, 154, 155, 156, 157, 158, 159, 160, 161, 162, 163, 164, 165, 166, 167, 168, 169, 170, 171, 172, 173, 174, 175, 176, 177, 178, 179, 180, 181, 182, 183, 184, 185, 186, 187, 188, 189, 190, 191, 192, 193, 194, 195, 196, 197, 198, 199, 200, 201, 202, 203, 204, 205, 206, 207, 208, 209, 210, 211, 212, 213, 214, 215, 216]) (by decide +kernel)
theorem ixs_M : ∀ w ∈ [Cond.eq (.static "java/lang/String" "COMPACT_STRINGS" "Z") (.int 1), .isRef (.static "jdk/internal/util/Preconditions" "SIOOBE_FORMATTER" "Ljava/util/function/BiFunction;"), .isRef (.static "java/lang/Throwable" "UNASSIGNED_STACK" "[Ljava/lang/StackTraceElement;"), .isRef (.static "java/lang/Throwable" "SUPPRESSED_SENTINEL" "Ljava/util/List;")], w ∈ flatC ixsN := ixs_pl (ps := [4, 5, 9, 10]) (by decide +kernel)
theorem ixs_S : ∀ w ∈ [Cond.laysStatic "java/lang/String" "COMPACT_STRINGS" "Z", .initialized "java/lang/String", Cond.laysStatic "java/lang/Integer" "DigitOnes" "[B", .initialized "java/lang/Integer", Cond.laysStatic "java/lang/Integer" "DigitTens" "[B", .initialized "java/lang/Integer", Cond.laysStatic "jdk/internal/util/Preconditions" "SIOOBE_FORMATTER" "Ljava/util/function/BiFunction;", .initialized "jdk/internal/util/Preconditions", Cond.laysStatic "java/lang/Throwable" "UNASSIGNED_STACK" "[Ljava/lang/StackTraceElement;", .initialized "java/lang/Throwable", Cond.laysStatic "java/lang/Throwable" "SUPPRESSED_SENTINEL" "Ljava/util/List;", .initialized "java/lang/Throwable"], w ∈ lw_tb2 := ixw_pl (ps := [119, 51, 1252, 60, 1254, 60, 135, 58, 511, 68, 513, 68]) (by decide +kernel)
theorem ixs_K {s : State} {args : Array Value} (fv : Value) (hts : ∀ w ∈ lw_tb2, w.before args s = true) : ∃ (D : va_G) (cA : Nat → ClassId), va_K D (ix_CL (ixP fv)) (ix_ty (ixP fv) cA) s := by
  have h1 : ∀ c : Nat, ∃ q : ClassId × (Nat → Nat), ∀ r : vw_C, ixCL[c]? = some r → u_Kn s r.1 r.2.1 r.2.2 q.1 q.2 := by
    intro c
    cases hr : ixCL[c]? with
    | none => exact ⟨(0, fun _ => 0), fun r h => by cases h⟩
    | some r =>
      have hm := List.mem_of_getElem? hr
      have hi : ∃ n, Cond.instantiable r.1 n ∈ lw_tb2 := by
        have g : ∀ r ∈ ixCL, ∃ n, Cond.instantiable r.1 n ∈ lw_tb2 := by
          unfold ixCL
          simp only [List.forall_mem_cons]
          exact ⟨⟨15, ixs_I _ (by simp)⟩, ⟨9, ixs_I _ (by simp)⟩, ⟨19, ixs_I _ (by simp)⟩, ⟨11, ixs_I _ (by simp)⟩, ⟨2, ixs_I _ (by simp)⟩, ⟨6, ixs_I _ (by simp)⟩, ⟨5, ixs_I _ (by simp)⟩, ⟨10, ixs_I _ (by simp)⟩, ⟨4, ixs_I _ (by simp)⟩, ⟨4, ixs_I _ (by simp)⟩, ⟨6, ixs_I _ (by simp)⟩, fun x hx => absurd hx List.not_mem_nil⟩
        exact g r hm
      obtain ⟨n, hn⟩ := hi
      obtain ⟨cC, iS, hK⟩ := u_known hts (fun w hw => ixw_CL w (List.mem_flatMap.mpr ⟨r, hm, hw⟩)) (hts _ hn)
      exact ⟨(cC, iS), fun r' h => by cases h; exact hK⟩
  have hpr : ∀ w ∈ ix_pr [.int, .long, .byte, .boolean, .byte, .array .int], w.before args s = true := fun w hw => hts w (ixw_PR w hw)
  have h2 : ∀ k : Nat, ∃ c : ClassId, ∀ ty : FieldType, ([.int, .long, .byte, .boolean, .byte, .array .int] : List FieldType)[k]? = some ty → ArrOfT s c ty ∧ va_RA s c ty := by
    intro k
    match k with
    | 0 =>
      obtain ⟨cA, kA, comp, e1, e2, e3⟩ := Cond.arrayClass_spec (hpr (.arrayClass .int) (by decide +kernel))
      exact ⟨cA, fun ty h => by cases h; exact ⟨fun n z => ⟨fun k h => (by cases h), kA, e2, comp, e3⟩, e1⟩⟩
    | 1 =>
      obtain ⟨cA, kA, comp, e1, e2, e3⟩ := Cond.arrayClass_spec (hpr (.arrayClass .long) (by decide +kernel))
      exact ⟨cA, fun ty h => by cases h; exact ⟨fun n z => ⟨fun k h => (by cases h), kA, e2, comp, e3⟩, e1⟩⟩
    | 2 =>
      obtain ⟨cA, kA, comp, e1, e2, e3⟩ := Cond.arrayClass_spec (hpr (.arrayClass .byte) (by decide +kernel))
      exact ⟨cA, fun ty h => by cases h; exact ⟨fun n z => ⟨fun k h => (by cases h), kA, e2, comp, e3⟩, e1⟩⟩
    | 3 =>
      obtain ⟨cA, kA, comp, e1, e2, e3⟩ := Cond.arrayClass_spec (hpr (.arrayClass .boolean) (by decide +kernel))
      exact ⟨cA, fun ty h => by cases h; exact ⟨fun n z => ⟨fun k h => (by cases h), kA, e2, comp, e3⟩, e1⟩⟩
    | 4 =>
      obtain ⟨cA, kA, comp, e1, e2, e3⟩ := Cond.arrayClass_spec (hpr (.arrayClass .byte) (by decide +kernel))
      exact ⟨cA, fun ty h => by cases h; exact ⟨fun n z => ⟨fun k h => (by cases h), kA, e2, comp, e3⟩, e1⟩⟩
    | 5 =>
      obtain ⟨comp, cA, kA, -, -, e2, e3, e1⟩ := arrayOverA_spec (hpr (.arrayOver (.array .int)) (by decide +kernel))
      exact ⟨cA, fun ty h => by cases h; exact ⟨fun n z => ⟨fun k h => (by cases h), kA, e2, comp, e3⟩, e1⟩⟩
    | k + 6 => exact ⟨0, fun ty h => by simp at h⟩
  obtain ⟨D, hD⟩ := Classical.axiomOfChoice h1
  obtain ⟨cA, hcA⟩ := Classical.axiomOfChoice h2
  refine ⟨(fun c => (D c).1, fun c => (D c).2), cA, fun c r h => hD c r h, fun k q hk => ?_⟩
  simp only [ix_ty, List.getElem?_mapIdx, Option.map_eq_some_iff] at hk
  obtain ⟨ty, e1, rfl⟩ := hk
  exact hcA k ty e1
/-- where the old cells are -/
def ixs_ad (b : Nat) (K V : Nat → Nat) (o t f : Nat) (k : Nat) : Nat := if k = 0 then b else if k = 95 then o else if k = 96 then t else if k = 97 then f else if k % 2 = 1 then K (k / 2) else V (k / 2 - 1)
theorem ixs_fm (n : Nat) : ((List.range n).flatMap ixSc).length = 2 * n ∧ ∀ (k : Nat) (x : ix_C), ((List.range n).flatMap ixSc)[k]? = some x → ∃ i, i < n ∧ ((k = 2 * i ∧ x = .inr (8, [.ref (2 * i + 2), .int 0])) ∨ (k = 2 * i + 1 ∧ x = .inl (2, (ixS.getD i []).length, .inl (fun j => (ixS.getD i []).getD j 0)))) := by
  induction n with
  | zero => exact ⟨rfl, fun k x h => by simp at h⟩
  | succ n ih =>
    rw [List.range_succ, List.flatMap_append]
    refine ⟨by rw [List.length_append, ih.1]; simp [ixSc]; omega, fun k x h => ?_⟩
    rcases Nat.lt_or_ge k (2 * n) with g | g
    · rw [List.getElem?_append_left (by rw [ih.1]; exact g)] at h
      obtain ⟨i, h1, h2⟩ := ih.2 k x h
      exact ⟨i, by omega, h2⟩
    · rw [List.getElem?_append_right (by rw [ih.1]; exact g), ih.1] at h
      refine ⟨n, by omega, ?_⟩
      simp only [List.flatMap_cons, List.flatMap_nil, List.append_nil, ixSc] at h
      match hk : k - 2 * n with
      | 0 => rw [hk] at h; cases h; exact Or.inl ⟨by omega, rfl⟩
      | 1 => rw [hk] at h; cases h; exact Or.inr ⟨by omega, rfl⟩
      | m + 2 => rw [hk] at h; simp at h
theorem ixs_str {s : State} {args : Array Value} {A : Nat → Prop} (hN : ∀ w ∈ flatC ixsN, w.before args s = true) (hA : ∀ a : Nat, a < s.heap.size → ¬ A a) : ∃ K V : Nat → Nat, ∀ i, i < 47 → (ixsT i).eval args s none [] s = some (.ref (K i)) ∧ va_O "java/lang/String" (K i) A s s.heap ∧ va_OF "java/lang/String" "coder" "B" (.int 0) (K i) A s s.heap ∧ va_OF "java/lang/String" "value" "[B" (.ref (V i)) (K i) A s s.heap ∧ va_T .byte (V i) (ixS.getD i []).length (fun j => .int ((ixS.getD i []).getD j 0)) A s s.heap := by
  have h0 : ∀ i : Nat, ∃ q : Nat × Nat, i < 47 → (ixsT i).eval args s none [] s = some (.ref q.1) ∧ va_O "java/lang/String" q.1 A s s.heap ∧ va_OF "java/lang/String" "coder" "B" (.int 0) q.1 A s s.heap ∧ va_OF "java/lang/String" "value" "[B" (.ref q.2) q.1 A s s.heap ∧ va_T .byte q.2 (ixS.getD i []).length (fun j => .int ((ixS.getD i []).getD j 0)) A s s.heap := by
    intro i
    by_cases hi : i < 47
    · have hb : ∀ w ∈ ixsB i, w.before args s = true := fun w hw => hN w (ixs_B i hi w hw)
      have hlen : ∀ i, i < 47 → (ixS.getD i []).length < 2 ^ 31 := by decide +kernel
      have g1 : ∀ j, j < 1 → ([(ixS.getD i []).length] : List Nat).getD j 0 < 2 ^ 31 := fun j hj => by
        have e : j = 0 := by omega
        subst e
        exact hlen i hi
      have g2 : ∀ j, j < 1 → (Cond.eq (.length (.field (ixsT i) "java/lang/String" "value" "[B")) (.int (Int32.ofNat (([(ixS.getD i []).length] : List Nat).getD j 0)))).before args s = true := fun j hj => by
        have e : j = 0 := by omega
        subst e
        exact hb _ (List.mem_cons_of_mem _ (List.mem_cons_of_mem _ (List.mem_cons_of_mem _ List.mem_cons_self)))
      have g3 : ∀ j, j < 1 → ∀ k : Nat, k < ([(ixS.getD i []).length] : List Nat).getD j 0 → (Cond.eq (.elem (.field (ixsT i) "java/lang/String" "value" "[B") (.int (Int32.ofNat k))) (.int ((([ixS.getD i []] : List (List Int32)).getD j []).getD k 0))).before args s = true := fun j hj k hk => by
        have e : j = 0 := by omega
        subst e
        exact hb _ (List.mem_cons_of_mem _ (List.mem_cons_of_mem _ (List.mem_cons_of_mem _ (List.mem_cons_of_mem _ (List.mem_map.mpr ⟨k, List.mem_range.mpr hk, rfl⟩)))))
      obtain ⟨K, V, hS, hK⟩ := vk_Sof (N := 1) (tm := fun _ => ixsT i) (len := [(ixS.getD i []).length]) (byt := [ixS.getD i []]) (A := A) g1 (fun _ _ => hb _ List.mem_cons_self) (fun _ _ => hb _ (List.mem_cons_of_mem _ List.mem_cons_self)) (fun _ _ => hb _ (List.mem_cons_of_mem _ (List.mem_cons_of_mem _ List.mem_cons_self))) g2 g3 (fun j k hj hk hne => absurd (show j = k by omega) hne) hA
      obtain ⟨a1, a2, a3, a4⟩ := hS.1 0 (by omega)
      exact ⟨(K 0, V 0), fun _ => ⟨hK 0 (by omega), a1, a2, a3, a4⟩⟩
    · exact ⟨(0, 0), fun h => absurd h hi⟩
  obtain ⟨f, hf⟩ := Classical.axiomOfChoice h0
  exact ⟨fun i => (f i).1, fun i => (f i).2, hf⟩
