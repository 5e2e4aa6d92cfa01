theorem dL_law_1007 : decode cL_law 1007 = .ok (.iload 20, 2) := by decide +kernel
theorem dL_law_1009 : decode cL_law 1009 = .ok (.aaload, 1) := by decide +kernel
theorem dL_law_1010 : decode cL_law 1010 = .ok (.iload 22, 2) := by decide +kernel
theorem dL_law_1012 : decode cL_law 1012 = .ok (.iaload, 1) := by decide +kernel
theorem dL_law_1013 : decode cL_law 1013 = .ok (.if_icmp .ne 62, 3) := by decide +kernel
theorem dL_law_1016 : decode cL_law 1016 = .ok (.aload_n 1, 1) := by decide +kernel
theorem dL_law_1017 : decode cL_law 1017 = .ok (.iload 20, 2) := by decide +kernel
theorem dL_law_1019 : decode cL_law 1019 = .ok (.iload 22, 2) := by decide +kernel
theorem dL_law_1021 : decode cL_law 1021 = .ok (.iconst 1, 1) := by decide +kernel
theorem dL_law_1022 : decode cL_law 1022 = .ok (.invokevirtual 117, 3) := by decide +kernel
theorem dL_law_1025 : decode cL_law 1025 = .ok (.aload 8, 2) := by decide +kernel
theorem dL_law_1027 : decode cL_law 1027 = .ok (.iload 20, 2) := by decide +kernel
theorem dL_law_1029 : decode cL_law 1029 = .ok (.aaload, 1) := by decide +kernel
theorem dL_law_1030 : decode cL_law 1030 = .ok (.iload 22, 2) := by decide +kernel
theorem dL_law_1032 : decode cL_law 1032 = .ok (.iaload, 1) := by decide +kernel
theorem dL_law_1033 : decode cL_law 1033 = .ok (.aload 10, 2) := by decide +kernel
theorem dL_law_1035 : decode cL_law 1035 = .ok (.iload 20, 2) := by decide +kernel
theorem dL_law_1037 : decode cL_law 1037 = .ok (.aaload, 1) := by decide +kernel
theorem dL_law_1038 : decode cL_law 1038 = .ok (.iload 22, 2) := by decide +kernel
theorem dL_law_1040 : decode cL_law 1040 = .ok (.iaload, 1) := by decide +kernel
theorem dL_law_1041 : decode cL_law 1041 = .ok (.iconst 4, 1) := by decide +kernel
theorem dL_law_1042 : decode cL_law 1042 = .ok (.idiv, 1) := by decide +kernel
theorem dL_law_1043 : decode cL_law 1043 = .ok (.iadd, 1) := by decide +kernel
theorem dL_law_1044 : decode cL_law 1044 = .ok (.if_icmp .ne 31, 3) := by decide +kernel
theorem dL_law_1047 : decode cL_law 1047 = .ok (.aload 10, 2) := by decide +kernel
theorem dL_law_1049 : decode cL_law 1049 = .ok (.iload 20, 2) := by decide +kernel
theorem dL_law_1051 : decode cL_law 1051 = .ok (.aaload, 1) := by decide +kernel
theorem dL_law_1052 : decode cL_law 1052 = .ok (.iload 22, 2) := by decide +kernel
theorem dL_law_1054 : decode cL_law 1054 = .ok (.iaload, 1) := by decide +kernel
theorem dL_law_1055 : decode cL_law 1055 = .ok (.aload 9, 2) := by decide +kernel
theorem dL_law_1057 : decode cL_law 1057 = .ok (.iload 20, 2) := by decide +kernel
theorem dL_law_1059 : decode cL_law 1059 = .ok (.aaload, 1) := by decide +kernel
theorem dL_law_1060 : decode cL_law 1060 = .ok (.iload 22, 2) := by decide +kernel
theorem dL_law_1062 : decode cL_law 1062 = .ok (.iaload, 1) := by decide +kernel
theorem dL_law_1063 : decode cL_law 1063 = .ok (.aload 8, 2) := by decide +kernel
theorem dL_law_1065 : decode cL_law 1065 = .ok (.iload 20, 2) := by decide +kernel
theorem dL_law_1067 : decode cL_law 1067 = .ok (.aaload, 1) := by decide +kernel
theorem dL_law_1068 : decode cL_law 1068 = .ok (.iload 22, 2) := by decide +kernel
theorem dL_law_1070 : decode cL_law 1070 = .ok (.iaload, 1) := by decide +kernel
theorem dL_law_1071 : decode cL_law 1071 = .ok (.isub, 1) := by decide +kernel
theorem dL_law_1072 : decode cL_law 1072 = .ok (.if_icmp .le 54, 3) := by decide +kernel
theorem dL_law_1075 : decode cL_law 1075 = .ok (.iconst 0, 1) := by decide +kernel
theorem dL_law_1076 : decode cL_law 1076 = .ok (.ireturn, 1) := by decide +kernel
theorem dL_law_1077 : decode cL_law 1077 = .ok (.iload 21, 2) := by decide +kernel
theorem dL_law_1079 : decode cL_law 1079 = .ok (.ifCond .eq 14, 3) := by decide +kernel
theorem dL_law_1082 : decode cL_law 1082 = .ok (.aload_n 1, 1) := by decide +kernel
theorem dL_law_1083 : decode cL_law 1083 = .ok (.iload 22, 2) := by decide +kernel
theorem dL_law_1085 : decode cL_law 1085 = .ok (.bipush 6, 2) := by decide +kernel
theorem dL_law_1087 : decode cL_law 1087 = .ok (.invokevirtual 114, 3) := by decide +kernel
theorem dL_law_1090 : decode cL_law 1090 = .ok (.ifCond .ne 36, 3) := by decide +kernel
theorem dL_law_1093 : decode cL_law 1093 = .ok (.iinc 18 1, 3) := by decide +kernel
theorem dL_law_1096 : decode cL_law 1096 = .ok (.aload 10, 2) := by decide +kernel
theorem dL_law_1098 : decode cL_law 1098 = .ok (.iload 20, 2) := by decide +kernel
theorem dL_law_1100 : decode cL_law 1100 = .ok (.aaload, 1) := by decide +kernel
theorem dL_law_1101 : decode cL_law 1101 = .ok (.iload 22, 2) := by decide +kernel
theorem dL_law_1103 : decode cL_law 1103 = .ok (.iaload, 1) := by decide +kernel
theorem dL_law_1104 : decode cL_law 1104 = .ok (.aload 9, 2) := by decide +kernel
theorem dL_law_1106 : decode cL_law 1106 = .ok (.iload 20, 2) := by decide +kernel
theorem dL_law_1108 : decode cL_law 1108 = .ok (.aaload, 1) := by decide +kernel
theorem dL_law_1109 : decode cL_law 1109 = .ok (.iload 22, 2) := by decide +kernel
