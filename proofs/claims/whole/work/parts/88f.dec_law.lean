theorem d_law_1039 : decode code 1039 = .ok (.iconst 1, 1) := by decide +kernel
theorem d_law_1040 : decode code 1040 = .ok (.iadd, 1) := by decide +kernel
theorem d_law_1041 : decode code 1041 = .ok (.iaload, 1) := by decide +kernel
theorem d_law_1042 : decode code 1042 = .ok (.aload_n 0, 1) := by decide +kernel
theorem d_law_1043 : decode code 1043 = .ok (.iload 4, 2) := by decide +kernel
theorem d_law_1045 : decode code 1045 = .ok (.iconst 2, 1) := by decide +kernel
theorem d_law_1046 : decode code 1046 = .ok (.iadd, 1) := by decide +kernel
theorem d_law_1047 : decode code 1047 = .ok (.iaload, 1) := by decide +kernel
theorem d_law_1048 : decode code 1048 = .ok (.invokevirtual 133, 3) := by decide +kernel
theorem d_law_1051 : decode code 1051 = .ok (.istore 6, 2) := by decide +kernel
theorem d_law_1053 : decode code 1053 = .ok (.aload_n 2, 1) := by decide +kernel
theorem d_law_1054 : decode code 1054 = .ok (.invokevirtual 77, 3) := by decide +kernel
theorem d_law_1057 : decode code 1057 = .ok (.iload 5, 2) := by decide +kernel
theorem d_law_1059 : decode code 1059 = .ok (.if_icmp .eq 5, 3) := by decide +kernel
theorem d_law_1062 : decode code 1062 = .ok (.iconst 0, 1) := by decide +kernel
theorem d_law_1063 : decode code 1063 = .ok (.ireturn, 1) := by decide +kernel
theorem d_law_1064 : decode code 1064 = .ok (.iload 5, 2) := by decide +kernel
theorem d_law_1066 : decode code 1066 = .ok (.ifCond .ne 15, 3) := by decide +kernel
theorem d_law_1069 : decode code 1069 = .ok (.aload_n 3, 1) := by decide +kernel
theorem d_law_1070 : decode code 1070 = .ok (.iconst 0, 1) := by decide +kernel
theorem d_law_1071 : decode code 1071 = .ok (.laload, 1) := by decide +kernel
theorem d_law_1072 : decode code 1072 = .ok (.iload 6, 2) := by decide +kernel
theorem d_law_1074 : decode code 1074 = .ok (.i2l, 1) := by decide +kernel
theorem d_law_1075 : decode code 1075 = .ok (.lcmp, 1) := by decide +kernel
theorem d_law_1076 : decode code 1076 = .ok (.ifCond .eq 5, 3) := by decide +kernel
theorem d_law_1079 : decode code 1079 = .ok (.iconst 0, 1) := by decide +kernel
theorem d_law_1080 : decode code 1080 = .ok (.ireturn, 1) := by decide +kernel
theorem d_law_1081 : decode code 1081 = .ok (.goto 96, 3) := by decide +kernel
theorem d_law_1084 : decode code 1084 = .ok (.aload_n 1, 1) := by decide +kernel
theorem d_law_1085 : decode code 1085 = .ok (.aload_n 0, 1) := by decide +kernel
theorem d_law_1086 : decode code 1086 = .ok (.iload 4, 2) := by decide +kernel
theorem d_law_1088 : decode code 1088 = .ok (.iconst 1, 1) := by decide +kernel
theorem d_law_1089 : decode code 1089 = .ok (.iadd, 1) := by decide +kernel
theorem d_law_1090 : decode code 1090 = .ok (.iaload, 1) := by decide +kernel
theorem d_law_1091 : decode code 1091 = .ok (.aload_n 0, 1) := by decide +kernel
theorem d_law_1092 : decode code 1092 = .ok (.iload 4, 2) := by decide +kernel
theorem d_law_1094 : decode code 1094 = .ok (.iconst 2, 1) := by decide +kernel
theorem d_law_1095 : decode code 1095 = .ok (.iadd, 1) := by decide +kernel
theorem d_law_1096 : decode code 1096 = .ok (.iaload, 1) := by decide +kernel
theorem d_law_1097 : decode code 1097 = .ok (.aload_n 0, 1) := by decide +kernel
theorem d_law_1098 : decode code 1098 = .ok (.iload 4, 2) := by decide +kernel
theorem d_law_1100 : decode code 1100 = .ok (.iconst 3, 1) := by decide +kernel
theorem d_law_1101 : decode code 1101 = .ok (.iadd, 1) := by decide +kernel
theorem d_law_1102 : decode code 1102 = .ok (.iaload, 1) := by decide +kernel
theorem d_law_1103 : decode code 1103 = .ok (.aload_n 3, 1) := by decide +kernel
theorem d_law_1104 : decode code 1104 = .ok (.invokestatic 134, 3) := by decide +kernel
theorem d_law_1107 : decode code 1107 = .ok (.istore 5, 2) := by decide +kernel
theorem d_law_1109 : decode code 1109 = .ok (.aload_n 2, 1) := by decide +kernel
theorem d_law_1110 : decode code 1110 = .ok (.aload_n 0, 1) := by decide +kernel
theorem d_law_1111 : decode code 1111 = .ok (.iload 4, 2) := by decide +kernel
theorem d_law_1113 : decode code 1113 = .ok (.iconst 1, 1) := by decide +kernel
theorem d_law_1114 : decode code 1114 = .ok (.iadd, 1) := by decide +kernel
theorem d_law_1115 : decode code 1115 = .ok (.iaload, 1) := by decide +kernel
theorem d_law_1116 : decode code 1116 = .ok (.aload_n 0, 1) := by decide +kernel
theorem d_law_1117 : decode code 1117 = .ok (.iload 4, 2) := by decide +kernel
theorem d_law_1119 : decode code 1119 = .ok (.iconst 2, 1) := by decide +kernel
theorem d_law_1120 : decode code 1120 = .ok (.iadd, 1) := by decide +kernel
theorem d_law_1121 : decode code 1121 = .ok (.iaload, 1) := by decide +kernel
theorem d_law_1122 : decode code 1122 = .ok (.aload_n 0, 1) := by decide +kernel
theorem d_law_1123 : decode code 1123 = .ok (.iload 4, 2) := by decide +kernel
theorem d_law_1125 : decode code 1125 = .ok (.iconst 3, 1) := by decide +kernel
theorem d_law_1126 : decode code 1126 = .ok (.iadd, 1) := by decide +kernel
theorem d_law_1127 : decode code 1127 = .ok (.iaload, 1) := by decide +kernel
theorem d_law_1128 : decode code 1128 = .ok (.invokevirtual 136, 3) := by decide +kernel
theorem d_law_1131 : decode code 1131 = .ok (.istore 6, 2) := by decide +kernel
theorem d_law_1133 : decode code 1133 = .ok (.aload_n 2, 1) := by decide +kernel
theorem d_law_1134 : decode code 1134 = .ok (.invokevirtual 77, 3) := by decide +kernel
theorem d_law_1137 : decode code 1137 = .ok (.iload 5, 2) := by decide +kernel
theorem d_law_1139 : decode code 1139 = .ok (.if_icmp .eq 5, 3) := by decide +kernel
theorem d_law_1142 : decode code 1142 = .ok (.iconst 0, 1) := by decide +kernel
theorem d_law_1143 : decode code 1143 = .ok (.ireturn, 1) := by decide +kernel
theorem d_law_1144 : decode code 1144 = .ok (.iload 5, 2) := by decide +kernel
theorem d_law_1146 : decode code 1146 = .ok (.ifCond .ne 15, 3) := by decide +kernel
theorem d_law_1149 : decode code 1149 = .ok (.aload_n 3, 1) := by decide +kernel
theorem d_law_1150 : decode code 1150 = .ok (.iconst 0, 1) := by decide +kernel
theorem d_law_1151 : decode code 1151 = .ok (.laload, 1) := by decide +kernel
theorem d_law_1152 : decode code 1152 = .ok (.iload 6, 2) := by decide +kernel
theorem d_law_1154 : decode code 1154 = .ok (.i2l, 1) := by decide +kernel
theorem d_law_1155 : decode code 1155 = .ok (.lcmp, 1) := by decide +kernel
theorem d_law_1156 : decode code 1156 = .ok (.ifCond .eq 5, 3) := by decide +kernel
theorem d_law_1159 : decode code 1159 = .ok (.iconst 0, 1) := by decide +kernel
theorem d_law_1160 : decode code 1160 = .ok (.ireturn, 1) := by decide +kernel
theorem d_law_1161 : decode code 1161 = .ok (.goto 16, 3) := by decide +kernel
theorem d_law_1164 : decode code 1164 = .ok (.aload_n 1, 1) := by decide +kernel
theorem d_law_1165 : decode code 1165 = .ok (.invokevirtual 137, 3) := by decide +kernel
theorem d_law_1168 : decode code 1168 = .ok (.aload_n 2, 1) := by decide +kernel
theorem d_law_1169 : decode code 1169 = .ok (.invokevirtual 140, 3) := by decide +kernel
theorem d_law_1172 : decode code 1172 = .ok (.if_icmp .eq 5, 3) := by decide +kernel
theorem d_law_1175 : decode code 1175 = .ok (.iconst 0, 1) := by decide +kernel
theorem d_law_1176 : decode code 1176 = .ok (.ireturn, 1) := by decide +kernel
theorem d_law_1177 : decode code 1177 = .ok (.iinc 4 4, 3) := by decide +kernel
theorem d_law_1180 : decode code 1180 = .ok (.goto (-1157), 3) := by decide +kernel
theorem d_law_1183 : decode code 1183 = .ok (.iconst 1, 1) := by decide +kernel
theorem d_law_1184 : decode code 1184 = .ok (.ireturn, 1) := by decide +kernel
