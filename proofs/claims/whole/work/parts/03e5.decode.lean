theorem d_law_1019 : decode code 1019 = .ok (.iconst 0, 1) := by decide +kernel
theorem d_law_1020 : decode code 1020 = .ok (.daload, 1) := by decide +kernel
theorem d_law_1021 : decode code 1021 = .ok (.dcmp .l, 1) := by decide +kernel
theorem d_law_1022 : decode code 1022 = .ok (.ifCond .eq 11, 3) := by decide +kernel
theorem d_law_1025 : decode code 1025 = .ok (.dload 7, 2) := by decide +kernel
theorem d_law_1027 : decode code 1027 = .ok (.dload 7, 2) := by decide +kernel
theorem d_law_1029 : decode code 1029 = .ok (.dcmp .l, 1) := by decide +kernel
theorem d_law_1030 : decode code 1030 = .ok (.ifCond .ne 5, 3) := by decide +kernel
theorem d_law_1033 : decode code 1033 = .ok (.iconst 0, 1) := by decide +kernel
theorem d_law_1034 : decode code 1034 = .ok (.ireturn, 1) := by decide +kernel
theorem d_law_1035 : decode code 1035 = .ok (.goto 139, 3) := by decide +kernel
theorem d_law_1038 : decode code 1038 = .ok (.aload_n 1, 1) := by decide +kernel
theorem d_law_1039 : decode code 1039 = .ok (.aload_n 0, 1) := by decide +kernel
theorem d_law_1040 : decode code 1040 = .ok (.iload 5, 2) := by decide +kernel
theorem d_law_1042 : decode code 1042 = .ok (.iconst 1, 1) := by decide +kernel
theorem d_law_1043 : decode code 1043 = .ok (.iadd, 1) := by decide +kernel
theorem d_law_1044 : decode code 1044 = .ok (.iaload, 1) := by decide +kernel
theorem d_law_1045 : decode code 1045 = .ok (.aload_n 0, 1) := by decide +kernel
theorem d_law_1046 : decode code 1046 = .ok (.iload 5, 2) := by decide +kernel
theorem d_law_1048 : decode code 1048 = .ok (.iconst 2, 1) := by decide +kernel
theorem d_law_1049 : decode code 1049 = .ok (.iadd, 1) := by decide +kernel
theorem d_law_1050 : decode code 1050 = .ok (.iaload, 1) := by decide +kernel
theorem d_law_1051 : decode code 1051 = .ok (.aload_n 0, 1) := by decide +kernel
theorem d_law_1052 : decode code 1052 = .ok (.iload 5, 2) := by decide +kernel
theorem d_law_1054 : decode code 1054 = .ok (.iconst 3, 1) := by decide +kernel
theorem d_law_1055 : decode code 1055 = .ok (.iadd, 1) := by decide +kernel
theorem d_law_1056 : decode code 1056 = .ok (.iaload, 1) := by decide +kernel
theorem d_law_1057 : decode code 1057 = .ok (.aload_n 3, 1) := by decide +kernel
theorem d_law_1058 : decode code 1058 = .ok (.invokestatic 140, 3) := by decide +kernel
theorem d_law_1061 : decode code 1061 = .ok (.istore 6, 2) := by decide +kernel
theorem d_law_1063 : decode code 1063 = .ok (.aload_n 2, 1) := by decide +kernel
theorem d_law_1064 : decode code 1064 = .ok (.aload_n 0, 1) := by decide +kernel
theorem d_law_1065 : decode code 1065 = .ok (.iload 5, 2) := by decide +kernel
theorem d_law_1067 : decode code 1067 = .ok (.iconst 1, 1) := by decide +kernel
theorem d_law_1068 : decode code 1068 = .ok (.iadd, 1) := by decide +kernel
theorem d_law_1069 : decode code 1069 = .ok (.iaload, 1) := by decide +kernel
theorem d_law_1070 : decode code 1070 = .ok (.aload_n 0, 1) := by decide +kernel
theorem d_law_1071 : decode code 1071 = .ok (.iload 5, 2) := by decide +kernel
theorem d_law_1073 : decode code 1073 = .ok (.iconst 2, 1) := by decide +kernel
theorem d_law_1074 : decode code 1074 = .ok (.iadd, 1) := by decide +kernel
theorem d_law_1075 : decode code 1075 = .ok (.iaload, 1) := by decide +kernel
theorem d_law_1076 : decode code 1076 = .ok (.aload_n 0, 1) := by decide +kernel
theorem d_law_1077 : decode code 1077 = .ok (.iload 5, 2) := by decide +kernel
theorem d_law_1079 : decode code 1079 = .ok (.iconst 3, 1) := by decide +kernel
theorem d_law_1080 : decode code 1080 = .ok (.iadd, 1) := by decide +kernel
theorem d_law_1081 : decode code 1081 = .ok (.iaload, 1) := by decide +kernel
theorem d_law_1082 : decode code 1082 = .ok (.invokevirtual 142, 3) := by decide +kernel
theorem d_law_1085 : decode code 1085 = .ok (.istore 7, 2) := by decide +kernel
theorem d_law_1087 : decode code 1087 = .ok (.aload_n 2, 1) := by decide +kernel
theorem d_law_1088 : decode code 1088 = .ok (.invokevirtual 81, 3) := by decide +kernel
theorem d_law_1091 : decode code 1091 = .ok (.iload 6, 2) := by decide +kernel
theorem d_law_1093 : decode code 1093 = .ok (.if_icmp .eq 5, 3) := by decide +kernel
theorem d_law_1096 : decode code 1096 = .ok (.iconst 0, 1) := by decide +kernel
theorem d_law_1097 : decode code 1097 = .ok (.ireturn, 1) := by decide +kernel
theorem d_law_1098 : decode code 1098 = .ok (.iload 6, 2) := by decide +kernel
theorem d_law_1100 : decode code 1100 = .ok (.ifCond .ne 15, 3) := by decide +kernel
theorem d_law_1103 : decode code 1103 = .ok (.aload_n 3, 1) := by decide +kernel
theorem d_law_1104 : decode code 1104 = .ok (.iconst 0, 1) := by decide +kernel
theorem d_law_1105 : decode code 1105 = .ok (.laload, 1) := by decide +kernel
theorem d_law_1106 : decode code 1106 = .ok (.iload 7, 2) := by decide +kernel
theorem d_law_1108 : decode code 1108 = .ok (.i2l, 1) := by decide +kernel
theorem d_law_1109 : decode code 1109 = .ok (.lcmp, 1) := by decide +kernel
theorem d_law_1110 : decode code 1110 = .ok (.ifCond .eq 5, 3) := by decide +kernel
theorem d_law_1113 : decode code 1113 = .ok (.iconst 0, 1) := by decide +kernel
theorem d_law_1114 : decode code 1114 = .ok (.ireturn, 1) := by decide +kernel
theorem d_law_1115 : decode code 1115 = .ok (.goto 59, 3) := by decide +kernel
theorem d_law_1118 : decode code 1118 = .ok (.aload_n 1, 1) := by decide +kernel
theorem d_law_1119 : decode code 1119 = .ok (.aload_n 0, 1) := by decide +kernel
theorem d_law_1120 : decode code 1120 = .ok (.iload 5, 2) := by decide +kernel
theorem d_law_1122 : decode code 1122 = .ok (.iconst 1, 1) := by decide +kernel
theorem d_law_1123 : decode code 1123 = .ok (.iadd, 1) := by decide +kernel
theorem d_law_1124 : decode code 1124 = .ok (.iaload, 1) := by decide +kernel
theorem d_law_1125 : decode code 1125 = .ok (.aload_n 3, 1) := by decide +kernel
theorem d_law_1126 : decode code 1126 = .ok (.invokestatic 143, 3) := by decide +kernel
theorem d_law_1129 : decode code 1129 = .ok (.istore 6, 2) := by decide +kernel
theorem d_law_1131 : decode code 1131 = .ok (.aload_n 2, 1) := by decide +kernel
theorem d_law_1132 : decode code 1132 = .ok (.aload_n 0, 1) := by decide +kernel
theorem d_law_1133 : decode code 1133 = .ok (.iload 5, 2) := by decide +kernel
theorem d_law_1135 : decode code 1135 = .ok (.iconst 1, 1) := by decide +kernel
theorem d_law_1136 : decode code 1136 = .ok (.iadd, 1) := by decide +kernel
theorem d_law_1137 : decode code 1137 = .ok (.iaload, 1) := by decide +kernel
theorem d_law_1138 : decode code 1138 = .ok (.invokevirtual 145, 3) := by decide +kernel
theorem d_law_1141 : decode code 1141 = .ok (.istore 7, 2) := by decide +kernel
theorem d_law_1143 : decode code 1143 = .ok (.aload_n 2, 1) := by decide +kernel
theorem d_law_1144 : decode code 1144 = .ok (.invokevirtual 81, 3) := by decide +kernel
theorem d_law_1147 : decode code 1147 = .ok (.iload 6, 2) := by decide +kernel
theorem d_law_1149 : decode code 1149 = .ok (.if_icmp .eq 5, 3) := by decide +kernel
theorem d_law_1152 : decode code 1152 = .ok (.iconst 0, 1) := by decide +kernel
theorem d_law_1153 : decode code 1153 = .ok (.ireturn, 1) := by decide +kernel
theorem d_law_1154 : decode code 1154 = .ok (.iload 6, 2) := by decide +kernel
theorem d_law_1156 : decode code 1156 = .ok (.ifCond .ne 15, 3) := by decide +kernel
theorem d_law_1159 : decode code 1159 = .ok (.aload_n 3, 1) := by decide +kernel
theorem d_law_1160 : decode code 1160 = .ok (.iconst 0, 1) := by decide +kernel
theorem d_law_1161 : decode code 1161 = .ok (.laload, 1) := by decide +kernel
theorem d_law_1162 : decode code 1162 = .ok (.iload 7, 2) := by decide +kernel
theorem d_law_1164 : decode code 1164 = .ok (.i2l, 1) := by decide +kernel
theorem d_law_1165 : decode code 1165 = .ok (.lcmp, 1) := by decide +kernel
theorem d_law_1166 : decode code 1166 = .ok (.ifCond .eq 5, 3) := by decide +kernel
theorem d_law_1169 : decode code 1169 = .ok (.iconst 0, 1) := by decide +kernel
theorem d_law_1170 : decode code 1170 = .ok (.ireturn, 1) := by decide +kernel
theorem d_law_1171 : decode code 1171 = .ok (.goto 3, 3) := by decide +kernel
theorem d_law_1174 : decode code 1174 = .ok (.iinc 5 5, 3) := by decide +kernel
theorem d_law_1177 : decode code 1177 = .ok (.goto (-1149), 3) := by decide +kernel
theorem d_law_1180 : decode code 1180 = .ok (.iconst 1, 1) := by decide +kernel
theorem d_law_1181 : decode code 1181 = .ok (.ireturn, 1) := by decide +kernel
