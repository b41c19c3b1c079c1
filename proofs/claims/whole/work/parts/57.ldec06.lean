/-! decode rows of the law -/
theorem d_lw_law_1046 : decode code 1046 = .ok (.iconst 2, 1) := by decide +kernel
theorem d_lw_law_1047 : decode code 1047 = .ok (.iadd, 1) := by decide +kernel
theorem d_lw_law_1048 : decode code 1048 = .ok (.iaload, 1) := by decide +kernel
theorem d_lw_law_1049 : decode code 1049 = .ok (.aload_n 0, 1) := by decide +kernel
theorem d_lw_law_1050 : decode code 1050 = .ok (.iload_n 3, 1) := by decide +kernel
theorem d_lw_law_1051 : decode code 1051 = .ok (.iconst 3, 1) := by decide +kernel
theorem d_lw_law_1052 : decode code 1052 = .ok (.iadd, 1) := by decide +kernel
theorem d_lw_law_1053 : decode code 1053 = .ok (.iaload, 1) := by decide +kernel
theorem d_lw_law_1054 : decode code 1054 = .ok (.invokevirtual 126, 3) := by decide +kernel
theorem d_lw_law_1057 : decode code 1057 = .ok (.if_icmp .eq 310, 3) := by decide +kernel
theorem d_lw_law_1060 : decode code 1060 = .ok (.iconst 0, 1) := by decide +kernel
theorem d_lw_law_1061 : decode code 1061 = .ok (.ireturn, 1) := by decide +kernel
theorem d_lw_law_1062 : decode code 1062 = .ok (.aload_n 1, 1) := by decide +kernel
theorem d_lw_law_1063 : decode code 1063 = .ok (.aload_n 0, 1) := by decide +kernel
theorem d_lw_law_1064 : decode code 1064 = .ok (.iload_n 3, 1) := by decide +kernel
theorem d_lw_law_1065 : decode code 1065 = .ok (.iconst 1, 1) := by decide +kernel
theorem d_lw_law_1066 : decode code 1066 = .ok (.iadd, 1) := by decide +kernel
theorem d_lw_law_1067 : decode code 1067 = .ok (.iaload, 1) := by decide +kernel
theorem d_lw_law_1068 : decode code 1068 = .ok (.aload_n 0, 1) := by decide +kernel
theorem d_lw_law_1069 : decode code 1069 = .ok (.iload_n 3, 1) := by decide +kernel
theorem d_lw_law_1070 : decode code 1070 = .ok (.iconst 2, 1) := by decide +kernel
theorem d_lw_law_1071 : decode code 1071 = .ok (.iadd, 1) := by decide +kernel
theorem d_lw_law_1072 : decode code 1072 = .ok (.iaload, 1) := by decide +kernel
theorem d_lw_law_1073 : decode code 1073 = .ok (.aload_n 0, 1) := by decide +kernel
theorem d_lw_law_1074 : decode code 1074 = .ok (.iload_n 3, 1) := by decide +kernel
theorem d_lw_law_1075 : decode code 1075 = .ok (.iconst 3, 1) := by decide +kernel
theorem d_lw_law_1076 : decode code 1076 = .ok (.iadd, 1) := by decide +kernel
theorem d_lw_law_1077 : decode code 1077 = .ok (.iaload, 1) := by decide +kernel
theorem d_lw_law_1078 : decode code 1078 = .ok (.invokevirtual 127, 3) := by decide +kernel
theorem d_lw_law_1081 : decode code 1081 = .ok (.aload_n 2, 1) := by decide +kernel
theorem d_lw_law_1082 : decode code 1082 = .ok (.aload_n 0, 1) := by decide +kernel
theorem d_lw_law_1083 : decode code 1083 = .ok (.iload_n 3, 1) := by decide +kernel
theorem d_lw_law_1084 : decode code 1084 = .ok (.iconst 1, 1) := by decide +kernel
theorem d_lw_law_1085 : decode code 1085 = .ok (.iadd, 1) := by decide +kernel
theorem d_lw_law_1086 : decode code 1086 = .ok (.iaload, 1) := by decide +kernel
theorem d_lw_law_1087 : decode code 1087 = .ok (.aload_n 0, 1) := by decide +kernel
theorem d_lw_law_1088 : decode code 1088 = .ok (.iload_n 3, 1) := by decide +kernel
theorem d_lw_law_1089 : decode code 1089 = .ok (.iconst 2, 1) := by decide +kernel
theorem d_lw_law_1090 : decode code 1090 = .ok (.iadd, 1) := by decide +kernel
theorem d_lw_law_1091 : decode code 1091 = .ok (.iaload, 1) := by decide +kernel
theorem d_lw_law_1092 : decode code 1092 = .ok (.aload_n 0, 1) := by decide +kernel
theorem d_lw_law_1093 : decode code 1093 = .ok (.iload_n 3, 1) := by decide +kernel
theorem d_lw_law_1094 : decode code 1094 = .ok (.iconst 3, 1) := by decide +kernel
theorem d_lw_law_1095 : decode code 1095 = .ok (.iadd, 1) := by decide +kernel
theorem d_lw_law_1096 : decode code 1096 = .ok (.iaload, 1) := by decide +kernel
theorem d_lw_law_1097 : decode code 1097 = .ok (.invokevirtual 130, 3) := by decide +kernel
theorem d_lw_law_1100 : decode code 1100 = .ok (.if_icmp .eq 267, 3) := by decide +kernel
theorem d_lw_law_1103 : decode code 1103 = .ok (.iconst 0, 1) := by decide +kernel
theorem d_lw_law_1104 : decode code 1104 = .ok (.ireturn, 1) := by decide +kernel
theorem d_lw_law_1105 : decode code 1105 = .ok (.aload_n 1, 1) := by decide +kernel
theorem d_lw_law_1106 : decode code 1106 = .ok (.aload_n 0, 1) := by decide +kernel
theorem d_lw_law_1107 : decode code 1107 = .ok (.iload_n 3, 1) := by decide +kernel
theorem d_lw_law_1108 : decode code 1108 = .ok (.iconst 1, 1) := by decide +kernel
theorem d_lw_law_1109 : decode code 1109 = .ok (.iadd, 1) := by decide +kernel
theorem d_lw_law_1110 : decode code 1110 = .ok (.iaload, 1) := by decide +kernel
theorem d_lw_law_1111 : decode code 1111 = .ok (.invokevirtual 131, 3) := by decide +kernel
theorem d_lw_law_1114 : decode code 1114 = .ok (.aload_n 2, 1) := by decide +kernel
theorem d_lw_law_1115 : decode code 1115 = .ok (.aload_n 0, 1) := by decide +kernel
theorem d_lw_law_1116 : decode code 1116 = .ok (.iload_n 3, 1) := by decide +kernel
theorem d_lw_law_1117 : decode code 1117 = .ok (.iconst 1, 1) := by decide +kernel
theorem d_lw_law_1118 : decode code 1118 = .ok (.iadd, 1) := by decide +kernel
theorem d_lw_law_1119 : decode code 1119 = .ok (.iaload, 1) := by decide +kernel
theorem d_lw_law_1120 : decode code 1120 = .ok (.invokevirtual 134, 3) := by decide +kernel
theorem d_lw_law_1123 : decode code 1123 = .ok (.if_icmp .eq 244, 3) := by decide +kernel
theorem d_lw_law_1126 : decode code 1126 = .ok (.iconst 0, 1) := by decide +kernel
theorem d_lw_law_1127 : decode code 1127 = .ok (.ireturn, 1) := by decide +kernel
theorem d_lw_law_1128 : decode code 1128 = .ok (.aload_n 1, 1) := by decide +kernel
theorem d_lw_law_1129 : decode code 1129 = .ok (.aload_n 0, 1) := by decide +kernel
theorem d_lw_law_1130 : decode code 1130 = .ok (.iload_n 3, 1) := by decide +kernel
theorem d_lw_law_1131 : decode code 1131 = .ok (.iconst 1, 1) := by decide +kernel
theorem d_lw_law_1132 : decode code 1132 = .ok (.iadd, 1) := by decide +kernel
theorem d_lw_law_1133 : decode code 1133 = .ok (.iaload, 1) := by decide +kernel
theorem d_lw_law_1134 : decode code 1134 = .ok (.aload_n 0, 1) := by decide +kernel
theorem d_lw_law_1135 : decode code 1135 = .ok (.iload_n 3, 1) := by decide +kernel
theorem d_lw_law_1136 : decode code 1136 = .ok (.iconst 2, 1) := by decide +kernel
theorem d_lw_law_1137 : decode code 1137 = .ok (.iadd, 1) := by decide +kernel
theorem d_lw_law_1138 : decode code 1138 = .ok (.iaload, 1) := by decide +kernel
theorem d_lw_law_1139 : decode code 1139 = .ok (.aload_n 0, 1) := by decide +kernel
theorem d_lw_law_1140 : decode code 1140 = .ok (.iload_n 3, 1) := by decide +kernel
theorem d_lw_law_1141 : decode code 1141 = .ok (.iconst 3, 1) := by decide +kernel
theorem d_lw_law_1142 : decode code 1142 = .ok (.iadd, 1) := by decide +kernel
theorem d_lw_law_1143 : decode code 1143 = .ok (.iaload, 1) := by decide +kernel
theorem d_lw_law_1144 : decode code 1144 = .ok (.aload_n 0, 1) := by decide +kernel
theorem d_lw_law_1145 : decode code 1145 = .ok (.iload_n 3, 1) := by decide +kernel
theorem d_lw_law_1146 : decode code 1146 = .ok (.iconst 4, 1) := by decide +kernel
theorem d_lw_law_1147 : decode code 1147 = .ok (.iadd, 1) := by decide +kernel
theorem d_lw_law_1148 : decode code 1148 = .ok (.iaload, 1) := by decide +kernel
theorem d_lw_law_1149 : decode code 1149 = .ok (.invokevirtual 135, 3) := by decide +kernel
theorem d_lw_law_1152 : decode code 1152 = .ok (.aload_n 2, 1) := by decide +kernel
theorem d_lw_law_1153 : decode code 1153 = .ok (.aload_n 0, 1) := by decide +kernel
theorem d_lw_law_1154 : decode code 1154 = .ok (.iload_n 3, 1) := by decide +kernel
theorem d_lw_law_1155 : decode code 1155 = .ok (.iconst 1, 1) := by decide +kernel
theorem d_lw_law_1156 : decode code 1156 = .ok (.iadd, 1) := by decide +kernel
theorem d_lw_law_1157 : decode code 1157 = .ok (.iaload, 1) := by decide +kernel
theorem d_lw_law_1158 : decode code 1158 = .ok (.aload_n 0, 1) := by decide +kernel
theorem d_lw_law_1159 : decode code 1159 = .ok (.iload_n 3, 1) := by decide +kernel
theorem d_lw_law_1160 : decode code 1160 = .ok (.iconst 2, 1) := by decide +kernel
theorem d_lw_law_1161 : decode code 1161 = .ok (.iadd, 1) := by decide +kernel
theorem d_lw_law_1162 : decode code 1162 = .ok (.iaload, 1) := by decide +kernel
theorem d_lw_law_1163 : decode code 1163 = .ok (.aload_n 0, 1) := by decide +kernel
theorem d_lw_law_1164 : decode code 1164 = .ok (.iload_n 3, 1) := by decide +kernel
theorem d_lw_law_1165 : decode code 1165 = .ok (.iconst 3, 1) := by decide +kernel
theorem d_lw_law_1166 : decode code 1166 = .ok (.iadd, 1) := by decide +kernel
theorem d_lw_law_1167 : decode code 1167 = .ok (.iaload, 1) := by decide +kernel
theorem d_lw_law_1168 : decode code 1168 = .ok (.aload_n 0, 1) := by decide +kernel
theorem d_lw_law_1169 : decode code 1169 = .ok (.iload_n 3, 1) := by decide +kernel
theorem d_lw_law_1170 : decode code 1170 = .ok (.iconst 4, 1) := by decide +kernel
theorem d_lw_law_1171 : decode code 1171 = .ok (.iadd, 1) := by decide +kernel
theorem d_lw_law_1172 : decode code 1172 = .ok (.iaload, 1) := by decide +kernel
theorem d_lw_law_1173 : decode code 1173 = .ok (.invokevirtual 138, 3) := by decide +kernel
theorem d_lw_law_1176 : decode code 1176 = .ok (.if_icmp .eq 191, 3) := by decide +kernel
theorem d_lw_law_1179 : decode code 1179 = .ok (.iconst 0, 1) := by decide +kernel
theorem d_lw_law_1180 : decode code 1180 = .ok (.ireturn, 1) := by decide +kernel
theorem d_lw_law_1181 : decode code 1181 = .ok (.aload_n 1, 1) := by decide +kernel
theorem d_lw_law_1182 : decode code 1182 = .ok (.aload_n 0, 1) := by decide +kernel
theorem d_lw_law_1183 : decode code 1183 = .ok (.iload_n 3, 1) := by decide +kernel
theorem d_lw_law_1184 : decode code 1184 = .ok (.iconst 1, 1) := by decide +kernel
theorem d_lw_law_1185 : decode code 1185 = .ok (.iadd, 1) := by decide +kernel
theorem d_lw_law_1186 : decode code 1186 = .ok (.iaload, 1) := by decide +kernel
theorem d_lw_law_1187 : decode code 1187 = .ok (.aload_n 0, 1) := by decide +kernel
