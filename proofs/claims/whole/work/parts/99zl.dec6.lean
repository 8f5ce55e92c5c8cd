theorem dW_1065 : decode code 1065 = .ok (.iadd, 1) := by decide +kernel
theorem dW_1066 : decode code 1066 = .ok (.iaload, 1) := by decide +kernel
theorem dW_1067 : decode code 1067 = .ok (.i2l, 1) := by decide +kernel
theorem dW_1068 : decode code 1068 = .ok (.ldc2_w 13, 3) := by decide +kernel
theorem dW_1071 : decode code 1071 = .ok (.land, 1) := by decide +kernel
theorem dW_1072 : decode code 1072 = .ok (.lor, 1) := by decide +kernel
theorem dW_1073 : decode code 1073 = .ok (.aload_n 0, 1) := by decide +kernel
theorem dW_1074 : decode code 1074 = .ok (.iload_n 3, 1) := by decide +kernel
theorem dW_1075 : decode code 1075 = .ok (.iconst 4, 1) := by decide +kernel
theorem dW_1076 : decode code 1076 = .ok (.iadd, 1) := by decide +kernel
theorem dW_1077 : decode code 1077 = .ok (.iaload, 1) := by decide +kernel
theorem dW_1078 : decode code 1078 = .ok (.i2l, 1) := by decide +kernel
theorem dW_1079 : decode code 1079 = .ok (.bipush 32, 2) := by decide +kernel
theorem dW_1081 : decode code 1081 = .ok (.lshl, 1) := by decide +kernel
theorem dW_1082 : decode code 1082 = .ok (.aload_n 0, 1) := by decide +kernel
theorem dW_1083 : decode code 1083 = .ok (.iload_n 3, 1) := by decide +kernel
theorem dW_1084 : decode code 1084 = .ok (.iconst 5, 1) := by decide +kernel
theorem dW_1085 : decode code 1085 = .ok (.iadd, 1) := by decide +kernel
theorem dW_1086 : decode code 1086 = .ok (.iaload, 1) := by decide +kernel
theorem dW_1087 : decode code 1087 = .ok (.i2l, 1) := by decide +kernel
theorem dW_1088 : decode code 1088 = .ok (.ldc2_w 13, 3) := by decide +kernel
theorem dW_1091 : decode code 1091 = .ok (.land, 1) := by decide +kernel
theorem dW_1092 : decode code 1092 = .ok (.lor, 1) := by decide +kernel
theorem dW_1093 : decode code 1093 = .ok (.aload_n 0, 1) := by decide +kernel
theorem dW_1094 : decode code 1094 = .ok (.iload_n 3, 1) := by decide +kernel
theorem dW_1095 : decode code 1095 = .ok (.bipush 6, 2) := by decide +kernel
theorem dW_1097 : decode code 1097 = .ok (.iadd, 1) := by decide +kernel
theorem dW_1098 : decode code 1098 = .ok (.iaload, 1) := by decide +kernel
theorem dW_1099 : decode code 1099 = .ok (.aload_n 0, 1) := by decide +kernel
theorem dW_1100 : decode code 1100 = .ok (.iload_n 3, 1) := by decide +kernel
theorem dW_1101 : decode code 1101 = .ok (.bipush 7, 2) := by decide +kernel
theorem dW_1103 : decode code 1103 = .ok (.iadd, 1) := by decide +kernel
theorem dW_1104 : decode code 1104 = .ok (.iaload, 1) := by decide +kernel
theorem dW_1105 : decode code 1105 = .ok (.aload_n 0, 1) := by decide +kernel
theorem dW_1106 : decode code 1106 = .ok (.iload_n 3, 1) := by decide +kernel
theorem dW_1107 : decode code 1107 = .ok (.bipush 8, 2) := by decide +kernel
theorem dW_1109 : decode code 1109 = .ok (.iadd, 1) := by decide +kernel
theorem dW_1110 : decode code 1110 = .ok (.iaload, 1) := by decide +kernel
theorem dW_1111 : decode code 1111 = .ok (.invokevirtual 123, 3) := by decide +kernel
theorem dW_1114 : decode code 1114 = .ok (.if_icmp .eq 133, 3) := by decide +kernel
theorem dW_1117 : decode code 1117 = .ok (.iconst 0, 1) := by decide +kernel
theorem dW_1118 : decode code 1118 = .ok (.ireturn, 1) := by decide +kernel
theorem dW_1119 : decode code 1119 = .ok (.aload_n 1, 1) := by decide +kernel
theorem dW_1120 : decode code 1120 = .ok (.aload_n 0, 1) := by decide +kernel
theorem dW_1121 : decode code 1121 = .ok (.iload_n 3, 1) := by decide +kernel
theorem dW_1122 : decode code 1122 = .ok (.iconst 1, 1) := by decide +kernel
theorem dW_1123 : decode code 1123 = .ok (.iadd, 1) := by decide +kernel
theorem dW_1124 : decode code 1124 = .ok (.iaload, 1) := by decide +kernel
theorem dW_1125 : decode code 1125 = .ok (.invokevirtual 124, 3) := by decide +kernel
theorem dW_1128 : decode code 1128 = .ok (.aload_n 2, 1) := by decide +kernel
theorem dW_1129 : decode code 1129 = .ok (.aload_n 0, 1) := by decide +kernel
theorem dW_1130 : decode code 1130 = .ok (.iload_n 3, 1) := by decide +kernel
theorem dW_1131 : decode code 1131 = .ok (.iconst 1, 1) := by decide +kernel
theorem dW_1132 : decode code 1132 = .ok (.iadd, 1) := by decide +kernel
theorem dW_1133 : decode code 1133 = .ok (.iaload, 1) := by decide +kernel
theorem dW_1134 : decode code 1134 = .ok (.invokevirtual 127, 3) := by decide +kernel
theorem dW_1137 : decode code 1137 = .ok (.lcmp, 1) := by decide +kernel
theorem dW_1138 : decode code 1138 = .ok (.ifCond .eq 109, 3) := by decide +kernel
theorem dW_1141 : decode code 1141 = .ok (.iconst 0, 1) := by decide +kernel
theorem dW_1142 : decode code 1142 = .ok (.ireturn, 1) := by decide +kernel
theorem dW_1143 : decode code 1143 = .ok (.aload_n 1, 1) := by decide +kernel
theorem dW_1144 : decode code 1144 = .ok (.aload_n 0, 1) := by decide +kernel
theorem dW_1145 : decode code 1145 = .ok (.iload_n 3, 1) := by decide +kernel
theorem dW_1146 : decode code 1146 = .ok (.iconst 1, 1) := by decide +kernel
theorem dW_1147 : decode code 1147 = .ok (.iadd, 1) := by decide +kernel
theorem dW_1148 : decode code 1148 = .ok (.iaload, 1) := by decide +kernel
theorem dW_1149 : decode code 1149 = .ok (.aload_n 0, 1) := by decide +kernel
theorem dW_1150 : decode code 1150 = .ok (.iload_n 3, 1) := by decide +kernel
theorem dW_1151 : decode code 1151 = .ok (.iconst 2, 1) := by decide +kernel
theorem dW_1152 : decode code 1152 = .ok (.iadd, 1) := by decide +kernel
theorem dW_1153 : decode code 1153 = .ok (.iaload, 1) := by decide +kernel
theorem dW_1154 : decode code 1154 = .ok (.invokevirtual 128, 3) := by decide +kernel
theorem dW_1157 : decode code 1157 = .ok (.aload_n 2, 1) := by decide +kernel
theorem dW_1158 : decode code 1158 = .ok (.aload_n 0, 1) := by decide +kernel
theorem dW_1159 : decode code 1159 = .ok (.iload_n 3, 1) := by decide +kernel
theorem dW_1160 : decode code 1160 = .ok (.iconst 1, 1) := by decide +kernel
theorem dW_1161 : decode code 1161 = .ok (.iadd, 1) := by decide +kernel
theorem dW_1162 : decode code 1162 = .ok (.iaload, 1) := by decide +kernel
theorem dW_1163 : decode code 1163 = .ok (.aload_n 0, 1) := by decide +kernel
theorem dW_1164 : decode code 1164 = .ok (.iload_n 3, 1) := by decide +kernel
theorem dW_1165 : decode code 1165 = .ok (.iconst 2, 1) := by decide +kernel
theorem dW_1166 : decode code 1166 = .ok (.iadd, 1) := by decide +kernel
theorem dW_1167 : decode code 1167 = .ok (.iaload, 1) := by decide +kernel
theorem dW_1168 : decode code 1168 = .ok (.invokevirtual 131, 3) := by decide +kernel
theorem dW_1171 : decode code 1171 = .ok (.lcmp, 1) := by decide +kernel
theorem dW_1172 : decode code 1172 = .ok (.ifCond .eq 75, 3) := by decide +kernel
theorem dW_1175 : decode code 1175 = .ok (.iconst 0, 1) := by decide +kernel
theorem dW_1176 : decode code 1176 = .ok (.ireturn, 1) := by decide +kernel
theorem dW_1177 : decode code 1177 = .ok (.aload_n 1, 1) := by decide +kernel
theorem dW_1178 : decode code 1178 = .ok (.aload_n 0, 1) := by decide +kernel
theorem dW_1179 : decode code 1179 = .ok (.iload_n 3, 1) := by decide +kernel
theorem dW_1180 : decode code 1180 = .ok (.iconst 1, 1) := by decide +kernel
theorem dW_1181 : decode code 1181 = .ok (.iadd, 1) := by decide +kernel
theorem dW_1182 : decode code 1182 = .ok (.iaload, 1) := by decide +kernel
theorem dW_1183 : decode code 1183 = .ok (.aload_n 0, 1) := by decide +kernel
theorem dW_1184 : decode code 1184 = .ok (.iload_n 3, 1) := by decide +kernel
theorem dW_1185 : decode code 1185 = .ok (.iconst 2, 1) := by decide +kernel
theorem dW_1186 : decode code 1186 = .ok (.iadd, 1) := by decide +kernel
theorem dW_1187 : decode code 1187 = .ok (.iaload, 1) := by decide +kernel
theorem dW_1188 : decode code 1188 = .ok (.invokevirtual 132, 3) := by decide +kernel
theorem dW_1191 : decode code 1191 = .ok (.aload_n 2, 1) := by decide +kernel
theorem dW_1192 : decode code 1192 = .ok (.aload_n 0, 1) := by decide +kernel
theorem dW_1193 : decode code 1193 = .ok (.iload_n 3, 1) := by decide +kernel
theorem dW_1194 : decode code 1194 = .ok (.iconst 1, 1) := by decide +kernel
theorem dW_1195 : decode code 1195 = .ok (.iadd, 1) := by decide +kernel
theorem dW_1196 : decode code 1196 = .ok (.iaload, 1) := by decide +kernel
theorem dW_1197 : decode code 1197 = .ok (.aload_n 0, 1) := by decide +kernel
theorem dW_1198 : decode code 1198 = .ok (.iload_n 3, 1) := by decide +kernel
theorem dW_1199 : decode code 1199 = .ok (.iconst 2, 1) := by decide +kernel
theorem dW_1200 : decode code 1200 = .ok (.iadd, 1) := by decide +kernel
theorem dW_1201 : decode code 1201 = .ok (.iaload, 1) := by decide +kernel
theorem dW_1202 : decode code 1202 = .ok (.invokevirtual 135, 3) := by decide +kernel
theorem dW_1205 : decode code 1205 = .ok (.if_icmp .eq 42, 3) := by decide +kernel
theorem dW_1208 : decode code 1208 = .ok (.iconst 0, 1) := by decide +kernel
theorem dW_1209 : decode code 1209 = .ok (.ireturn, 1) := by decide +kernel
theorem dW_1210 : decode code 1210 = .ok (.aload_n 1, 1) := by decide +kernel
theorem dW_1211 : decode code 1211 = .ok (.aload_n 0, 1) := by decide +kernel
theorem dW_1212 : decode code 1212 = .ok (.iload_n 3, 1) := by decide +kernel
theorem dW_1213 : decode code 1213 = .ok (.iconst 1, 1) := by decide +kernel
theorem dW_1214 : decode code 1214 = .ok (.iadd, 1) := by decide +kernel
theorem dW_1215 : decode code 1215 = .ok (.iaload, 1) := by decide +kernel
theorem dW_1216 : decode code 1216 = .ok (.invokevirtual 136, 3) := by decide +kernel
theorem dW_1219 : decode code 1219 = .ok (.aload_n 2, 1) := by decide +kernel
theorem dW_1220 : decode code 1220 = .ok (.aload_n 0, 1) := by decide +kernel
theorem dW_1221 : decode code 1221 = .ok (.iload_n 3, 1) := by decide +kernel
theorem dW_1222 : decode code 1222 = .ok (.iconst 1, 1) := by decide +kernel
theorem dW_1223 : decode code 1223 = .ok (.iadd, 1) := by decide +kernel
theorem dW_1224 : decode code 1224 = .ok (.iaload, 1) := by decide +kernel
theorem dW_1225 : decode code 1225 = .ok (.invokevirtual 139, 3) := by decide +kernel
theorem dW_1228 : decode code 1228 = .ok (.if_icmp .eq 19, 3) := by decide +kernel
theorem dW_1231 : decode code 1231 = .ok (.iconst 0, 1) := by decide +kernel
theorem dW_1232 : decode code 1232 = .ok (.ireturn, 1) := by decide +kernel
theorem dW_1233 : decode code 1233 = .ok (.aload_n 1, 1) := by decide +kernel
theorem dW_1234 : decode code 1234 = .ok (.invokevirtual 140, 3) := by decide +kernel
theorem dW_1237 : decode code 1237 = .ok (.aload_n 2, 1) := by decide +kernel
theorem dW_1238 : decode code 1238 = .ok (.invokevirtual 144, 3) := by decide +kernel
theorem dW_1241 : decode code 1241 = .ok (.lcmp, 1) := by decide +kernel
theorem dW_1242 : decode code 1242 = .ok (.ifCond .eq 5, 3) := by decide +kernel
theorem dW_1245 : decode code 1245 = .ok (.iconst 0, 1) := by decide +kernel
theorem dW_1246 : decode code 1246 = .ok (.ireturn, 1) := by decide +kernel
theorem dW_1247 : decode code 1247 = .ok (.iinc 3 9, 3) := by decide +kernel
theorem dW_1250 : decode code 1250 = .ok (.goto (-1232), 3) := by decide +kernel
theorem dW_1253 : decode code 1253 = .ok (.iconst 1, 1) := by decide +kernel
theorem dW_1254 : decode code 1254 = .ok (.ireturn, 1) := by decide +kernel
