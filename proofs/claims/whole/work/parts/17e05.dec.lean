theorem d_w_1081 : decode code 1081 = .ok (.iconst 2, 1) := by decide +kernel
theorem d_w_1082 : decode code 1082 = .ok (.iadd, 1) := by decide +kernel
theorem d_w_1083 : decode code 1083 = .ok (.iaload, 1) := by decide +kernel
theorem d_w_1084 : decode code 1084 = .ok (.ifCond .eq 7, 3) := by decide +kernel
theorem d_w_1087 : decode code 1087 = .ok (.iconst 1, 1) := by decide +kernel
theorem d_w_1088 : decode code 1088 = .ok (.goto 4, 3) := by decide +kernel
theorem d_w_1091 : decode code 1091 = .ok (.iconst 0, 1) := by decide +kernel
theorem d_w_1092 : decode code 1092 = .ok (.aload_n 3, 1) := by decide +kernel
theorem d_w_1093 : decode code 1093 = .ok (.invokestatic 178, 3) := by decide +kernel
theorem d_w_1096 : decode code 1096 = .ok (.istore 6, 2) := by decide +kernel
theorem d_w_1098 : decode code 1098 = .ok (.aload_n 2, 1) := by decide +kernel
theorem d_w_1099 : decode code 1099 = .ok (.aload_n 0, 1) := by decide +kernel
theorem d_w_1100 : decode code 1100 = .ok (.iload 5, 2) := by decide +kernel
theorem d_w_1102 : decode code 1102 = .ok (.iconst 1, 1) := by decide +kernel
theorem d_w_1103 : decode code 1103 = .ok (.iadd, 1) := by decide +kernel
theorem d_w_1104 : decode code 1104 = .ok (.iaload, 1) := by decide +kernel
theorem d_w_1105 : decode code 1105 = .ok (.aload_n 0, 1) := by decide +kernel
theorem d_w_1106 : decode code 1106 = .ok (.iload 5, 2) := by decide +kernel
theorem d_w_1108 : decode code 1108 = .ok (.iconst 2, 1) := by decide +kernel
theorem d_w_1109 : decode code 1109 = .ok (.iadd, 1) := by decide +kernel
theorem d_w_1110 : decode code 1110 = .ok (.iaload, 1) := by decide +kernel
theorem d_w_1111 : decode code 1111 = .ok (.ifCond .eq 7, 3) := by decide +kernel
theorem d_w_1114 : decode code 1114 = .ok (.iconst 1, 1) := by decide +kernel
theorem d_w_1115 : decode code 1115 = .ok (.goto 4, 3) := by decide +kernel
theorem d_w_1118 : decode code 1118 = .ok (.iconst 0, 1) := by decide +kernel
theorem d_w_1119 : decode code 1119 = .ok (.invokevirtual 181, 3) := by decide +kernel
theorem d_w_1122 : decode code 1122 = .ok (.lstore 7, 2) := by decide +kernel
theorem d_w_1124 : decode code 1124 = .ok (.aload_n 2, 1) := by decide +kernel
theorem d_w_1125 : decode code 1125 = .ok (.invokevirtual 114, 3) := by decide +kernel
theorem d_w_1128 : decode code 1128 = .ok (.iload 6, 2) := by decide +kernel
theorem d_w_1130 : decode code 1130 = .ok (.if_icmp .eq 5, 3) := by decide +kernel
theorem d_w_1133 : decode code 1133 = .ok (.iconst 0, 1) := by decide +kernel
theorem d_w_1134 : decode code 1134 = .ok (.ireturn, 1) := by decide +kernel
theorem d_w_1135 : decode code 1135 = .ok (.iload 6, 2) := by decide +kernel
theorem d_w_1137 : decode code 1137 = .ok (.ifCond .ne 14, 3) := by decide +kernel
theorem d_w_1140 : decode code 1140 = .ok (.aload_n 3, 1) := by decide +kernel
theorem d_w_1141 : decode code 1141 = .ok (.iconst 0, 1) := by decide +kernel
theorem d_w_1142 : decode code 1142 = .ok (.laload, 1) := by decide +kernel
theorem d_w_1143 : decode code 1143 = .ok (.lload 7, 2) := by decide +kernel
theorem d_w_1145 : decode code 1145 = .ok (.lcmp, 1) := by decide +kernel
theorem d_w_1146 : decode code 1146 = .ok (.ifCond .eq 5, 3) := by decide +kernel
theorem d_w_1149 : decode code 1149 = .ok (.iconst 0, 1) := by decide +kernel
theorem d_w_1150 : decode code 1150 = .ok (.ireturn, 1) := by decide +kernel
theorem d_w_1151 : decode code 1151 = .ok (.goto 1088, 3) := by decide +kernel
theorem d_w_1154 : decode code 1154 = .ok (.aload_n 1, 1) := by decide +kernel
theorem d_w_1155 : decode code 1155 = .ok (.aload_n 0, 1) := by decide +kernel
theorem d_w_1156 : decode code 1156 = .ok (.iload 5, 2) := by decide +kernel
theorem d_w_1158 : decode code 1158 = .ok (.iconst 1, 1) := by decide +kernel
theorem d_w_1159 : decode code 1159 = .ok (.iadd, 1) := by decide +kernel
theorem d_w_1160 : decode code 1160 = .ok (.iaload, 1) := by decide +kernel
theorem d_w_1161 : decode code 1161 = .ok (.aload_n 0, 1) := by decide +kernel
theorem d_w_1162 : decode code 1162 = .ok (.iload 5, 2) := by decide +kernel
theorem d_w_1164 : decode code 1164 = .ok (.iconst 2, 1) := by decide +kernel
theorem d_w_1165 : decode code 1165 = .ok (.iadd, 1) := by decide +kernel
theorem d_w_1166 : decode code 1166 = .ok (.iaload, 1) := by decide +kernel
theorem d_w_1167 : decode code 1167 = .ok (.aload_n 3, 1) := by decide +kernel
theorem d_w_1168 : decode code 1168 = .ok (.invokestatic 182, 3) := by decide +kernel
theorem d_w_1171 : decode code 1171 = .ok (.istore 6, 2) := by decide +kernel
theorem d_w_1173 : decode code 1173 = .ok (.aload_n 2, 1) := by decide +kernel
theorem d_w_1174 : decode code 1174 = .ok (.aload_n 0, 1) := by decide +kernel
theorem d_w_1175 : decode code 1175 = .ok (.iload 5, 2) := by decide +kernel
theorem d_w_1177 : decode code 1177 = .ok (.iconst 1, 1) := by decide +kernel
theorem d_w_1178 : decode code 1178 = .ok (.iadd, 1) := by decide +kernel
theorem d_w_1179 : decode code 1179 = .ok (.iaload, 1) := by decide +kernel
theorem d_w_1180 : decode code 1180 = .ok (.aload_n 0, 1) := by decide +kernel
theorem d_w_1181 : decode code 1181 = .ok (.iload 5, 2) := by decide +kernel
theorem d_w_1183 : decode code 1183 = .ok (.iconst 2, 1) := by decide +kernel
theorem d_w_1184 : decode code 1184 = .ok (.iadd, 1) := by decide +kernel
theorem d_w_1185 : decode code 1185 = .ok (.iaload, 1) := by decide +kernel
theorem d_w_1186 : decode code 1186 = .ok (.invokevirtual 184, 3) := by decide +kernel
theorem d_w_1189 : decode code 1189 = .ok (.istore 7, 2) := by decide +kernel
theorem d_w_1191 : decode code 1191 = .ok (.aload_n 2, 1) := by decide +kernel
theorem d_w_1192 : decode code 1192 = .ok (.invokevirtual 114, 3) := by decide +kernel
theorem d_w_1195 : decode code 1195 = .ok (.iload 6, 2) := by decide +kernel
theorem d_w_1197 : decode code 1197 = .ok (.if_icmp .eq 5, 3) := by decide +kernel
theorem d_w_1200 : decode code 1200 = .ok (.iconst 0, 1) := by decide +kernel
theorem d_w_1201 : decode code 1201 = .ok (.ireturn, 1) := by decide +kernel
theorem d_w_1202 : decode code 1202 = .ok (.iload 6, 2) := by decide +kernel
theorem d_w_1204 : decode code 1204 = .ok (.ifCond .ne 15, 3) := by decide +kernel
theorem d_w_1207 : decode code 1207 = .ok (.aload_n 3, 1) := by decide +kernel
theorem d_w_1208 : decode code 1208 = .ok (.iconst 0, 1) := by decide +kernel
theorem d_w_1209 : decode code 1209 = .ok (.laload, 1) := by decide +kernel
theorem d_w_1210 : decode code 1210 = .ok (.iload 7, 2) := by decide +kernel
theorem d_w_1212 : decode code 1212 = .ok (.i2l, 1) := by decide +kernel
theorem d_w_1213 : decode code 1213 = .ok (.lcmp, 1) := by decide +kernel
theorem d_w_1214 : decode code 1214 = .ok (.ifCond .eq 5, 3) := by decide +kernel
theorem d_w_1217 : decode code 1217 = .ok (.iconst 0, 1) := by decide +kernel
theorem d_w_1218 : decode code 1218 = .ok (.ireturn, 1) := by decide +kernel
theorem d_w_1219 : decode code 1219 = .ok (.goto 1020, 3) := by decide +kernel
theorem d_w_1222 : decode code 1222 = .ok (.aload_n 1, 1) := by decide +kernel
theorem d_w_1223 : decode code 1223 = .ok (.aload_n 0, 1) := by decide +kernel
theorem d_w_1224 : decode code 1224 = .ok (.iload 5, 2) := by decide +kernel
theorem d_w_1226 : decode code 1226 = .ok (.iconst 1, 1) := by decide +kernel
theorem d_w_1227 : decode code 1227 = .ok (.iadd, 1) := by decide +kernel
theorem d_w_1228 : decode code 1228 = .ok (.iaload, 1) := by decide +kernel
theorem d_w_1229 : decode code 1229 = .ok (.aload 4, 2) := by decide +kernel
theorem d_w_1231 : decode code 1231 = .ok (.invokestatic 185, 3) := by decide +kernel
theorem d_w_1234 : decode code 1234 = .ok (.istore 6, 2) := by decide +kernel
theorem d_w_1236 : decode code 1236 = .ok (.aload_n 2, 1) := by decide +kernel
theorem d_w_1237 : decode code 1237 = .ok (.aload_n 0, 1) := by decide +kernel
theorem d_w_1238 : decode code 1238 = .ok (.iload 5, 2) := by decide +kernel
theorem d_w_1240 : decode code 1240 = .ok (.iconst 1, 1) := by decide +kernel
theorem d_w_1241 : decode code 1241 = .ok (.iadd, 1) := by decide +kernel
theorem d_w_1242 : decode code 1242 = .ok (.iaload, 1) := by decide +kernel
theorem d_w_1243 : decode code 1243 = .ok (.invokevirtual 188, 3) := by decide +kernel
theorem d_w_1246 : decode code 1246 = .ok (.dstore 7, 2) := by decide +kernel
theorem d_w_1248 : decode code 1248 = .ok (.aload_n 2, 1) := by decide +kernel
theorem d_w_1249 : decode code 1249 = .ok (.invokevirtual 114, 3) := by decide +kernel
theorem d_w_1252 : decode code 1252 = .ok (.iload 6, 2) := by decide +kernel
theorem d_w_1254 : decode code 1254 = .ok (.if_icmp .eq 5, 3) := by decide +kernel
