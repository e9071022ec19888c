theorem dL_1144 : decode code 1144 = .ok (.iconst 0, 1) := by decide +kernel
theorem dL_1145 : decode code 1145 = .ok (.ireturn, 1) := by decide +kernel
theorem dL_1146 : decode code 1146 = .ok (.aload_n 1, 1) := by decide +kernel
theorem dL_1147 : decode code 1147 = .ok (.aload_n 0, 1) := by decide +kernel
theorem dL_1148 : decode code 1148 = .ok (.iload_n 3, 1) := by decide +kernel
theorem dL_1149 : decode code 1149 = .ok (.iconst 1, 1) := by decide +kernel
theorem dL_1150 : decode code 1150 = .ok (.iadd, 1) := by decide +kernel
theorem dL_1151 : decode code 1151 = .ok (.iaload, 1) := by decide +kernel
theorem dL_1152 : decode code 1152 = .ok (.invokevirtual 137, 3) := by decide +kernel
theorem dL_1155 : decode code 1155 = .ok (.aload_n 2, 1) := by decide +kernel
theorem dL_1156 : decode code 1156 = .ok (.aload_n 0, 1) := by decide +kernel
theorem dL_1157 : decode code 1157 = .ok (.iload_n 3, 1) := by decide +kernel
theorem dL_1158 : decode code 1158 = .ok (.iconst 1, 1) := by decide +kernel
theorem dL_1159 : decode code 1159 = .ok (.iadd, 1) := by decide +kernel
theorem dL_1160 : decode code 1160 = .ok (.iaload, 1) := by decide +kernel
theorem dL_1161 : decode code 1161 = .ok (.invokevirtual 140, 3) := by decide +kernel
theorem dL_1164 : decode code 1164 = .ok (.if_icmp .eq 328, 3) := by decide +kernel
theorem dL_1167 : decode code 1167 = .ok (.iconst 0, 1) := by decide +kernel
theorem dL_1168 : decode code 1168 = .ok (.ireturn, 1) := by decide +kernel
theorem dL_1169 : decode code 1169 = .ok (.aload_n 1, 1) := by decide +kernel
theorem dL_1170 : decode code 1170 = .ok (.aload_n 0, 1) := by decide +kernel
theorem dL_1171 : decode code 1171 = .ok (.iload_n 3, 1) := by decide +kernel
theorem dL_1172 : decode code 1172 = .ok (.iconst 1, 1) := by decide +kernel
theorem dL_1173 : decode code 1173 = .ok (.iadd, 1) := by decide +kernel
theorem dL_1174 : decode code 1174 = .ok (.iaload, 1) := by decide +kernel
theorem dL_1175 : decode code 1175 = .ok (.invokevirtual 141, 3) := by decide +kernel
theorem dL_1178 : decode code 1178 = .ok (.aload_n 2, 1) := by decide +kernel
theorem dL_1179 : decode code 1179 = .ok (.aload_n 0, 1) := by decide +kernel
theorem dL_1180 : decode code 1180 = .ok (.iload_n 3, 1) := by decide +kernel
theorem dL_1181 : decode code 1181 = .ok (.iconst 1, 1) := by decide +kernel
theorem dL_1182 : decode code 1182 = .ok (.iadd, 1) := by decide +kernel
theorem dL_1183 : decode code 1183 = .ok (.iaload, 1) := by decide +kernel
theorem dL_1184 : decode code 1184 = .ok (.invokevirtual 144, 3) := by decide +kernel
theorem dL_1187 : decode code 1187 = .ok (.if_icmp .eq 305, 3) := by decide +kernel
theorem dL_1190 : decode code 1190 = .ok (.iconst 0, 1) := by decide +kernel
theorem dL_1191 : decode code 1191 = .ok (.ireturn, 1) := by decide +kernel
theorem dL_1192 : decode code 1192 = .ok (.aload_n 1, 1) := by decide +kernel
theorem dL_1193 : decode code 1193 = .ok (.aload_n 0, 1) := by decide +kernel
theorem dL_1194 : decode code 1194 = .ok (.iload_n 3, 1) := by decide +kernel
theorem dL_1195 : decode code 1195 = .ok (.iconst 1, 1) := by decide +kernel
theorem dL_1196 : decode code 1196 = .ok (.iadd, 1) := by decide +kernel
theorem dL_1197 : decode code 1197 = .ok (.iaload, 1) := by decide +kernel
theorem dL_1198 : decode code 1198 = .ok (.aload_n 0, 1) := by decide +kernel
theorem dL_1199 : decode code 1199 = .ok (.iload_n 3, 1) := by decide +kernel
theorem dL_1200 : decode code 1200 = .ok (.iconst 2, 1) := by decide +kernel
theorem dL_1201 : decode code 1201 = .ok (.iadd, 1) := by decide +kernel
theorem dL_1202 : decode code 1202 = .ok (.iaload, 1) := by decide +kernel
theorem dL_1203 : decode code 1203 = .ok (.aload_n 0, 1) := by decide +kernel
theorem dL_1204 : decode code 1204 = .ok (.iload_n 3, 1) := by decide +kernel
theorem dL_1205 : decode code 1205 = .ok (.iconst 3, 1) := by decide +kernel
theorem dL_1206 : decode code 1206 = .ok (.iadd, 1) := by decide +kernel
theorem dL_1207 : decode code 1207 = .ok (.iaload, 1) := by decide +kernel
theorem dL_1208 : decode code 1208 = .ok (.aload_n 0, 1) := by decide +kernel
theorem dL_1209 : decode code 1209 = .ok (.iload_n 3, 1) := by decide +kernel
theorem dL_1210 : decode code 1210 = .ok (.iconst 4, 1) := by decide +kernel
theorem dL_1211 : decode code 1211 = .ok (.iadd, 1) := by decide +kernel
theorem dL_1212 : decode code 1212 = .ok (.iaload, 1) := by decide +kernel
theorem dL_1213 : decode code 1213 = .ok (.aload_n 0, 1) := by decide +kernel
theorem dL_1214 : decode code 1214 = .ok (.iload_n 3, 1) := by decide +kernel
theorem dL_1215 : decode code 1215 = .ok (.iconst 5, 1) := by decide +kernel
theorem dL_1216 : decode code 1216 = .ok (.iadd, 1) := by decide +kernel
theorem dL_1217 : decode code 1217 = .ok (.iaload, 1) := by decide +kernel
theorem dL_1218 : decode code 1218 = .ok (.invokevirtual 145, 3) := by decide +kernel
theorem dL_1221 : decode code 1221 = .ok (.aload_n 2, 1) := by decide +kernel
theorem dL_1222 : decode code 1222 = .ok (.aload_n 0, 1) := by decide +kernel
theorem dL_1223 : decode code 1223 = .ok (.iload_n 3, 1) := by decide +kernel
theorem dL_1224 : decode code 1224 = .ok (.iconst 1, 1) := by decide +kernel
theorem dL_1225 : decode code 1225 = .ok (.iadd, 1) := by decide +kernel
theorem dL_1226 : decode code 1226 = .ok (.iaload, 1) := by decide +kernel
theorem dL_1227 : decode code 1227 = .ok (.aload_n 0, 1) := by decide +kernel
theorem dL_1228 : decode code 1228 = .ok (.iload_n 3, 1) := by decide +kernel
theorem dL_1229 : decode code 1229 = .ok (.iconst 2, 1) := by decide +kernel
theorem dL_1230 : decode code 1230 = .ok (.iadd, 1) := by decide +kernel
theorem dL_1231 : decode code 1231 = .ok (.iaload, 1) := by decide +kernel
theorem dL_1232 : decode code 1232 = .ok (.aload_n 0, 1) := by decide +kernel
theorem dL_1233 : decode code 1233 = .ok (.iload_n 3, 1) := by decide +kernel
theorem dL_1234 : decode code 1234 = .ok (.iconst 3, 1) := by decide +kernel
theorem dL_1235 : decode code 1235 = .ok (.iadd, 1) := by decide +kernel
theorem dL_1236 : decode code 1236 = .ok (.iaload, 1) := by decide +kernel
theorem dL_1237 : decode code 1237 = .ok (.aload_n 0, 1) := by decide +kernel
theorem dL_1238 : decode code 1238 = .ok (.iload_n 3, 1) := by decide +kernel
theorem dL_1239 : decode code 1239 = .ok (.iconst 4, 1) := by decide +kernel
theorem dL_1240 : decode code 1240 = .ok (.iadd, 1) := by decide +kernel
theorem dL_1241 : decode code 1241 = .ok (.iaload, 1) := by decide +kernel
theorem dL_1242 : decode code 1242 = .ok (.aload_n 0, 1) := by decide +kernel
theorem dL_1243 : decode code 1243 = .ok (.iload_n 3, 1) := by decide +kernel
theorem dL_1244 : decode code 1244 = .ok (.iconst 5, 1) := by decide +kernel
theorem dL_1245 : decode code 1245 = .ok (.iadd, 1) := by decide +kernel
theorem dL_1246 : decode code 1246 = .ok (.iaload, 1) := by decide +kernel
theorem dL_1247 : decode code 1247 = .ok (.invokevirtual 149, 3) := by decide +kernel
theorem dL_1250 : decode code 1250 = .ok (.if_icmp .eq 242, 3) := by decide +kernel
theorem dL_1253 : decode code 1253 = .ok (.iconst 0, 1) := by decide +kernel
theorem dL_1254 : decode code 1254 = .ok (.ireturn, 1) := by decide +kernel
theorem dL_1255 : decode code 1255 = .ok (.aload_n 1, 1) := by decide +kernel
theorem dL_1256 : decode code 1256 = .ok (.aload_n 0, 1) := by decide +kernel
theorem dL_1257 : decode code 1257 = .ok (.iload_n 3, 1) := by decide +kernel
theorem dL_1258 : decode code 1258 = .ok (.iconst 1, 1) := by decide +kernel
theorem dL_1259 : decode code 1259 = .ok (.iadd, 1) := by decide +kernel
theorem dL_1260 : decode code 1260 = .ok (.iaload, 1) := by decide +kernel
theorem dL_1261 : decode code 1261 = .ok (.aload_n 0, 1) := by decide +kernel
theorem dL_1262 : decode code 1262 = .ok (.iload_n 3, 1) := by decide +kernel
theorem dL_1263 : decode code 1263 = .ok (.iconst 2, 1) := by decide +kernel
theorem dL_1264 : decode code 1264 = .ok (.iadd, 1) := by decide +kernel
theorem dL_1265 : decode code 1265 = .ok (.iaload, 1) := by decide +kernel
theorem dL_1266 : decode code 1266 = .ok (.aload_n 0, 1) := by decide +kernel
theorem dL_1267 : decode code 1267 = .ok (.iload_n 3, 1) := by decide +kernel
theorem dL_1268 : decode code 1268 = .ok (.iconst 3, 1) := by decide +kernel
theorem dL_1269 : decode code 1269 = .ok (.iadd, 1) := by decide +kernel
theorem dL_1270 : decode code 1270 = .ok (.iaload, 1) := by decide +kernel
theorem dL_1271 : decode code 1271 = .ok (.invokevirtual 150, 3) := by decide +kernel
