/-! the law's instructions -/
theorem dL_1058 : decode code 1058 = .ok (.if_icmp .eq 318, 3) := by decide +kernel
theorem dL_1063 : decode code 1063 = .ok (.aload_n 1, 1) := by decide +kernel
theorem dL_1064 : decode code 1064 = .ok (.aload_n 0, 1) := by decide +kernel
theorem dL_1065 : decode code 1065 = .ok (.iload_n 3, 1) := by decide +kernel
theorem dL_1066 : decode code 1066 = .ok (.iconst 1, 1) := by decide +kernel
theorem dL_1067 : decode code 1067 = .ok (.iadd, 1) := by decide +kernel
theorem dL_1068 : decode code 1068 = .ok (.iaload, 1) := by decide +kernel
theorem dL_1069 : decode code 1069 = .ok (.aload_n 0, 1) := by decide +kernel
theorem dL_1070 : decode code 1070 = .ok (.iload_n 3, 1) := by decide +kernel
theorem dL_1071 : decode code 1071 = .ok (.iconst 2, 1) := by decide +kernel
theorem dL_1072 : decode code 1072 = .ok (.iadd, 1) := by decide +kernel
theorem dL_1073 : decode code 1073 = .ok (.iaload, 1) := by decide +kernel
theorem dL_1074 : decode code 1074 = .ok (.aload_n 0, 1) := by decide +kernel
theorem dL_1075 : decode code 1075 = .ok (.iload_n 3, 1) := by decide +kernel
theorem dL_1076 : decode code 1076 = .ok (.iconst 3, 1) := by decide +kernel
theorem dL_1077 : decode code 1077 = .ok (.iadd, 1) := by decide +kernel
theorem dL_1078 : decode code 1078 = .ok (.iaload, 1) := by decide +kernel
theorem dL_1079 : decode code 1079 = .ok (.invokevirtual 119, 3) := by decide +kernel
theorem dL_1082 : decode code 1082 = .ok (.aload_n 2, 1) := by decide +kernel
theorem dL_1083 : decode code 1083 = .ok (.aload_n 0, 1) := by decide +kernel
theorem dL_1084 : decode code 1084 = .ok (.iload_n 3, 1) := by decide +kernel
theorem dL_1085 : decode code 1085 = .ok (.iconst 1, 1) := by decide +kernel
theorem dL_1086 : decode code 1086 = .ok (.iadd, 1) := by decide +kernel
theorem dL_1087 : decode code 1087 = .ok (.iaload, 1) := by decide +kernel
theorem dL_1088 : decode code 1088 = .ok (.aload_n 0, 1) := by decide +kernel
theorem dL_1089 : decode code 1089 = .ok (.iload_n 3, 1) := by decide +kernel
theorem dL_1090 : decode code 1090 = .ok (.iconst 2, 1) := by decide +kernel
theorem dL_1091 : decode code 1091 = .ok (.iadd, 1) := by decide +kernel
theorem dL_1092 : decode code 1092 = .ok (.iaload, 1) := by decide +kernel
theorem dL_1093 : decode code 1093 = .ok (.aload_n 0, 1) := by decide +kernel
theorem dL_1094 : decode code 1094 = .ok (.iload_n 3, 1) := by decide +kernel
theorem dL_1095 : decode code 1095 = .ok (.iconst 3, 1) := by decide +kernel
theorem dL_1096 : decode code 1096 = .ok (.iadd, 1) := by decide +kernel
theorem dL_1097 : decode code 1097 = .ok (.iaload, 1) := by decide +kernel
theorem dL_1098 : decode code 1098 = .ok (.invokevirtual 122, 3) := by decide +kernel
theorem dL_1101 : decode code 1101 = .ok (.if_icmp .eq 275, 3) := by decide +kernel
theorem dL_1106 : decode code 1106 = .ok (.aload_n 1, 1) := by decide +kernel
theorem dL_1107 : decode code 1107 = .ok (.aload_n 0, 1) := by decide +kernel
theorem dL_1108 : decode code 1108 = .ok (.iload_n 3, 1) := by decide +kernel
theorem dL_1109 : decode code 1109 = .ok (.iconst 1, 1) := by decide +kernel
theorem dL_1110 : decode code 1110 = .ok (.iadd, 1) := by decide +kernel
theorem dL_1111 : decode code 1111 = .ok (.iaload, 1) := by decide +kernel
theorem dL_1112 : decode code 1112 = .ok (.aload_n 0, 1) := by decide +kernel
theorem dL_1113 : decode code 1113 = .ok (.iload_n 3, 1) := by decide +kernel
theorem dL_1114 : decode code 1114 = .ok (.iconst 2, 1) := by decide +kernel
theorem dL_1115 : decode code 1115 = .ok (.iadd, 1) := by decide +kernel
theorem dL_1116 : decode code 1116 = .ok (.iaload, 1) := by decide +kernel
theorem dL_1117 : decode code 1117 = .ok (.invokevirtual 123, 3) := by decide +kernel
theorem dL_1120 : decode code 1120 = .ok (.aload_n 2, 1) := by decide +kernel
theorem dL_1121 : decode code 1121 = .ok (.aload_n 0, 1) := by decide +kernel
theorem dL_1122 : decode code 1122 = .ok (.iload_n 3, 1) := by decide +kernel
theorem dL_1123 : decode code 1123 = .ok (.iconst 1, 1) := by decide +kernel
theorem dL_1124 : decode code 1124 = .ok (.iadd, 1) := by decide +kernel
theorem dL_1125 : decode code 1125 = .ok (.iaload, 1) := by decide +kernel
theorem dL_1126 : decode code 1126 = .ok (.aload_n 0, 1) := by decide +kernel
theorem dL_1127 : decode code 1127 = .ok (.iload_n 3, 1) := by decide +kernel
theorem dL_1128 : decode code 1128 = .ok (.iconst 2, 1) := by decide +kernel
theorem dL_1129 : decode code 1129 = .ok (.iadd, 1) := by decide +kernel
theorem dL_1130 : decode code 1130 = .ok (.iaload, 1) := by decide +kernel
theorem dL_1131 : decode code 1131 = .ok (.invokevirtual 126, 3) := by decide +kernel
theorem dL_1134 : decode code 1134 = .ok (.if_icmp .eq 242, 3) := by decide +kernel
theorem dL_1139 : decode code 1139 = .ok (.aload_n 1, 1) := by decide +kernel
theorem dL_1140 : decode code 1140 = .ok (.aload_n 0, 1) := by decide +kernel
theorem dL_1141 : decode code 1141 = .ok (.iload_n 3, 1) := by decide +kernel
theorem dL_1142 : decode code 1142 = .ok (.iconst 1, 1) := by decide +kernel
theorem dL_1143 : decode code 1143 = .ok (.iadd, 1) := by decide +kernel
theorem dL_1144 : decode code 1144 = .ok (.iaload, 1) := by decide +kernel
theorem dL_1145 : decode code 1145 = .ok (.aload_n 0, 1) := by decide +kernel
theorem dL_1146 : decode code 1146 = .ok (.iload_n 3, 1) := by decide +kernel
theorem dL_1147 : decode code 1147 = .ok (.iconst 2, 1) := by decide +kernel
theorem dL_1148 : decode code 1148 = .ok (.iadd, 1) := by decide +kernel
theorem dL_1149 : decode code 1149 = .ok (.iaload, 1) := by decide +kernel
theorem dL_1150 : decode code 1150 = .ok (.aload_n 0, 1) := by decide +kernel
theorem dL_1151 : decode code 1151 = .ok (.iload_n 3, 1) := by decide +kernel
theorem dL_1152 : decode code 1152 = .ok (.iconst 3, 1) := by decide +kernel
theorem dL_1153 : decode code 1153 = .ok (.iadd, 1) := by decide +kernel
theorem dL_1154 : decode code 1154 = .ok (.iaload, 1) := by decide +kernel
theorem dL_1155 : decode code 1155 = .ok (.invokevirtual 127, 3) := by decide +kernel
theorem dL_1158 : decode code 1158 = .ok (.aload_n 2, 1) := by decide +kernel
theorem dL_1159 : decode code 1159 = .ok (.aload_n 0, 1) := by decide +kernel
theorem dL_1160 : decode code 1160 = .ok (.iload_n 3, 1) := by decide +kernel
theorem dL_1161 : decode code 1161 = .ok (.iconst 1, 1) := by decide +kernel
theorem dL_1162 : decode code 1162 = .ok (.iadd, 1) := by decide +kernel
theorem dL_1163 : decode code 1163 = .ok (.iaload, 1) := by decide +kernel
theorem dL_1164 : decode code 1164 = .ok (.aload_n 0, 1) := by decide +kernel
theorem dL_1165 : decode code 1165 = .ok (.iload_n 3, 1) := by decide +kernel
theorem dL_1166 : decode code 1166 = .ok (.iconst 2, 1) := by decide +kernel
theorem dL_1167 : decode code 1167 = .ok (.iadd, 1) := by decide +kernel
theorem dL_1168 : decode code 1168 = .ok (.iaload, 1) := by decide +kernel
theorem dL_1169 : decode code 1169 = .ok (.aload_n 0, 1) := by decide +kernel
theorem dL_1170 : decode code 1170 = .ok (.iload_n 3, 1) := by decide +kernel
theorem dL_1171 : decode code 1171 = .ok (.iconst 3, 1) := by decide +kernel
theorem dL_1172 : decode code 1172 = .ok (.iadd, 1) := by decide +kernel
theorem dL_1173 : decode code 1173 = .ok (.iaload, 1) := by decide +kernel
theorem dL_1174 : decode code 1174 = .ok (.invokevirtual 130, 3) := by decide +kernel
theorem dL_1177 : decode code 1177 = .ok (.if_icmp .eq 199, 3) := by decide +kernel
theorem dL_1182 : decode code 1182 = .ok (.aload_n 1, 1) := by decide +kernel
theorem dL_1183 : decode code 1183 = .ok (.aload_n 0, 1) := by decide +kernel
theorem dL_1184 : decode code 1184 = .ok (.iload_n 3, 1) := by decide +kernel
theorem dL_1185 : decode code 1185 = .ok (.iconst 1, 1) := by decide +kernel
theorem dL_1186 : decode code 1186 = .ok (.iadd, 1) := by decide +kernel
theorem dL_1187 : decode code 1187 = .ok (.iaload, 1) := by decide +kernel
theorem dL_1188 : decode code 1188 = .ok (.aload_n 0, 1) := by decide +kernel
theorem dL_1189 : decode code 1189 = .ok (.iload_n 3, 1) := by decide +kernel
theorem dL_1190 : decode code 1190 = .ok (.iconst 2, 1) := by decide +kernel
theorem dL_1191 : decode code 1191 = .ok (.iadd, 1) := by decide +kernel
theorem dL_1192 : decode code 1192 = .ok (.iaload, 1) := by decide +kernel
theorem dL_1193 : decode code 1193 = .ok (.invokevirtual 131, 3) := by decide +kernel
theorem dL_1196 : decode code 1196 = .ok (.aload_n 2, 1) := by decide +kernel
theorem dL_1197 : decode code 1197 = .ok (.aload_n 0, 1) := by decide +kernel
theorem dL_1198 : decode code 1198 = .ok (.iload_n 3, 1) := by decide +kernel
theorem dL_1199 : decode code 1199 = .ok (.iconst 1, 1) := by decide +kernel
theorem dL_1200 : decode code 1200 = .ok (.iadd, 1) := by decide +kernel
theorem dL_1201 : decode code 1201 = .ok (.iaload, 1) := by decide +kernel
theorem dL_1202 : decode code 1202 = .ok (.aload_n 0, 1) := by decide +kernel
theorem dL_1203 : decode code 1203 = .ok (.iload_n 3, 1) := by decide +kernel
theorem dL_1204 : decode code 1204 = .ok (.iconst 2, 1) := by decide +kernel
theorem dL_1205 : decode code 1205 = .ok (.iadd, 1) := by decide +kernel
theorem dL_1206 : decode code 1206 = .ok (.iaload, 1) := by decide +kernel
theorem dL_1207 : decode code 1207 = .ok (.invokevirtual 134, 3) := by decide +kernel
theorem dL_1210 : decode code 1210 = .ok (.if_icmp .eq 166, 3) := by decide +kernel
theorem dL_1215 : decode code 1215 = .ok (.aload_n 1, 1) := by decide +kernel
theorem dL_1216 : decode code 1216 = .ok (.aload_n 0, 1) := by decide +kernel
theorem dL_1217 : decode code 1217 = .ok (.iload_n 3, 1) := by decide +kernel
theorem dL_1218 : decode code 1218 = .ok (.iconst 1, 1) := by decide +kernel
theorem dL_1219 : decode code 1219 = .ok (.iadd, 1) := by decide +kernel
theorem dL_1220 : decode code 1220 = .ok (.iaload, 1) := by decide +kernel
theorem dL_1221 : decode code 1221 = .ok (.invokevirtual 135, 3) := by decide +kernel
theorem dL_1224 : decode code 1224 = .ok (.aload_n 2, 1) := by decide +kernel
theorem dL_1225 : decode code 1225 = .ok (.aload_n 0, 1) := by decide +kernel
theorem dL_1226 : decode code 1226 = .ok (.iload_n 3, 1) := by decide +kernel
theorem dL_1227 : decode code 1227 = .ok (.iconst 1, 1) := by decide +kernel
theorem dL_1228 : decode code 1228 = .ok (.iadd, 1) := by decide +kernel
theorem dL_1229 : decode code 1229 = .ok (.iaload, 1) := by decide +kernel
theorem dL_1230 : decode code 1230 = .ok (.invokevirtual 138, 3) := by decide +kernel
theorem dL_1233 : decode code 1233 = .ok (.if_icmp .eq 143, 3) := by decide +kernel
theorem dL_1238 : decode code 1238 = .ok (.aload_n 1, 1) := by decide +kernel
theorem dL_1239 : decode code 1239 = .ok (.aload_n 0, 1) := by decide +kernel
theorem dL_1240 : decode code 1240 = .ok (.iload_n 3, 1) := by decide +kernel
theorem dL_1241 : decode code 1241 = .ok (.iconst 1, 1) := by decide +kernel
theorem dL_1242 : decode code 1242 = .ok (.iadd, 1) := by decide +kernel
theorem dL_1243 : decode code 1243 = .ok (.iaload, 1) := by decide +kernel
theorem dL_1244 : decode code 1244 = .ok (.invokevirtual 139, 3) := by decide +kernel
theorem dL_1247 : decode code 1247 = .ok (.aload_n 2, 1) := by decide +kernel
theorem dL_1248 : decode code 1248 = .ok (.aload_n 0, 1) := by decide +kernel
theorem dL_1249 : decode code 1249 = .ok (.iload_n 3, 1) := by decide +kernel
theorem dL_1250 : decode code 1250 = .ok (.iconst 1, 1) := by decide +kernel
theorem dL_1251 : decode code 1251 = .ok (.iadd, 1) := by decide +kernel
theorem dL_1252 : decode code 1252 = .ok (.iaload, 1) := by decide +kernel
theorem dL_1253 : decode code 1253 = .ok (.invokevirtual 142, 3) := by decide +kernel
theorem dL_1256 : decode code 1256 = .ok (.if_icmp .eq 120, 3) := by decide +kernel
theorem dL_1261 : decode code 1261 = .ok (.aload_n 1, 1) := by decide +kernel
theorem dL_1262 : decode code 1262 = .ok (.aload_n 0, 1) := by decide +kernel
theorem dL_1263 : decode code 1263 = .ok (.iload_n 3, 1) := by decide +kernel
theorem dL_1264 : decode code 1264 = .ok (.iconst 1, 1) := by decide +kernel
theorem dL_1265 : decode code 1265 = .ok (.iadd, 1) := by decide +kernel
theorem dL_1266 : decode code 1266 = .ok (.iaload, 1) := by decide +kernel
theorem dL_1267 : decode code 1267 = .ok (.aload_n 0, 1) := by decide +kernel
theorem dL_1268 : decode code 1268 = .ok (.iload_n 3, 1) := by decide +kernel
theorem dL_1269 : decode code 1269 = .ok (.iconst 2, 1) := by decide +kernel
theorem dL_1270 : decode code 1270 = .ok (.iadd, 1) := by decide +kernel
theorem dL_1271 : decode code 1271 = .ok (.iaload, 1) := by decide +kernel
theorem dL_1272 : decode code 1272 = .ok (.aload_n 0, 1) := by decide +kernel
theorem dL_1273 : decode code 1273 = .ok (.iload_n 3, 1) := by decide +kernel
theorem dL_1274 : decode code 1274 = .ok (.iconst 3, 1) := by decide +kernel
theorem dL_1275 : decode code 1275 = .ok (.iadd, 1) := by decide +kernel
theorem dL_1276 : decode code 1276 = .ok (.iaload, 1) := by decide +kernel
theorem dL_1277 : decode code 1277 = .ok (.invokevirtual 143, 3) := by decide +kernel
theorem dL_1280 : decode code 1280 = .ok (.aload_n 2, 1) := by decide +kernel
theorem dL_1281 : decode code 1281 = .ok (.aload_n 0, 1) := by decide +kernel
theorem dL_1282 : decode code 1282 = .ok (.iload_n 3, 1) := by decide +kernel
theorem dL_1283 : decode code 1283 = .ok (.iconst 1, 1) := by decide +kernel
theorem dL_1284 : decode code 1284 = .ok (.iadd, 1) := by decide +kernel
theorem dL_1285 : decode code 1285 = .ok (.iaload, 1) := by decide +kernel
theorem dL_1286 : decode code 1286 = .ok (.aload_n 0, 1) := by decide +kernel
theorem dL_1287 : decode code 1287 = .ok (.iload_n 3, 1) := by decide +kernel
theorem dL_1288 : decode code 1288 = .ok (.iconst 2, 1) := by decide +kernel
theorem dL_1289 : decode code 1289 = .ok (.iadd, 1) := by decide +kernel
theorem dL_1290 : decode code 1290 = .ok (.iaload, 1) := by decide +kernel
theorem dL_1291 : decode code 1291 = .ok (.aload_n 0, 1) := by decide +kernel
theorem dL_1292 : decode code 1292 = .ok (.iload_n 3, 1) := by decide +kernel
theorem dL_1293 : decode code 1293 = .ok (.iconst 3, 1) := by decide +kernel
theorem dL_1294 : decode code 1294 = .ok (.iadd, 1) := by decide +kernel
theorem dL_1295 : decode code 1295 = .ok (.iaload, 1) := by decide +kernel
theorem dL_1296 : decode code 1296 = .ok (.invokevirtual 146, 3) := by decide +kernel
theorem dL_1299 : decode code 1299 = .ok (.if_icmp .eq 77, 3) := by decide +kernel
theorem dL_1304 : decode code 1304 = .ok (.aload_n 1, 1) := by decide +kernel
theorem dL_1305 : decode code 1305 = .ok (.aload_n 0, 1) := by decide +kernel
theorem dL_1306 : decode code 1306 = .ok (.iload_n 3, 1) := by decide +kernel
theorem dL_1307 : decode code 1307 = .ok (.iconst 1, 1) := by decide +kernel
theorem dL_1308 : decode code 1308 = .ok (.iadd, 1) := by decide +kernel
theorem dL_1309 : decode code 1309 = .ok (.iaload, 1) := by decide +kernel
theorem dL_1310 : decode code 1310 = .ok (.invokevirtual 147, 3) := by decide +kernel
theorem dL_1313 : decode code 1313 = .ok (.aload_n 2, 1) := by decide +kernel
theorem dL_1314 : decode code 1314 = .ok (.aload_n 0, 1) := by decide +kernel
theorem dL_1315 : decode code 1315 = .ok (.iload_n 3, 1) := by decide +kernel
theorem dL_1316 : decode code 1316 = .ok (.iconst 1, 1) := by decide +kernel
theorem dL_1317 : decode code 1317 = .ok (.iadd, 1) := by decide +kernel
theorem dL_1318 : decode code 1318 = .ok (.iaload, 1) := by decide +kernel
theorem dL_1319 : decode code 1319 = .ok (.invokevirtual 150, 3) := by decide +kernel
theorem dL_1322 : decode code 1322 = .ok (.if_icmp .eq 54, 3) := by decide +kernel
theorem dL_1327 : decode code 1327 = .ok (.aload_n 1, 1) := by decide +kernel
theorem dL_1328 : decode code 1328 = .ok (.invokevirtual 151, 3) := by decide +kernel
theorem dL_1331 : decode code 1331 = .ok (.aload_n 2, 1) := by decide +kernel
theorem dL_1332 : decode code 1332 = .ok (.invokevirtual 154, 3) := by decide +kernel
theorem dL_1335 : decode code 1335 = .ok (.if_icmp .eq 41, 3) := by decide +kernel
theorem dL_1340 : decode code 1340 = .ok (.aload_n 1, 1) := by decide +kernel
theorem dL_1341 : decode code 1341 = .ok (.invokevirtual 155, 3) := by decide +kernel
theorem dL_1344 : decode code 1344 = .ok (.aload_n 2, 1) := by decide +kernel
theorem dL_1345 : decode code 1345 = .ok (.invokevirtual 158, 3) := by decide +kernel
theorem dL_1348 : decode code 1348 = .ok (.if_icmp .eq 28, 3) := by decide +kernel
theorem dL_1353 : decode code 1353 = .ok (.aload_n 1, 1) := by decide +kernel
theorem dL_1354 : decode code 1354 = .ok (.aload_n 0, 1) := by decide +kernel
theorem dL_1355 : decode code 1355 = .ok (.iload_n 3, 1) := by decide +kernel
theorem dL_1356 : decode code 1356 = .ok (.iconst 1, 1) := by decide +kernel
theorem dL_1357 : decode code 1357 = .ok (.iadd, 1) := by decide +kernel
theorem dL_1358 : decode code 1358 = .ok (.iaload, 1) := by decide +kernel
theorem dL_1359 : decode code 1359 = .ok (.invokevirtual 159, 3) := by decide +kernel
theorem dL_1362 : decode code 1362 = .ok (.aload_n 2, 1) := by decide +kernel
theorem dL_1363 : decode code 1363 = .ok (.aload_n 0, 1) := by decide +kernel
theorem dL_1364 : decode code 1364 = .ok (.iload_n 3, 1) := by decide +kernel
theorem dL_1365 : decode code 1365 = .ok (.iconst 1, 1) := by decide +kernel
theorem dL_1366 : decode code 1366 = .ok (.iadd, 1) := by decide +kernel
theorem dL_1367 : decode code 1367 = .ok (.iaload, 1) := by decide +kernel
theorem dL_1368 : decode code 1368 = .ok (.invokevirtual 162, 3) := by decide +kernel
theorem dL_1371 : decode code 1371 = .ok (.if_icmp .eq 5, 3) := by decide +kernel
theorem dL_1376 : decode code 1376 = .ok (.iinc 3 7, 3) := by decide +kernel
theorem dL_1379 : decode code 1379 = .ok (.goto (-1361), 3) := by decide +kernel
theorem dL_1382 : decode code 1382 = .ok (.iconst 1, 1) := by decide +kernel
theorem dL_1383 : decode code 1383 = .ok (.ireturn, 1) := by decide +kernel
