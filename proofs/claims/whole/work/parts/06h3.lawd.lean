theorem dL_law_1108 : decode code 1108 = .ok (.iadd, 1) := by decide +kernel
theorem dL_law_1109 : decode code 1109 = .ok (.iaload, 1) := by decide +kernel
theorem dL_law_1110 : decode code 1110 = .ok (.invokevirtual 133, 3) := by decide +kernel
theorem dL_law_1113 : decode code 1113 = .ok (.aload_n 2, 1) := by decide +kernel
theorem dL_law_1114 : decode code 1114 = .ok (.aload_n 0, 1) := by decide +kernel
theorem dL_law_1115 : decode code 1115 = .ok (.iload_n 3, 1) := by decide +kernel
theorem dL_law_1116 : decode code 1116 = .ok (.iconst 1, 1) := by decide +kernel
theorem dL_law_1117 : decode code 1117 = .ok (.iadd, 1) := by decide +kernel
theorem dL_law_1118 : decode code 1118 = .ok (.iaload, 1) := by decide +kernel
theorem dL_law_1119 : decode code 1119 = .ok (.invokevirtual 136, 3) := by decide +kernel
theorem dL_law_1122 : decode code 1122 = .ok (.if_icmp .eq 287, 3) := by decide +kernel
theorem dL_law_1125 : decode code 1125 = .ok (.iconst 0, 1) := by decide +kernel
theorem dL_law_1126 : decode code 1126 = .ok (.ireturn, 1) := by decide +kernel
theorem dL_law_1127 : decode code 1127 = .ok (.aload_n 1, 1) := by decide +kernel
theorem dL_law_1128 : decode code 1128 = .ok (.aload_n 0, 1) := by decide +kernel
theorem dL_law_1129 : decode code 1129 = .ok (.iload_n 3, 1) := by decide +kernel
theorem dL_law_1130 : decode code 1130 = .ok (.iconst 1, 1) := by decide +kernel
theorem dL_law_1131 : decode code 1131 = .ok (.iadd, 1) := by decide +kernel
theorem dL_law_1132 : decode code 1132 = .ok (.iaload, 1) := by decide +kernel
theorem dL_law_1133 : decode code 1133 = .ok (.aload_n 0, 1) := by decide +kernel
theorem dL_law_1134 : decode code 1134 = .ok (.iload_n 3, 1) := by decide +kernel
theorem dL_law_1135 : decode code 1135 = .ok (.iconst 2, 1) := by decide +kernel
theorem dL_law_1136 : decode code 1136 = .ok (.iadd, 1) := by decide +kernel
theorem dL_law_1137 : decode code 1137 = .ok (.iaload, 1) := by decide +kernel
theorem dL_law_1138 : decode code 1138 = .ok (.ifCond .eq 7, 3) := by decide +kernel
theorem dL_law_1141 : decode code 1141 = .ok (.iconst 1, 1) := by decide +kernel
theorem dL_law_1142 : decode code 1142 = .ok (.goto 4, 3) := by decide +kernel
theorem dL_law_1145 : decode code 1145 = .ok (.iconst 0, 1) := by decide +kernel
theorem dL_law_1146 : decode code 1146 = .ok (.invokevirtual 137, 3) := by decide +kernel
theorem dL_law_1149 : decode code 1149 = .ok (.aload_n 2, 1) := by decide +kernel
theorem dL_law_1150 : decode code 1150 = .ok (.aload_n 0, 1) := by decide +kernel
theorem dL_law_1151 : decode code 1151 = .ok (.iload_n 3, 1) := by decide +kernel
theorem dL_law_1152 : decode code 1152 = .ok (.iconst 1, 1) := by decide +kernel
theorem dL_law_1153 : decode code 1153 = .ok (.iadd, 1) := by decide +kernel
theorem dL_law_1154 : decode code 1154 = .ok (.iaload, 1) := by decide +kernel
theorem dL_law_1155 : decode code 1155 = .ok (.aload_n 0, 1) := by decide +kernel
theorem dL_law_1156 : decode code 1156 = .ok (.iload_n 3, 1) := by decide +kernel
theorem dL_law_1157 : decode code 1157 = .ok (.iconst 2, 1) := by decide +kernel
theorem dL_law_1158 : decode code 1158 = .ok (.iadd, 1) := by decide +kernel
theorem dL_law_1159 : decode code 1159 = .ok (.iaload, 1) := by decide +kernel
theorem dL_law_1160 : decode code 1160 = .ok (.ifCond .eq 7, 3) := by decide +kernel
theorem dL_law_1163 : decode code 1163 = .ok (.iconst 1, 1) := by decide +kernel
theorem dL_law_1164 : decode code 1164 = .ok (.goto 4, 3) := by decide +kernel
theorem dL_law_1167 : decode code 1167 = .ok (.iconst 0, 1) := by decide +kernel
theorem dL_law_1168 : decode code 1168 = .ok (.invokevirtual 141, 3) := by decide +kernel
theorem dL_law_1171 : decode code 1171 = .ok (.if_icmp .eq 238, 3) := by decide +kernel
theorem dL_law_1174 : decode code 1174 = .ok (.iconst 0, 1) := by decide +kernel
theorem dL_law_1175 : decode code 1175 = .ok (.ireturn, 1) := by decide +kernel
theorem dL_law_1176 : decode code 1176 = .ok (.aload_n 1, 1) := by decide +kernel
theorem dL_law_1177 : decode code 1177 = .ok (.aload_n 0, 1) := by decide +kernel
theorem dL_law_1178 : decode code 1178 = .ok (.iload_n 3, 1) := by decide +kernel
theorem dL_law_1179 : decode code 1179 = .ok (.iconst 1, 1) := by decide +kernel
theorem dL_law_1180 : decode code 1180 = .ok (.iadd, 1) := by decide +kernel
theorem dL_law_1181 : decode code 1181 = .ok (.iaload, 1) := by decide +kernel
theorem dL_law_1182 : decode code 1182 = .ok (.invokevirtual 142, 3) := by decide +kernel
theorem dL_law_1185 : decode code 1185 = .ok (.aload_n 2, 1) := by decide +kernel
theorem dL_law_1186 : decode code 1186 = .ok (.aload_n 0, 1) := by decide +kernel
theorem dL_law_1187 : decode code 1187 = .ok (.iload_n 3, 1) := by decide +kernel
theorem dL_law_1188 : decode code 1188 = .ok (.iconst 1, 1) := by decide +kernel
theorem dL_law_1189 : decode code 1189 = .ok (.iadd, 1) := by decide +kernel
theorem dL_law_1190 : decode code 1190 = .ok (.iaload, 1) := by decide +kernel
theorem dL_law_1191 : decode code 1191 = .ok (.invokevirtual 145, 3) := by decide +kernel
theorem dL_law_1194 : decode code 1194 = .ok (.if_icmp .eq 215, 3) := by decide +kernel
theorem dL_law_1197 : decode code 1197 = .ok (.iconst 0, 1) := by decide +kernel
theorem dL_law_1198 : decode code 1198 = .ok (.ireturn, 1) := by decide +kernel
theorem dL_law_1199 : decode code 1199 = .ok (.aload_n 1, 1) := by decide +kernel
theorem dL_law_1200 : decode code 1200 = .ok (.aload_n 0, 1) := by decide +kernel
theorem dL_law_1201 : decode code 1201 = .ok (.iload_n 3, 1) := by decide +kernel
theorem dL_law_1202 : decode code 1202 = .ok (.iconst 1, 1) := by decide +kernel
theorem dL_law_1203 : decode code 1203 = .ok (.iadd, 1) := by decide +kernel
theorem dL_law_1204 : decode code 1204 = .ok (.iaload, 1) := by decide +kernel
theorem dL_law_1205 : decode code 1205 = .ok (.invokevirtual 146, 3) := by decide +kernel
theorem dL_law_1208 : decode code 1208 = .ok (.aload_n 2, 1) := by decide +kernel
theorem dL_law_1209 : decode code 1209 = .ok (.aload_n 0, 1) := by decide +kernel
theorem dL_law_1210 : decode code 1210 = .ok (.iload_n 3, 1) := by decide +kernel
theorem dL_law_1211 : decode code 1211 = .ok (.iconst 1, 1) := by decide +kernel
theorem dL_law_1212 : decode code 1212 = .ok (.iadd, 1) := by decide +kernel
theorem dL_law_1213 : decode code 1213 = .ok (.iaload, 1) := by decide +kernel
theorem dL_law_1214 : decode code 1214 = .ok (.invokevirtual 149, 3) := by decide +kernel
theorem dL_law_1217 : decode code 1217 = .ok (.if_icmp .eq 192, 3) := by decide +kernel
theorem dL_law_1220 : decode code 1220 = .ok (.iconst 0, 1) := by decide +kernel
theorem dL_law_1221 : decode code 1221 = .ok (.ireturn, 1) := by decide +kernel
theorem dL_law_1222 : decode code 1222 = .ok (.aload_n 1, 1) := by decide +kernel
theorem dL_law_1223 : decode code 1223 = .ok (.aload_n 0, 1) := by decide +kernel
theorem dL_law_1224 : decode code 1224 = .ok (.iload_n 3, 1) := by decide +kernel
theorem dL_law_1225 : decode code 1225 = .ok (.iconst 1, 1) := by decide +kernel
theorem dL_law_1226 : decode code 1226 = .ok (.iadd, 1) := by decide +kernel
theorem dL_law_1227 : decode code 1227 = .ok (.iaload, 1) := by decide +kernel
theorem dL_law_1228 : decode code 1228 = .ok (.invokevirtual 150, 3) := by decide +kernel
theorem dL_law_1231 : decode code 1231 = .ok (.aload_n 2, 1) := by decide +kernel
theorem dL_law_1232 : decode code 1232 = .ok (.aload_n 0, 1) := by decide +kernel
theorem dL_law_1233 : decode code 1233 = .ok (.iload_n 3, 1) := by decide +kernel
theorem dL_law_1234 : decode code 1234 = .ok (.iconst 1, 1) := by decide +kernel
theorem dL_law_1235 : decode code 1235 = .ok (.iadd, 1) := by decide +kernel
theorem dL_law_1236 : decode code 1236 = .ok (.iaload, 1) := by decide +kernel
theorem dL_law_1237 : decode code 1237 = .ok (.invokevirtual 153, 3) := by decide +kernel
theorem dL_law_1240 : decode code 1240 = .ok (.if_icmp .eq 169, 3) := by decide +kernel
theorem dL_law_1243 : decode code 1243 = .ok (.iconst 0, 1) := by decide +kernel
theorem dL_law_1244 : decode code 1244 = .ok (.ireturn, 1) := by decide +kernel
theorem dL_law_1245 : decode code 1245 = .ok (.aload_n 1, 1) := by decide +kernel
theorem dL_law_1246 : decode code 1246 = .ok (.aload_n 0, 1) := by decide +kernel
theorem dL_law_1247 : decode code 1247 = .ok (.iload_n 3, 1) := by decide +kernel
theorem dL_law_1248 : decode code 1248 = .ok (.iconst 1, 1) := by decide +kernel
theorem dL_law_1249 : decode code 1249 = .ok (.iadd, 1) := by decide +kernel
theorem dL_law_1250 : decode code 1250 = .ok (.iaload, 1) := by decide +kernel
theorem dL_law_1251 : decode code 1251 = .ok (.aload_n 0, 1) := by decide +kernel
theorem dL_law_1252 : decode code 1252 = .ok (.iload_n 3, 1) := by decide +kernel
theorem dL_law_1253 : decode code 1253 = .ok (.iconst 2, 1) := by decide +kernel
theorem dL_law_1254 : decode code 1254 = .ok (.iadd, 1) := by decide +kernel
theorem dL_law_1255 : decode code 1255 = .ok (.iaload, 1) := by decide +kernel
theorem dL_law_1256 : decode code 1256 = .ok (.aload_n 0, 1) := by decide +kernel
theorem dL_law_1257 : decode code 1257 = .ok (.iload_n 3, 1) := by decide +kernel
theorem dL_law_1258 : decode code 1258 = .ok (.iconst 3, 1) := by decide +kernel
theorem dL_law_1259 : decode code 1259 = .ok (.iadd, 1) := by decide +kernel
theorem dL_law_1260 : decode code 1260 = .ok (.iaload, 1) := by decide +kernel
theorem dL_law_1261 : decode code 1261 = .ok (.invokevirtual 154, 3) := by decide +kernel
theorem dL_law_1264 : decode code 1264 = .ok (.aload_n 2, 1) := by decide +kernel
theorem dL_law_1265 : decode code 1265 = .ok (.aload_n 0, 1) := by decide +kernel
theorem dL_law_1266 : decode code 1266 = .ok (.iload_n 3, 1) := by decide +kernel
theorem dL_law_1267 : decode code 1267 = .ok (.iconst 1, 1) := by decide +kernel
theorem dL_law_1268 : decode code 1268 = .ok (.iadd, 1) := by decide +kernel
theorem dL_law_1269 : decode code 1269 = .ok (.iaload, 1) := by decide +kernel
theorem dL_law_1270 : decode code 1270 = .ok (.aload_n 0, 1) := by decide +kernel
theorem dL_law_1271 : decode code 1271 = .ok (.iload_n 3, 1) := by decide +kernel
theorem dL_law_1272 : decode code 1272 = .ok (.iconst 2, 1) := by decide +kernel
theorem dL_law_1273 : decode code 1273 = .ok (.iadd, 1) := by decide +kernel
theorem dL_law_1274 : decode code 1274 = .ok (.iaload, 1) := by decide +kernel
theorem dL_law_1275 : decode code 1275 = .ok (.aload_n 0, 1) := by decide +kernel
theorem dL_law_1276 : decode code 1276 = .ok (.iload_n 3, 1) := by decide +kernel
theorem dL_law_1277 : decode code 1277 = .ok (.iconst 3, 1) := by decide +kernel
theorem dL_law_1278 : decode code 1278 = .ok (.iadd, 1) := by decide +kernel
theorem dL_law_1279 : decode code 1279 = .ok (.iaload, 1) := by decide +kernel
theorem dL_law_1280 : decode code 1280 = .ok (.invokevirtual 157, 3) := by decide +kernel
theorem dL_law_1283 : decode code 1283 = .ok (.if_icmp .eq 126, 3) := by decide +kernel
theorem dL_law_1286 : decode code 1286 = .ok (.iconst 0, 1) := by decide +kernel
theorem dL_law_1287 : decode code 1287 = .ok (.ireturn, 1) := by decide +kernel
theorem dL_law_1288 : decode code 1288 = .ok (.aload_n 1, 1) := by decide +kernel
theorem dL_law_1289 : decode code 1289 = .ok (.aload_n 0, 1) := by decide +kernel
theorem dL_law_1290 : decode code 1290 = .ok (.iload_n 3, 1) := by decide +kernel
theorem dL_law_1291 : decode code 1291 = .ok (.iconst 1, 1) := by decide +kernel
theorem dL_law_1292 : decode code 1292 = .ok (.iadd, 1) := by decide +kernel
theorem dL_law_1293 : decode code 1293 = .ok (.iaload, 1) := by decide +kernel
theorem dL_law_1294 : decode code 1294 = .ok (.invokevirtual 158, 3) := by decide +kernel
theorem dL_law_1297 : decode code 1297 = .ok (.aload_n 2, 1) := by decide +kernel
theorem dL_law_1298 : decode code 1298 = .ok (.aload_n 0, 1) := by decide +kernel
theorem dL_law_1299 : decode code 1299 = .ok (.iload_n 3, 1) := by decide +kernel
theorem dL_law_1300 : decode code 1300 = .ok (.iconst 1, 1) := by decide +kernel
theorem dL_law_1301 : decode code 1301 = .ok (.iadd, 1) := by decide +kernel
theorem dL_law_1302 : decode code 1302 = .ok (.iaload, 1) := by decide +kernel
theorem dL_law_1303 : decode code 1303 = .ok (.invokevirtual 161, 3) := by decide +kernel
theorem dL_law_1306 : decode code 1306 = .ok (.if_icmp .eq 103, 3) := by decide +kernel
theorem dL_law_1309 : decode code 1309 = .ok (.iconst 0, 1) := by decide +kernel
theorem dL_law_1310 : decode code 1310 = .ok (.ireturn, 1) := by decide +kernel
theorem dL_law_1311 : decode code 1311 = .ok (.aload_n 1, 1) := by decide +kernel
theorem dL_law_1312 : decode code 1312 = .ok (.aload_n 0, 1) := by decide +kernel
theorem dL_law_1313 : decode code 1313 = .ok (.iload_n 3, 1) := by decide +kernel
theorem dL_law_1314 : decode code 1314 = .ok (.iconst 1, 1) := by decide +kernel
theorem dL_law_1315 : decode code 1315 = .ok (.iadd, 1) := by decide +kernel
theorem dL_law_1316 : decode code 1316 = .ok (.iaload, 1) := by decide +kernel
theorem dL_law_1317 : decode code 1317 = .ok (.invokevirtual 162, 3) := by decide +kernel
theorem dL_law_1320 : decode code 1320 = .ok (.aload_n 2, 1) := by decide +kernel
theorem dL_law_1321 : decode code 1321 = .ok (.aload_n 0, 1) := by decide +kernel
theorem dL_law_1322 : decode code 1322 = .ok (.iload_n 3, 1) := by decide +kernel
theorem dL_law_1323 : decode code 1323 = .ok (.iconst 1, 1) := by decide +kernel
theorem dL_law_1324 : decode code 1324 = .ok (.iadd, 1) := by decide +kernel
theorem dL_law_1325 : decode code 1325 = .ok (.iaload, 1) := by decide +kernel
theorem dL_law_1326 : decode code 1326 = .ok (.invokevirtual 165, 3) := by decide +kernel
theorem dL_law_1329 : decode code 1329 = .ok (.if_icmp .eq 80, 3) := by decide +kernel
theorem dL_law_1332 : decode code 1332 = .ok (.iconst 0, 1) := by decide +kernel
theorem dL_law_1333 : decode code 1333 = .ok (.ireturn, 1) := by decide +kernel
theorem dL_law_1334 : decode code 1334 = .ok (.aload_n 1, 1) := by decide +kernel
theorem dL_law_1335 : decode code 1335 = .ok (.invokevirtual 166, 3) := by decide +kernel
theorem dL_law_1338 : decode code 1338 = .ok (.aload_n 2, 1) := by decide +kernel
theorem dL_law_1339 : decode code 1339 = .ok (.invokevirtual 170, 3) := by decide +kernel
theorem dL_law_1342 : decode code 1342 = .ok (.if_icmp .eq 67, 3) := by decide +kernel
theorem dL_law_1345 : decode code 1345 = .ok (.iconst 0, 1) := by decide +kernel
theorem dL_law_1346 : decode code 1346 = .ok (.ireturn, 1) := by decide +kernel
theorem dL_law_1347 : decode code 1347 = .ok (.aload_n 1, 1) := by decide +kernel
theorem dL_law_1348 : decode code 1348 = .ok (.aload_n 0, 1) := by decide +kernel
theorem dL_law_1349 : decode code 1349 = .ok (.iload_n 3, 1) := by decide +kernel
theorem dL_law_1350 : decode code 1350 = .ok (.iconst 1, 1) := by decide +kernel
theorem dL_law_1351 : decode code 1351 = .ok (.iadd, 1) := by decide +kernel
theorem dL_law_1352 : decode code 1352 = .ok (.iaload, 1) := by decide +kernel
theorem dL_law_1353 : decode code 1353 = .ok (.ifCond .eq 7, 3) := by decide +kernel
theorem dL_law_1356 : decode code 1356 = .ok (.iconst 1, 1) := by decide +kernel
theorem dL_law_1357 : decode code 1357 = .ok (.goto 4, 3) := by decide +kernel
theorem dL_law_1360 : decode code 1360 = .ok (.iconst 0, 1) := by decide +kernel
theorem dL_law_1361 : decode code 1361 = .ok (.invokevirtual 171, 3) := by decide +kernel
theorem dL_law_1364 : decode code 1364 = .ok (.aload_n 2, 1) := by decide +kernel
theorem dL_law_1365 : decode code 1365 = .ok (.aload_n 0, 1) := by decide +kernel
theorem dL_law_1366 : decode code 1366 = .ok (.iload_n 3, 1) := by decide +kernel
theorem dL_law_1367 : decode code 1367 = .ok (.iconst 1, 1) := by decide +kernel
theorem dL_law_1368 : decode code 1368 = .ok (.iadd, 1) := by decide +kernel
theorem dL_law_1369 : decode code 1369 = .ok (.iaload, 1) := by decide +kernel
theorem dL_law_1370 : decode code 1370 = .ok (.ifCond .eq 7, 3) := by decide +kernel
theorem dL_law_1373 : decode code 1373 = .ok (.iconst 1, 1) := by decide +kernel
theorem dL_law_1374 : decode code 1374 = .ok (.goto 4, 3) := by decide +kernel
theorem dL_law_1377 : decode code 1377 = .ok (.iconst 0, 1) := by decide +kernel
theorem dL_law_1378 : decode code 1378 = .ok (.invokevirtual 175, 3) := by decide +kernel
theorem dL_law_1381 : decode code 1381 = .ok (.if_icmp .eq 28, 3) := by decide +kernel
theorem dL_law_1384 : decode code 1384 = .ok (.iconst 0, 1) := by decide +kernel
theorem dL_law_1385 : decode code 1385 = .ok (.ireturn, 1) := by decide +kernel
theorem dL_law_1386 : decode code 1386 = .ok (.aload_n 1, 1) := by decide +kernel
theorem dL_law_1387 : decode code 1387 = .ok (.aload_n 0, 1) := by decide +kernel
theorem dL_law_1388 : decode code 1388 = .ok (.iload_n 3, 1) := by decide +kernel
theorem dL_law_1389 : decode code 1389 = .ok (.iconst 1, 1) := by decide +kernel
theorem dL_law_1390 : decode code 1390 = .ok (.iadd, 1) := by decide +kernel
theorem dL_law_1391 : decode code 1391 = .ok (.iaload, 1) := by decide +kernel
theorem dL_law_1392 : decode code 1392 = .ok (.invokevirtual 176, 3) := by decide +kernel
theorem dL_law_1395 : decode code 1395 = .ok (.aload_n 2, 1) := by decide +kernel
theorem dL_law_1396 : decode code 1396 = .ok (.aload_n 0, 1) := by decide +kernel
theorem dL_law_1397 : decode code 1397 = .ok (.iload_n 3, 1) := by decide +kernel
theorem dL_law_1398 : decode code 1398 = .ok (.iconst 1, 1) := by decide +kernel
theorem dL_law_1399 : decode code 1399 = .ok (.iadd, 1) := by decide +kernel
theorem dL_law_1400 : decode code 1400 = .ok (.iaload, 1) := by decide +kernel
theorem dL_law_1401 : decode code 1401 = .ok (.invokevirtual 179, 3) := by decide +kernel
theorem dL_law_1404 : decode code 1404 = .ok (.if_icmp .eq 5, 3) := by decide +kernel
theorem dL_law_1407 : decode code 1407 = .ok (.iconst 0, 1) := by decide +kernel
theorem dL_law_1408 : decode code 1408 = .ok (.ireturn, 1) := by decide +kernel
theorem dL_law_1409 : decode code 1409 = .ok (.iinc 3 6, 3) := by decide +kernel
theorem dL_law_1412 : decode code 1412 = .ok (.goto (-1394), 3) := by decide +kernel
theorem dL_law_1415 : decode code 1415 = .ok (.iconst 1, 1) := by decide +kernel
theorem dL_law_1416 : decode code 1416 = .ok (.ireturn, 1) := by decide +kernel
