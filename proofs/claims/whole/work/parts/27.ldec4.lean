theorem d_La_law_1112 : decode code 1112 = .ok (.aload_n 3, 1) := by decide +kernel
theorem d_La_law_1113 : decode code 1113 = .ok (.iconst 0, 1) := by decide +kernel
theorem d_La_law_1114 : decode code 1114 = .ok (.laload, 1) := by decide +kernel
theorem d_La_law_1115 : decode code 1115 = .ok (.iload 6, 2) := by decide +kernel
theorem d_La_law_1117 : decode code 1117 = .ok (.i2l, 1) := by decide +kernel
theorem d_La_law_1118 : decode code 1118 = .ok (.lcmp, 1) := by decide +kernel
theorem d_La_law_1119 : decode code 1119 = .ok (.ifCond .eq 5, 3) := by decide +kernel
theorem d_La_law_1122 : decode code 1122 = .ok (.iconst 0, 1) := by decide +kernel
theorem d_La_law_1123 : decode code 1123 = .ok (.ireturn, 1) := by decide +kernel
theorem d_La_law_1124 : decode code 1124 = .ok (.goto 332, 3) := by decide +kernel
theorem d_La_law_1127 : decode code 1127 = .ok (.aload_n 1, 1) := by decide +kernel
theorem d_La_law_1128 : decode code 1128 = .ok (.aload_n 0, 1) := by decide +kernel
theorem d_La_law_1129 : decode code 1129 = .ok (.iload 4, 2) := by decide +kernel
theorem d_La_law_1131 : decode code 1131 = .ok (.iconst 1, 1) := by decide +kernel
theorem d_La_law_1132 : decode code 1132 = .ok (.iadd, 1) := by decide +kernel
theorem d_La_law_1133 : decode code 1133 = .ok (.iaload, 1) := by decide +kernel
theorem d_La_law_1134 : decode code 1134 = .ok (.aload_n 3, 1) := by decide +kernel
theorem d_La_law_1135 : decode code 1135 = .ok (.invokestatic 136, 3) := by decide +kernel
theorem d_La_law_1138 : decode code 1138 = .ok (.istore 5, 2) := by decide +kernel
theorem d_La_law_1140 : decode code 1140 = .ok (.aload_n 2, 1) := by decide +kernel
theorem d_La_law_1141 : decode code 1141 = .ok (.aload_n 0, 1) := by decide +kernel
theorem d_La_law_1142 : decode code 1142 = .ok (.iload 4, 2) := by decide +kernel
theorem d_La_law_1144 : decode code 1144 = .ok (.iconst 1, 1) := by decide +kernel
theorem d_La_law_1145 : decode code 1145 = .ok (.iadd, 1) := by decide +kernel
theorem d_La_law_1146 : decode code 1146 = .ok (.iaload, 1) := by decide +kernel
theorem d_La_law_1147 : decode code 1147 = .ok (.invokevirtual 138, 3) := by decide +kernel
theorem d_La_law_1150 : decode code 1150 = .ok (.lstore 6, 2) := by decide +kernel
theorem d_La_law_1152 : decode code 1152 = .ok (.aload_n 2, 1) := by decide +kernel
theorem d_La_law_1153 : decode code 1153 = .ok (.invokevirtual 83, 3) := by decide +kernel
theorem d_La_law_1156 : decode code 1156 = .ok (.iload 5, 2) := by decide +kernel
theorem d_La_law_1158 : decode code 1158 = .ok (.if_icmp .eq 5, 3) := by decide +kernel
theorem d_La_law_1161 : decode code 1161 = .ok (.iconst 0, 1) := by decide +kernel
theorem d_La_law_1162 : decode code 1162 = .ok (.ireturn, 1) := by decide +kernel
theorem d_La_law_1163 : decode code 1163 = .ok (.iload 5, 2) := by decide +kernel
theorem d_La_law_1165 : decode code 1165 = .ok (.ifCond .ne 14, 3) := by decide +kernel
theorem d_La_law_1168 : decode code 1168 = .ok (.aload_n 3, 1) := by decide +kernel
theorem d_La_law_1169 : decode code 1169 = .ok (.iconst 0, 1) := by decide +kernel
theorem d_La_law_1170 : decode code 1170 = .ok (.laload, 1) := by decide +kernel
theorem d_La_law_1171 : decode code 1171 = .ok (.lload 6, 2) := by decide +kernel
theorem d_La_law_1173 : decode code 1173 = .ok (.lcmp, 1) := by decide +kernel
theorem d_La_law_1174 : decode code 1174 = .ok (.ifCond .eq 5, 3) := by decide +kernel
theorem d_La_law_1177 : decode code 1177 = .ok (.iconst 0, 1) := by decide +kernel
theorem d_La_law_1178 : decode code 1178 = .ok (.ireturn, 1) := by decide +kernel
theorem d_La_law_1179 : decode code 1179 = .ok (.goto 277, 3) := by decide +kernel
theorem d_La_law_1182 : decode code 1182 = .ok (.aload_n 1, 1) := by decide +kernel
theorem d_La_law_1183 : decode code 1183 = .ok (.aload_n 0, 1) := by decide +kernel
theorem d_La_law_1184 : decode code 1184 = .ok (.iload 4, 2) := by decide +kernel
theorem d_La_law_1186 : decode code 1186 = .ok (.iconst 1, 1) := by decide +kernel
theorem d_La_law_1187 : decode code 1187 = .ok (.iadd, 1) := by decide +kernel
theorem d_La_law_1188 : decode code 1188 = .ok (.iaload, 1) := by decide +kernel
theorem d_La_law_1189 : decode code 1189 = .ok (.aload_n 0, 1) := by decide +kernel
theorem d_La_law_1190 : decode code 1190 = .ok (.iload 4, 2) := by decide +kernel
theorem d_La_law_1192 : decode code 1192 = .ok (.iconst 2, 1) := by decide +kernel
theorem d_La_law_1193 : decode code 1193 = .ok (.iadd, 1) := by decide +kernel
theorem d_La_law_1194 : decode code 1194 = .ok (.iaload, 1) := by decide +kernel
theorem d_La_law_1195 : decode code 1195 = .ok (.aload_n 3, 1) := by decide +kernel
theorem d_La_law_1196 : decode code 1196 = .ok (.invokestatic 139, 3) := by decide +kernel
theorem d_La_law_1199 : decode code 1199 = .ok (.istore 5, 2) := by decide +kernel
theorem d_La_law_1201 : decode code 1201 = .ok (.aload_n 2, 1) := by decide +kernel
theorem d_La_law_1202 : decode code 1202 = .ok (.aload_n 0, 1) := by decide +kernel
theorem d_La_law_1203 : decode code 1203 = .ok (.iload 4, 2) := by decide +kernel
theorem d_La_law_1205 : decode code 1205 = .ok (.iconst 1, 1) := by decide +kernel
theorem d_La_law_1206 : decode code 1206 = .ok (.iadd, 1) := by decide +kernel
theorem d_La_law_1207 : decode code 1207 = .ok (.iaload, 1) := by decide +kernel
theorem d_La_law_1208 : decode code 1208 = .ok (.aload_n 0, 1) := by decide +kernel
theorem d_La_law_1209 : decode code 1209 = .ok (.iload 4, 2) := by decide +kernel
theorem d_La_law_1211 : decode code 1211 = .ok (.iconst 2, 1) := by decide +kernel
theorem d_La_law_1212 : decode code 1212 = .ok (.iadd, 1) := by decide +kernel
theorem d_La_law_1213 : decode code 1213 = .ok (.iaload, 1) := by decide +kernel
theorem d_La_law_1214 : decode code 1214 = .ok (.invokevirtual 141, 3) := by decide +kernel
theorem d_La_law_1217 : decode code 1217 = .ok (.istore 6, 2) := by decide +kernel
theorem d_La_law_1219 : decode code 1219 = .ok (.aload_n 2, 1) := by decide +kernel
theorem d_La_law_1220 : decode code 1220 = .ok (.invokevirtual 83, 3) := by decide +kernel
theorem d_La_law_1223 : decode code 1223 = .ok (.iload 5, 2) := by decide +kernel
theorem d_La_law_1225 : decode code 1225 = .ok (.if_icmp .eq 5, 3) := by decide +kernel
theorem d_La_law_1228 : decode code 1228 = .ok (.iconst 0, 1) := by decide +kernel
theorem d_La_law_1229 : decode code 1229 = .ok (.ireturn, 1) := by decide +kernel
theorem d_La_law_1230 : decode code 1230 = .ok (.iload 5, 2) := by decide +kernel
theorem d_La_law_1232 : decode code 1232 = .ok (.ifCond .ne 15, 3) := by decide +kernel
theorem d_La_law_1235 : decode code 1235 = .ok (.aload_n 3, 1) := by decide +kernel
theorem d_La_law_1236 : decode code 1236 = .ok (.iconst 0, 1) := by decide +kernel
theorem d_La_law_1237 : decode code 1237 = .ok (.laload, 1) := by decide +kernel
theorem d_La_law_1238 : decode code 1238 = .ok (.iload 6, 2) := by decide +kernel
theorem d_La_law_1240 : decode code 1240 = .ok (.i2l, 1) := by decide +kernel
theorem d_La_law_1241 : decode code 1241 = .ok (.lcmp, 1) := by decide +kernel
theorem d_La_law_1242 : decode code 1242 = .ok (.ifCond .eq 5, 3) := by decide +kernel
theorem d_La_law_1245 : decode code 1245 = .ok (.iconst 0, 1) := by decide +kernel
theorem d_La_law_1246 : decode code 1246 = .ok (.ireturn, 1) := by decide +kernel
theorem d_La_law_1247 : decode code 1247 = .ok (.goto 209, 3) := by decide +kernel
theorem d_La_law_1250 : decode code 1250 = .ok (.aload_n 1, 1) := by decide +kernel
theorem d_La_law_1251 : decode code 1251 = .ok (.aload_n 0, 1) := by decide +kernel
theorem d_La_law_1252 : decode code 1252 = .ok (.iload 4, 2) := by decide +kernel
theorem d_La_law_1254 : decode code 1254 = .ok (.iconst 1, 1) := by decide +kernel
theorem d_La_law_1255 : decode code 1255 = .ok (.iadd, 1) := by decide +kernel
theorem d_La_law_1256 : decode code 1256 = .ok (.iaload, 1) := by decide +kernel
theorem d_La_law_1257 : decode code 1257 = .ok (.aload_n 3, 1) := by decide +kernel
theorem d_La_law_1258 : decode code 1258 = .ok (.invokestatic 142, 3) := by decide +kernel
theorem d_La_law_1261 : decode code 1261 = .ok (.istore 5, 2) := by decide +kernel
theorem d_La_law_1263 : decode code 1263 = .ok (.aload_n 2, 1) := by decide +kernel
theorem d_La_law_1264 : decode code 1264 = .ok (.aload_n 0, 1) := by decide +kernel
theorem d_La_law_1265 : decode code 1265 = .ok (.iload 4, 2) := by decide +kernel
theorem d_La_law_1267 : decode code 1267 = .ok (.iconst 1, 1) := by decide +kernel
theorem d_La_law_1268 : decode code 1268 = .ok (.iadd, 1) := by decide +kernel
theorem d_La_law_1269 : decode code 1269 = .ok (.iaload, 1) := by decide +kernel
theorem d_La_law_1270 : decode code 1270 = .ok (.invokevirtual 144, 3) := by decide +kernel
theorem d_La_law_1273 : decode code 1273 = .ok (.istore 6, 2) := by decide +kernel
theorem d_La_law_1275 : decode code 1275 = .ok (.aload_n 2, 1) := by decide +kernel
theorem d_La_law_1276 : decode code 1276 = .ok (.invokevirtual 83, 3) := by decide +kernel
theorem d_La_law_1279 : decode code 1279 = .ok (.iload 5, 2) := by decide +kernel
theorem d_La_law_1281 : decode code 1281 = .ok (.if_icmp .eq 5, 3) := by decide +kernel
theorem d_La_law_1284 : decode code 1284 = .ok (.iconst 0, 1) := by decide +kernel
theorem d_La_law_1285 : decode code 1285 = .ok (.ireturn, 1) := by decide +kernel
theorem d_La_law_1286 : decode code 1286 = .ok (.iload 5, 2) := by decide +kernel
theorem d_La_law_1288 : decode code 1288 = .ok (.ifCond .ne 15, 3) := by decide +kernel
theorem d_La_law_1291 : decode code 1291 = .ok (.aload_n 3, 1) := by decide +kernel
theorem d_La_law_1292 : decode code 1292 = .ok (.iconst 0, 1) := by decide +kernel
theorem d_La_law_1293 : decode code 1293 = .ok (.laload, 1) := by decide +kernel
theorem d_La_law_1294 : decode code 1294 = .ok (.iload 6, 2) := by decide +kernel
theorem d_La_law_1296 : decode code 1296 = .ok (.i2l, 1) := by decide +kernel
theorem d_La_law_1297 : decode code 1297 = .ok (.lcmp, 1) := by decide +kernel
theorem d_La_law_1298 : decode code 1298 = .ok (.ifCond .eq 5, 3) := by decide +kernel
theorem d_La_law_1301 : decode code 1301 = .ok (.iconst 0, 1) := by decide +kernel
theorem d_La_law_1302 : decode code 1302 = .ok (.ireturn, 1) := by decide +kernel
theorem d_La_law_1303 : decode code 1303 = .ok (.goto 153, 3) := by decide +kernel
theorem d_La_law_1306 : decode code 1306 = .ok (.aload_n 1, 1) := by decide +kernel
theorem d_La_law_1307 : decode code 1307 = .ok (.invokevirtual 145, 3) := by decide +kernel
theorem d_La_law_1310 : decode code 1310 = .ok (.aload_n 2, 1) := by decide +kernel
theorem d_La_law_1311 : decode code 1311 = .ok (.invokevirtual 149, 3) := by decide +kernel
theorem d_La_law_1314 : decode code 1314 = .ok (.if_icmp .eq 142, 3) := by decide +kernel
theorem d_La_law_1317 : decode code 1317 = .ok (.iconst 0, 1) := by decide +kernel
theorem d_La_law_1318 : decode code 1318 = .ok (.ireturn, 1) := by decide +kernel
theorem d_La_law_1319 : decode code 1319 = .ok (.aload_n 1, 1) := by decide +kernel
theorem d_La_law_1320 : decode code 1320 = .ok (.aload_n 0, 1) := by decide +kernel
theorem d_La_law_1321 : decode code 1321 = .ok (.iload 4, 2) := by decide +kernel
theorem d_La_law_1323 : decode code 1323 = .ok (.iconst 1, 1) := by decide +kernel
theorem d_La_law_1324 : decode code 1324 = .ok (.iadd, 1) := by decide +kernel
theorem d_La_law_1325 : decode code 1325 = .ok (.iaload, 1) := by decide +kernel
theorem d_La_law_1326 : decode code 1326 = .ok (.aload_n 3, 1) := by decide +kernel
theorem d_La_law_1327 : decode code 1327 = .ok (.invokestatic 150, 3) := by decide +kernel
theorem d_La_law_1330 : decode code 1330 = .ok (.istore 5, 2) := by decide +kernel
theorem d_La_law_1332 : decode code 1332 = .ok (.aload_n 2, 1) := by decide +kernel
theorem d_La_law_1333 : decode code 1333 = .ok (.aload_n 0, 1) := by decide +kernel
theorem d_La_law_1334 : decode code 1334 = .ok (.iload 4, 2) := by decide +kernel
theorem d_La_law_1336 : decode code 1336 = .ok (.iconst 1, 1) := by decide +kernel
theorem d_La_law_1337 : decode code 1337 = .ok (.iadd, 1) := by decide +kernel
theorem d_La_law_1338 : decode code 1338 = .ok (.iaload, 1) := by decide +kernel
theorem d_La_law_1339 : decode code 1339 = .ok (.invokevirtual 152, 3) := by decide +kernel
theorem d_La_law_1342 : decode code 1342 = .ok (.istore 6, 2) := by decide +kernel
theorem d_La_law_1344 : decode code 1344 = .ok (.aload_n 2, 1) := by decide +kernel
theorem d_La_law_1345 : decode code 1345 = .ok (.invokevirtual 83, 3) := by decide +kernel
theorem d_La_law_1348 : decode code 1348 = .ok (.iload 5, 2) := by decide +kernel
theorem d_La_law_1350 : decode code 1350 = .ok (.if_icmp .eq 5, 3) := by decide +kernel
theorem d_La_law_1353 : decode code 1353 = .ok (.iconst 0, 1) := by decide +kernel
theorem d_La_law_1354 : decode code 1354 = .ok (.ireturn, 1) := by decide +kernel
theorem d_La_law_1355 : decode code 1355 = .ok (.iload 5, 2) := by decide +kernel
theorem d_La_law_1357 : decode code 1357 = .ok (.ifCond .ne 15, 3) := by decide +kernel
theorem d_La_law_1360 : decode code 1360 = .ok (.aload_n 3, 1) := by decide +kernel
theorem d_La_law_1361 : decode code 1361 = .ok (.iconst 0, 1) := by decide +kernel
theorem d_La_law_1362 : decode code 1362 = .ok (.laload, 1) := by decide +kernel
theorem d_La_law_1363 : decode code 1363 = .ok (.iload 6, 2) := by decide +kernel
theorem d_La_law_1365 : decode code 1365 = .ok (.i2l, 1) := by decide +kernel
theorem d_La_law_1366 : decode code 1366 = .ok (.lcmp, 1) := by decide +kernel
theorem d_La_law_1367 : decode code 1367 = .ok (.ifCond .eq 5, 3) := by decide +kernel
theorem d_La_law_1370 : decode code 1370 = .ok (.iconst 0, 1) := by decide +kernel
theorem d_La_law_1371 : decode code 1371 = .ok (.ireturn, 1) := by decide +kernel
theorem d_La_law_1372 : decode code 1372 = .ok (.goto 84, 3) := by decide +kernel
theorem d_La_law_1375 : decode code 1375 = .ok (.aload_n 1, 1) := by decide +kernel
theorem d_La_law_1376 : decode code 1376 = .ok (.invokevirtual 153, 3) := by decide +kernel
theorem d_La_law_1379 : decode code 1379 = .ok (.aload_n 2, 1) := by decide +kernel
theorem d_La_law_1380 : decode code 1380 = .ok (.invokevirtual 156, 3) := by decide +kernel
theorem d_La_law_1383 : decode code 1383 = .ok (.if_icmp .eq 73, 3) := by decide +kernel
theorem d_La_law_1386 : decode code 1386 = .ok (.iconst 0, 1) := by decide +kernel
theorem d_La_law_1387 : decode code 1387 = .ok (.ireturn, 1) := by decide +kernel
theorem d_La_law_1388 : decode code 1388 = .ok (.aload_n 1, 1) := by decide +kernel
theorem d_La_law_1389 : decode code 1389 = .ok (.aload_n 0, 1) := by decide +kernel
theorem d_La_law_1390 : decode code 1390 = .ok (.iload 4, 2) := by decide +kernel
theorem d_La_law_1392 : decode code 1392 = .ok (.iconst 1, 1) := by decide +kernel
theorem d_La_law_1393 : decode code 1393 = .ok (.iadd, 1) := by decide +kernel
theorem d_La_law_1394 : decode code 1394 = .ok (.iaload, 1) := by decide +kernel
theorem d_La_law_1395 : decode code 1395 = .ok (.aload_n 0, 1) := by decide +kernel
theorem d_La_law_1396 : decode code 1396 = .ok (.iload 4, 2) := by decide +kernel
theorem d_La_law_1398 : decode code 1398 = .ok (.iconst 2, 1) := by decide +kernel
theorem d_La_law_1399 : decode code 1399 = .ok (.iadd, 1) := by decide +kernel
theorem d_La_law_1400 : decode code 1400 = .ok (.iaload, 1) := by decide +kernel
theorem d_La_law_1401 : decode code 1401 = .ok (.aload_n 3, 1) := by decide +kernel
theorem d_La_law_1402 : decode code 1402 = .ok (.invokestatic 157, 3) := by decide +kernel
theorem d_La_law_1405 : decode code 1405 = .ok (.istore 5, 2) := by decide +kernel
theorem d_La_law_1407 : decode code 1407 = .ok (.aload_n 2, 1) := by decide +kernel
theorem d_La_law_1408 : decode code 1408 = .ok (.aload_n 0, 1) := by decide +kernel
theorem d_La_law_1409 : decode code 1409 = .ok (.iload 4, 2) := by decide +kernel
theorem d_La_law_1411 : decode code 1411 = .ok (.iconst 1, 1) := by decide +kernel
theorem d_La_law_1412 : decode code 1412 = .ok (.iadd, 1) := by decide +kernel
theorem d_La_law_1413 : decode code 1413 = .ok (.iaload, 1) := by decide +kernel
theorem d_La_law_1414 : decode code 1414 = .ok (.aload_n 0, 1) := by decide +kernel
theorem d_La_law_1415 : decode code 1415 = .ok (.iload 4, 2) := by decide +kernel
theorem d_La_law_1417 : decode code 1417 = .ok (.iconst 2, 1) := by decide +kernel
theorem d_La_law_1418 : decode code 1418 = .ok (.iadd, 1) := by decide +kernel
theorem d_La_law_1419 : decode code 1419 = .ok (.iaload, 1) := by decide +kernel
theorem d_La_law_1420 : decode code 1420 = .ok (.invokevirtual 159, 3) := by decide +kernel
theorem d_La_law_1423 : decode code 1423 = .ok (.istore 6, 2) := by decide +kernel
theorem d_La_law_1425 : decode code 1425 = .ok (.aload_n 2, 1) := by decide +kernel
theorem d_La_law_1426 : decode code 1426 = .ok (.invokevirtual 83, 3) := by decide +kernel
theorem d_La_law_1429 : decode code 1429 = .ok (.iload 5, 2) := by decide +kernel
theorem d_La_law_1431 : decode code 1431 = .ok (.if_icmp .eq 5, 3) := by decide +kernel
theorem d_La_law_1434 : decode code 1434 = .ok (.iconst 0, 1) := by decide +kernel
theorem d_La_law_1435 : decode code 1435 = .ok (.ireturn, 1) := by decide +kernel
theorem d_La_law_1436 : decode code 1436 = .ok (.iload 5, 2) := by decide +kernel
theorem d_La_law_1438 : decode code 1438 = .ok (.ifCond .ne 15, 3) := by decide +kernel
theorem d_La_law_1441 : decode code 1441 = .ok (.aload_n 3, 1) := by decide +kernel
theorem d_La_law_1442 : decode code 1442 = .ok (.iconst 0, 1) := by decide +kernel
theorem d_La_law_1443 : decode code 1443 = .ok (.laload, 1) := by decide +kernel
theorem d_La_law_1444 : decode code 1444 = .ok (.iload 6, 2) := by decide +kernel
theorem d_La_law_1446 : decode code 1446 = .ok (.i2l, 1) := by decide +kernel
theorem d_La_law_1447 : decode code 1447 = .ok (.lcmp, 1) := by decide +kernel
theorem d_La_law_1448 : decode code 1448 = .ok (.ifCond .eq 5, 3) := by decide +kernel
theorem d_La_law_1451 : decode code 1451 = .ok (.iconst 0, 1) := by decide +kernel
theorem d_La_law_1452 : decode code 1452 = .ok (.ireturn, 1) := by decide +kernel
theorem d_La_law_1453 : decode code 1453 = .ok (.goto 3, 3) := by decide +kernel
theorem d_La_law_1456 : decode code 1456 = .ok (.iinc 4 5, 3) := by decide +kernel
theorem d_La_law_1459 : decode code 1459 = .ok (.goto (-1436), 3) := by decide +kernel
theorem d_La_law_1462 : decode code 1462 = .ok (.iconst 1, 1) := by decide +kernel
theorem d_La_law_1463 : decode code 1463 = .ok (.ireturn, 1) := by decide +kernel
