theorem dL_law_1221 : decode cL_law 1221 = .ok (.iinc 20 1, 3) := by decide +kernel
theorem dL_law_1224 : decode cL_law 1224 = .ok (.goto (-609), 3) := by decide +kernel
theorem dL_law_1227 : decode cL_law 1227 = .ok (.iload 17, 2) := by decide +kernel
theorem dL_law_1229 : decode cL_law 1229 = .ok (.iload 11, 2) := by decide +kernel
theorem dL_law_1231 : decode cL_law 1231 = .ok (.if_icmp .ne 17, 3) := by decide +kernel
theorem dL_law_1234 : decode cL_law 1234 = .ok (.iload 19, 2) := by decide +kernel
theorem dL_law_1236 : decode cL_law 1236 = .ok (.iload 13, 2) := by decide +kernel
theorem dL_law_1238 : decode cL_law 1238 = .ok (.if_icmp .ne 10, 3) := by decide +kernel
theorem dL_law_1241 : decode cL_law 1241 = .ok (.iload 18, 2) := by decide +kernel
theorem dL_law_1243 : decode cL_law 1243 = .ok (.iload 16, 2) := by decide +kernel
theorem dL_law_1245 : decode cL_law 1245 = .ok (.if_icmp .le 5, 3) := by decide +kernel
theorem dL_law_1248 : decode cL_law 1248 = .ok (.iconst 0, 1) := by decide +kernel
theorem dL_law_1249 : decode cL_law 1249 = .ok (.ireturn, 1) := by decide +kernel
theorem dL_law_1250 : decode cL_law 1250 = .ok (.iconst 0, 1) := by decide +kernel
theorem dL_law_1251 : decode cL_law 1251 = .ok (.istore 20, 2) := by decide +kernel
theorem dL_law_1253 : decode cL_law 1253 = .ok (.iload 20, 2) := by decide +kernel
theorem dL_law_1255 : decode cL_law 1255 = .ok (.iload 4, 2) := by decide +kernel
theorem dL_law_1257 : decode cL_law 1257 = .ok (.if_icmp .ge 86, 3) := by decide +kernel
theorem dL_law_1260 : decode cL_law 1260 = .ok (.aload_n 1, 1) := by decide +kernel
theorem dL_law_1261 : decode cL_law 1261 = .ok (.iload 20, 2) := by decide +kernel
theorem dL_law_1263 : decode cL_law 1263 = .ok (.iconst 0, 1) := by decide +kernel
theorem dL_law_1264 : decode cL_law 1264 = .ok (.invokevirtual 129, 3) := by decide +kernel
theorem dL_law_1267 : decode cL_law 1267 = .ok (.istore 21, 2) := by decide +kernel
theorem dL_law_1269 : decode cL_law 1269 = .ok (.aload_n 1, 1) := by decide +kernel
theorem dL_law_1270 : decode cL_law 1270 = .ok (.iload 20, 2) := by decide +kernel
theorem dL_law_1272 : decode cL_law 1272 = .ok (.iconst 1, 1) := by decide +kernel
theorem dL_law_1273 : decode cL_law 1273 = .ok (.invokevirtual 129, 3) := by decide +kernel
theorem dL_law_1276 : decode cL_law 1276 = .ok (.istore 22, 2) := by decide +kernel
theorem dL_law_1278 : decode cL_law 1278 = .ok (.aload 14, 2) := by decide +kernel
theorem dL_law_1280 : decode cL_law 1280 = .ok (.iload 20, 2) := by decide +kernel
theorem dL_law_1282 : decode cL_law 1282 = .ok (.iaload, 1) := by decide +kernel
theorem dL_law_1283 : decode cL_law 1283 = .ok (.ifCond .le 13, 3) := by decide +kernel
theorem dL_law_1286 : decode cL_law 1286 = .ok (.iload 22, 2) := by decide +kernel
theorem dL_law_1288 : decode cL_law 1288 = .ok (.aload 14, 2) := by decide +kernel
theorem dL_law_1290 : decode cL_law 1290 = .ok (.iload 20, 2) := by decide +kernel
theorem dL_law_1292 : decode cL_law 1292 = .ok (.iaload, 1) := by decide +kernel
theorem dL_law_1293 : decode cL_law 1293 = .ok (.if_icmp .ne 42, 3) := by decide +kernel
theorem dL_law_1296 : decode cL_law 1296 = .ok (.iload 21, 2) := by decide +kernel
theorem dL_law_1298 : decode cL_law 1298 = .ok (.ifCond .ge 7, 3) := by decide +kernel
theorem dL_law_1301 : decode cL_law 1301 = .ok (.iconst 1, 1) := by decide +kernel
theorem dL_law_1302 : decode cL_law 1302 = .ok (.goto 4, 3) := by decide +kernel
theorem dL_law_1305 : decode cL_law 1305 = .ok (.iconst 0, 1) := by decide +kernel
theorem dL_law_1306 : decode cL_law 1306 = .ok (.iload 22, 2) := by decide +kernel
theorem dL_law_1308 : decode cL_law 1308 = .ok (.ifCond .le 7, 3) := by decide +kernel
theorem dL_law_1311 : decode cL_law 1311 = .ok (.iconst 1, 1) := by decide +kernel
theorem dL_law_1312 : decode cL_law 1312 = .ok (.goto 4, 3) := by decide +kernel
theorem dL_law_1315 : decode cL_law 1315 = .ok (.iconst 0, 1) := by decide +kernel
theorem dL_law_1316 : decode cL_law 1316 = .ok (.if_icmp .ne 19, 3) := by decide +kernel
theorem dL_law_1319 : decode cL_law 1319 = .ok (.iload 21, 2) := by decide +kernel
theorem dL_law_1321 : decode cL_law 1321 = .ok (.ifCond .lt 16, 3) := by decide +kernel
theorem dL_law_1324 : decode cL_law 1324 = .ok (.aload_n 1, 1) := by decide +kernel
theorem dL_law_1325 : decode cL_law 1325 = .ok (.iload 21, 2) := by decide +kernel
theorem dL_law_1327 : decode cL_law 1327 = .ok (.bipush 6, 2) := by decide +kernel
theorem dL_law_1329 : decode cL_law 1329 = .ok (.invokevirtual 114, 3) := by decide +kernel
theorem dL_law_1332 : decode cL_law 1332 = .ok (.ifCond .eq 5, 3) := by decide +kernel
theorem dL_law_1335 : decode cL_law 1335 = .ok (.iconst 0, 1) := by decide +kernel
theorem dL_law_1336 : decode cL_law 1336 = .ok (.ireturn, 1) := by decide +kernel
theorem dL_law_1337 : decode cL_law 1337 = .ok (.iinc 20 1, 3) := by decide +kernel
theorem dL_law_1340 : decode cL_law 1340 = .ok (.goto (-87), 3) := by decide +kernel
theorem dL_law_1343 : decode cL_law 1343 = .ok (.iconst 0, 1) := by decide +kernel
