theorem dL_law_974 : decode cL_law 974 = .ok (.bipush 10, 2) := by decide +kernel
theorem dL_law_976 : decode cL_law 976 = .ok (.iload 11, 2) := by decide +kernel
theorem dL_law_978 : decode cL_law 978 = .ok (.imul, 1) := by decide +kernel
theorem dL_law_979 : decode cL_law 979 = .ok (.iload 21, 2) := by decide +kernel
theorem dL_law_981 : decode cL_law 981 = .ok (.iastore, 1) := by decide +kernel
theorem dL_law_982 : decode cL_law 982 = .ok (.aload 5, 2) := by decide +kernel
theorem dL_law_984 : decode cL_law 984 = .ok (.iload 11, 2) := by decide +kernel
theorem dL_law_986 : decode cL_law 986 = .ok (.aload_n 2, 1) := by decide +kernel
theorem dL_law_987 : decode cL_law 987 = .ok (.iconst 4, 1) := by decide +kernel
theorem dL_law_988 : decode cL_law 988 = .ok (.iload 21, 2) := by decide +kernel
theorem dL_law_990 : decode cL_law 990 = .ok (.imul, 1) := by decide +kernel
theorem dL_law_991 : decode cL_law 991 = .ok (.iconst 3, 1) := by decide +kernel
theorem dL_law_992 : decode cL_law 992 = .ok (.iadd, 1) := by decide +kernel
theorem dL_law_993 : decode cL_law 993 = .ok (.iaload, 1) := by decide +kernel
theorem dL_law_994 : decode cL_law 994 = .ok (.iastore, 1) := by decide +kernel
theorem dL_law_995 : decode cL_law 995 = .ok (.iinc 11 1, 3) := by decide +kernel
theorem dL_law_998 : decode cL_law 998 = .ok (.iinc 10 (-1), 3) := by decide +kernel
theorem dL_law_1001 : decode cL_law 1001 = .ok (.aload_n 1, 1) := by decide +kernel
theorem dL_law_1002 : decode cL_law 1002 = .ok (.invokevirtual 105, 3) := by decide +kernel
theorem dL_law_1005 : decode cL_law 1005 = .ok (.iload 11, 2) := by decide +kernel
theorem dL_law_1007 : decode cL_law 1007 = .ok (.iconst 1, 1) := by decide +kernel
theorem dL_law_1008 : decode cL_law 1008 = .ok (.isub, 1) := by decide +kernel
theorem dL_law_1009 : decode cL_law 1009 = .ok (.if_icmp .eq 1259, 3) := by decide +kernel
theorem dL_law_1012 : decode cL_law 1012 = .ok (.iconst 0, 1) := by decide +kernel
theorem dL_law_1013 : decode cL_law 1013 = .ok (.ireturn, 1) := by decide +kernel
theorem dL_law_1014 : decode cL_law 1014 = .ok (.iload 17, 2) := by decide +kernel
theorem dL_law_1016 : decode cL_law 1016 = .ok (.bipush 12, 2) := by decide +kernel
theorem dL_law_1018 : decode cL_law 1018 = .ok (.if_icmp .ne 151, 3) := by decide +kernel
theorem dL_law_1021 : decode cL_law 1021 = .ok (.iload 11, 2) := by decide +kernel
theorem dL_law_1023 : decode cL_law 1023 = .ok (.ifCond .ne 7, 3) := by decide +kernel
theorem dL_law_1026 : decode cL_law 1026 = .ok (.iconst 1, 1) := by decide +kernel
theorem dL_law_1027 : decode cL_law 1027 = .ok (.goto 41, 3) := by decide +kernel
theorem dL_law_1030 : decode cL_law 1030 = .ok (.iload 10, 2) := by decide +kernel
theorem dL_law_1032 : decode cL_law 1032 = .ok (.ifCond .eq 31, 3) := by decide +kernel
theorem dL_law_1035 : decode cL_law 1035 = .ok (.aload_n 2, 1) := by decide +kernel
theorem dL_law_1036 : decode cL_law 1036 = .ok (.iconst 4, 1) := by decide +kernel
theorem dL_law_1037 : decode cL_law 1037 = .ok (.iload 21, 2) := by decide +kernel
theorem dL_law_1039 : decode cL_law 1039 = .ok (.imul, 1) := by decide +kernel
theorem dL_law_1040 : decode cL_law 1040 = .ok (.iconst 3, 1) := by decide +kernel
theorem dL_law_1041 : decode cL_law 1041 = .ok (.iadd, 1) := by decide +kernel
theorem dL_law_1042 : decode cL_law 1042 = .ok (.iaload, 1) := by decide +kernel
theorem dL_law_1043 : decode cL_law 1043 = .ok (.aload 5, 2) := by decide +kernel
theorem dL_law_1045 : decode cL_law 1045 = .ok (.iload 18, 2) := by decide +kernel
theorem dL_law_1047 : decode cL_law 1047 = .ok (.iaload, 1) := by decide +kernel
theorem dL_law_1048 : decode cL_law 1048 = .ok (.if_icmp .gt 15, 3) := by decide +kernel
theorem dL_law_1051 : decode cL_law 1051 = .ok (.iload 21, 2) := by decide +kernel
theorem dL_law_1053 : decode cL_law 1053 = .ok (.aload_n 2, 1) := by decide +kernel
theorem dL_law_1054 : decode cL_law 1054 = .ok (.iconst 0, 1) := by decide +kernel
theorem dL_law_1055 : decode cL_law 1055 = .ok (.invokestatic 191, 3) := by decide +kernel
theorem dL_law_1058 : decode cL_law 1058 = .ok (.iload 18, 2) := by decide +kernel
theorem dL_law_1060 : decode cL_law 1060 = .ok (.if_icmp .lt 7, 3) := by decide +kernel
theorem dL_law_1063 : decode cL_law 1063 = .ok (.iconst 3, 1) := by decide +kernel
theorem dL_law_1064 : decode cL_law 1064 = .ok (.goto 4, 3) := by decide +kernel
theorem dL_law_1067 : decode cL_law 1067 = .ok (.iconst 0, 1) := by decide +kernel
theorem dL_law_1068 : decode cL_law 1068 = .ok (.istore 22, 2) := by decide +kernel
theorem dL_law_1070 : decode cL_law 1070 = .ok (.iload 22, 2) := by decide +kernel
theorem dL_law_1072 : decode cL_law 1072 = .ok (.ifCond .le 20, 3) := by decide +kernel
theorem dL_law_1075 : decode cL_law 1075 = .ok (.aload_n 1, 1) := by decide +kernel
theorem dL_law_1076 : decode cL_law 1076 = .ok (.iconst 5, 1) := by decide +kernel
theorem dL_law_1077 : decode cL_law 1077 = .ok (.iload 18, 2) := by decide +kernel
theorem dL_law_1079 : decode cL_law 1079 = .ok (.iload 20, 2) := by decide +kernel
theorem dL_law_1081 : decode cL_law 1081 = .ok (.iconst 0, 1) := by decide +kernel
theorem dL_law_1082 : decode cL_law 1082 = .ok (.invokestatic 151, 3) := by decide +kernel
theorem dL_law_1085 : decode cL_law 1085 = .ok (.iload 22, 2) := by decide +kernel
theorem dL_law_1087 : decode cL_law 1087 = .ok (.if_icmp .eq 1226, 3) := by decide +kernel
theorem dL_law_1090 : decode cL_law 1090 = .ok (.iconst 0, 1) := by decide +kernel
theorem dL_law_1091 : decode cL_law 1091 = .ok (.ireturn, 1) := by decide +kernel
theorem dL_law_1092 : decode cL_law 1092 = .ok (.iconst 0, 1) := by decide +kernel
theorem dL_law_1093 : decode cL_law 1093 = .ok (.istore 23, 2) := by decide +kernel
theorem dL_law_1095 : decode cL_law 1095 = .ok (.aload 4, 2) := by decide +kernel
theorem dL_law_1097 : decode cL_law 1097 = .ok (.bipush 10, 2) := by decide +kernel
theorem dL_law_1099 : decode cL_law 1099 = .ok (.iload 18, 2) := by decide +kernel
theorem dL_law_1101 : decode cL_law 1101 = .ok (.imul, 1) := by decide +kernel
theorem dL_law_1102 : decode cL_law 1102 = .ok (.iload 20, 2) := by decide +kernel
theorem dL_law_1104 : decode cL_law 1104 = .ok (.iadd, 1) := by decide +kernel
theorem dL_law_1105 : decode cL_law 1105 = .ok (.iload 21, 2) := by decide +kernel
theorem dL_law_1107 : decode cL_law 1107 = .ok (.iastore, 1) := by decide +kernel
theorem dL_law_1108 : decode cL_law 1108 = .ok (.iinc 10 (-1), 3) := by decide +kernel
theorem dL_law_1111 : decode cL_law 1111 = .ok (.iconst 0, 1) := by decide +kernel
theorem dL_law_1112 : decode cL_law 1112 = .ok (.istore 24, 2) := by decide +kernel
theorem dL_law_1114 : decode cL_law 1114 = .ok (.iload 24, 2) := by decide +kernel
theorem dL_law_1116 : decode cL_law 1116 = .ok (.bipush 10, 2) := by decide +kernel
theorem dL_law_1118 : decode cL_law 1118 = .ok (.if_icmp .ge 33, 3) := by decide +kernel
theorem dL_law_1121 : decode cL_law 1121 = .ok (.iload 23, 2) := by decide +kernel
theorem dL_law_1123 : decode cL_law 1123 = .ok (.aload 4, 2) := by decide +kernel
theorem dL_law_1125 : decode cL_law 1125 = .ok (.bipush 10, 2) := by decide +kernel
theorem dL_law_1127 : decode cL_law 1127 = .ok (.iload 18, 2) := by decide +kernel
theorem dL_law_1129 : decode cL_law 1129 = .ok (.imul, 1) := by decide +kernel
theorem dL_law_1130 : decode cL_law 1130 = .ok (.iload 24, 2) := by decide +kernel
theorem dL_law_1132 : decode cL_law 1132 = .ok (.iadd, 1) := by decide +kernel
theorem dL_law_1133 : decode cL_law 1133 = .ok (.iaload, 1) := by decide +kernel
theorem dL_law_1134 : decode cL_law 1134 = .ok (.ifCond .ge 7, 3) := by decide +kernel
theorem dL_law_1137 : decode cL_law 1137 = .ok (.iconst 0, 1) := by decide +kernel
theorem dL_law_1138 : decode cL_law 1138 = .ok (.goto 4, 3) := by decide +kernel
theorem dL_law_1141 : decode cL_law 1141 = .ok (.iconst 1, 1) := by decide +kernel
theorem dL_law_1142 : decode cL_law 1142 = .ok (.iadd, 1) := by decide +kernel
theorem dL_law_1143 : decode cL_law 1143 = .ok (.istore 23, 2) := by decide +kernel
theorem dL_law_1145 : decode cL_law 1145 = .ok (.iinc 24 1, 3) := by decide +kernel
theorem dL_law_1148 : decode cL_law 1148 = .ok (.goto (-34), 3) := by decide +kernel
theorem dL_law_1151 : decode cL_law 1151 = .ok (.aload_n 1, 1) := by decide +kernel
theorem dL_law_1152 : decode cL_law 1152 = .ok (.iload 18, 2) := by decide +kernel
theorem dL_law_1154 : decode cL_law 1154 = .ok (.iload 20, 2) := by decide +kernel
theorem dL_law_1156 : decode cL_law 1156 = .ok (.invokevirtual 108, 3) := by decide +kernel
theorem dL_law_1159 : decode cL_law 1159 = .ok (.iload 23, 2) := by decide +kernel
theorem dL_law_1161 : decode cL_law 1161 = .ok (.if_icmp .eq 5, 3) := by decide +kernel
theorem dL_law_1164 : decode cL_law 1164 = .ok (.iconst 0, 1) := by decide +kernel
theorem dL_law_1165 : decode cL_law 1165 = .ok (.ireturn, 1) := by decide +kernel
theorem dL_law_1166 : decode cL_law 1166 = .ok (.goto 1102, 3) := by decide +kernel
theorem dL_law_1169 : decode cL_law 1169 = .ok (.iload 17, 2) := by decide +kernel
theorem dL_law_1171 : decode cL_law 1171 = .ok (.bipush 13, 2) := by decide +kernel
theorem dL_law_1173 : decode cL_law 1173 = .ok (.if_icmp .ne 114, 3) := by decide +kernel
theorem dL_law_1176 : decode cL_law 1176 = .ok (.iload 11, 2) := by decide +kernel
theorem dL_law_1178 : decode cL_law 1178 = .ok (.ifCond .eq 1135, 3) := by decide +kernel
theorem dL_law_1181 : decode cL_law 1181 = .ok (.iload 12, 2) := by decide +kernel
theorem dL_law_1183 : decode cL_law 1183 = .ok (.iconst 2, 1) := by decide +kernel
theorem dL_law_1184 : decode cL_law 1184 = .ok (.if_icmp .ne 6, 3) := by decide +kernel
theorem dL_law_1187 : decode cL_law 1187 = .ok (.goto 1126, 3) := by decide +kernel
theorem dL_law_1190 : decode cL_law 1190 = .ok (.iload 15, 2) := by decide +kernel
theorem dL_law_1192 : decode cL_law 1192 = .ok (.iconst 5, 1) := by decide +kernel
theorem dL_law_1193 : decode cL_law 1193 = .ok (.ishr, 1) := by decide +kernel
theorem dL_law_1194 : decode cL_law 1194 = .ok (.iload 11, 2) := by decide +kernel
theorem dL_law_1196 : decode cL_law 1196 = .ok (.invokestatic 178, 3) := by decide +kernel
theorem dL_law_1199 : decode cL_law 1199 = .ok (.istore 22, 2) := by decide +kernel
theorem dL_law_1201 : decode cL_law 1201 = .ok (.aload 6, 2) := by decide +kernel
theorem dL_law_1203 : decode cL_law 1203 = .ok (.bipush 32, 2) := by decide +kernel
theorem dL_law_1205 : decode cL_law 1205 = .ok (.iload 12, 2) := by decide +kernel
theorem dL_law_1207 : decode cL_law 1207 = .ok (.imul, 1) := by decide +kernel
theorem dL_law_1208 : decode cL_law 1208 = .ok (.iload 18, 2) := by decide +kernel
theorem dL_law_1210 : decode cL_law 1210 = .ok (.iastore, 1) := by decide +kernel
theorem dL_law_1211 : decode cL_law 1211 = .ok (.aload 6, 2) := by decide +kernel
theorem dL_law_1213 : decode cL_law 1213 = .ok (.bipush 32, 2) := by decide +kernel
theorem dL_law_1215 : decode cL_law 1215 = .ok (.iload 12, 2) := by decide +kernel
theorem dL_law_1217 : decode cL_law 1217 = .ok (.imul, 1) := by decide +kernel
theorem dL_law_1218 : decode cL_law 1218 = .ok (.iconst 1, 1) := by decide +kernel
theorem dL_law_1219 : decode cL_law 1219 = .ok (.iadd, 1) := by decide +kernel
theorem dL_law_1220 : decode cL_law 1220 = .ok (.iload 22, 2) := by decide +kernel
theorem dL_law_1222 : decode cL_law 1222 = .ok (.iastore, 1) := by decide +kernel
theorem dL_law_1223 : decode cL_law 1223 = .ok (.aload 6, 2) := by decide +kernel
theorem dL_law_1225 : decode cL_law 1225 = .ok (.bipush 32, 2) := by decide +kernel
theorem dL_law_1227 : decode cL_law 1227 = .ok (.iload 12, 2) := by decide +kernel
theorem dL_law_1229 : decode cL_law 1229 = .ok (.imul, 1) := by decide +kernel
theorem dL_law_1230 : decode cL_law 1230 = .ok (.iconst 2, 1) := by decide +kernel
theorem dL_law_1231 : decode cL_law 1231 = .ok (.iadd, 1) := by decide +kernel
theorem dL_law_1232 : decode cL_law 1232 = .ok (.iconst (-1), 1) := by decide +kernel
theorem dL_law_1233 : decode cL_law 1233 = .ok (.iastore, 1) := by decide +kernel
theorem dL_law_1234 : decode cL_law 1234 = .ok (.iconst 0, 1) := by decide +kernel
theorem dL_law_1235 : decode cL_law 1235 = .ok (.istore 23, 2) := by decide +kernel
theorem dL_law_1237 : decode cL_law 1237 = .ok (.iload 23, 2) := by decide +kernel
theorem dL_law_1239 : decode cL_law 1239 = .ok (.bipush 9, 2) := by decide +kernel
theorem dL_law_1241 : decode cL_law 1241 = .ok (.if_icmp .ge 23, 3) := by decide +kernel
theorem dL_law_1244 : decode cL_law 1244 = .ok (.aload 6, 2) := by decide +kernel
theorem dL_law_1246 : decode cL_law 1246 = .ok (.bipush 32, 2) := by decide +kernel
theorem dL_law_1248 : decode cL_law 1248 = .ok (.iload 12, 2) := by decide +kernel
theorem dL_law_1250 : decode cL_law 1250 = .ok (.imul, 1) := by decide +kernel
theorem dL_law_1251 : decode cL_law 1251 = .ok (.iconst 4, 1) := by decide +kernel
theorem dL_law_1252 : decode cL_law 1252 = .ok (.iadd, 1) := by decide +kernel
theorem dL_law_1253 : decode cL_law 1253 = .ok (.iload 23, 2) := by decide +kernel
theorem dL_law_1255 : decode cL_law 1255 = .ok (.iadd, 1) := by decide +kernel
theorem dL_law_1256 : decode cL_law 1256 = .ok (.iconst (-1), 1) := by decide +kernel
theorem dL_law_1257 : decode cL_law 1257 = .ok (.iastore, 1) := by decide +kernel
theorem dL_law_1258 : decode cL_law 1258 = .ok (.iinc 23 1, 3) := by decide +kernel
theorem dL_law_1261 : decode cL_law 1261 = .ok (.goto (-24), 3) := by decide +kernel
theorem dL_law_1264 : decode cL_law 1264 = .ok (.iinc 12 1, 3) := by decide +kernel
theorem dL_law_1267 : decode cL_law 1267 = .ok (.aload_n 1, 1) := by decide +kernel
theorem dL_law_1268 : decode cL_law 1268 = .ok (.iload 18, 2) := by decide +kernel
theorem dL_law_1270 : decode cL_law 1270 = .ok (.iload 22, 2) := by decide +kernel
theorem dL_law_1272 : decode cL_law 1272 = .ok (.invokevirtual 195, 3) := by decide +kernel
theorem dL_law_1275 : decode cL_law 1275 = .ok (.iload 12, 2) := by decide +kernel
theorem dL_law_1277 : decode cL_law 1277 = .ok (.iconst 1, 1) := by decide +kernel
theorem dL_law_1278 : decode cL_law 1278 = .ok (.isub, 1) := by decide +kernel
theorem dL_law_1279 : decode cL_law 1279 = .ok (.if_icmp .eq 5, 3) := by decide +kernel
theorem dL_law_1282 : decode cL_law 1282 = .ok (.iconst 0, 1) := by decide +kernel
theorem dL_law_1283 : decode cL_law 1283 = .ok (.ireturn, 1) := by decide +kernel
theorem dL_law_1284 : decode cL_law 1284 = .ok (.goto 984, 3) := by decide +kernel
theorem dL_law_1287 : decode cL_law 1287 = .ok (.iload 17, 2) := by decide +kernel
theorem dL_law_1289 : decode cL_law 1289 = .ok (.bipush 14, 2) := by decide +kernel
theorem dL_law_1291 : decode cL_law 1291 = .ok (.if_icmp .ne 128, 3) := by decide +kernel
theorem dL_law_1294 : decode cL_law 1294 = .ok (.iload 12, 2) := by decide +kernel
theorem dL_law_1296 : decode cL_law 1296 = .ok (.ifCond .ne 6, 3) := by decide +kernel
theorem dL_law_1299 : decode cL_law 1299 = .ok (.goto 1014, 3) := by decide +kernel
theorem dL_law_1302 : decode cL_law 1302 = .ok (.iconst 0, 1) := by decide +kernel
theorem dL_law_1303 : decode cL_law 1303 = .ok (.istore 22, 2) := by decide +kernel
theorem dL_law_1305 : decode cL_law 1305 = .ok (.aload 6, 2) := by decide +kernel
theorem dL_law_1307 : decode cL_law 1307 = .ok (.bipush 32, 2) := by decide +kernel
theorem dL_law_1309 : decode cL_law 1309 = .ok (.iload 19, 2) := by decide +kernel
theorem dL_law_1311 : decode cL_law 1311 = .ok (.imul, 1) := by decide +kernel
theorem dL_law_1312 : decode cL_law 1312 = .ok (.iconst 4, 1) := by decide +kernel
theorem dL_law_1313 : decode cL_law 1313 = .ok (.iadd, 1) := by decide +kernel
theorem dL_law_1314 : decode cL_law 1314 = .ok (.iload 20, 2) := by decide +kernel
theorem dL_law_1316 : decode cL_law 1316 = .ok (.iadd, 1) := by decide +kernel
theorem dL_law_1317 : decode cL_law 1317 = .ok (.iload 15, 2) := by decide +kernel
theorem dL_law_1319 : decode cL_law 1319 = .ok (.iconst 5, 1) := by decide +kernel
theorem dL_law_1320 : decode cL_law 1320 = .ok (.ishr, 1) := by decide +kernel
theorem dL_law_1321 : decode cL_law 1321 = .ok (.iload 15, 2) := by decide +kernel
theorem dL_law_1323 : decode cL_law 1323 = .ok (.bipush 26, 2) := by decide +kernel
theorem dL_law_1325 : decode cL_law 1325 = .ok (.ishr, 1) := by decide +kernel
theorem dL_law_1326 : decode cL_law 1326 = .ok (.iconst 2, 1) := by decide +kernel
theorem dL_law_1327 : decode cL_law 1327 = .ok (.invokestatic 178, 3) := by decide +kernel
theorem dL_law_1330 : decode cL_law 1330 = .ok (.ifCond .ne 9, 3) := by decide +kernel
theorem dL_law_1333 : decode cL_law 1333 = .ok (.sipush 10001, 3) := by decide +kernel
theorem dL_law_1336 : decode cL_law 1336 = .ok (.goto 6, 3) := by decide +kernel
theorem dL_law_1339 : decode cL_law 1339 = .ok (.sipush 300, 3) := by decide +kernel
theorem dL_law_1342 : decode cL_law 1342 = .ok (.invokestatic 178, 3) := by decide +kernel
theorem dL_law_1345 : decode cL_law 1345 = .ok (.iastore, 1) := by decide +kernel
theorem dL_law_1346 : decode cL_law 1346 = .ok (.iconst 0, 1) := by decide +kernel
theorem dL_law_1347 : decode cL_law 1347 = .ok (.istore 23, 2) := by decide +kernel
theorem dL_law_1349 : decode cL_law 1349 = .ok (.iload 23, 2) := by decide +kernel
theorem dL_law_1351 : decode cL_law 1351 = .ok (.bipush 9, 2) := by decide +kernel
theorem dL_law_1353 : decode cL_law 1353 = .ok (.if_icmp .ge 35, 3) := by decide +kernel
theorem dL_law_1356 : decode cL_law 1356 = .ok (.iload 22, 2) := by decide +kernel
theorem dL_law_1358 : decode cL_law 1358 = .ok (.aload 6, 2) := by decide +kernel
theorem dL_law_1360 : decode cL_law 1360 = .ok (.bipush 32, 2) := by decide +kernel
theorem dL_law_1362 : decode cL_law 1362 = .ok (.iload 19, 2) := by decide +kernel
theorem dL_law_1364 : decode cL_law 1364 = .ok (.imul, 1) := by decide +kernel
theorem dL_law_1365 : decode cL_law 1365 = .ok (.iconst 4, 1) := by decide +kernel
theorem dL_law_1366 : decode cL_law 1366 = .ok (.iadd, 1) := by decide +kernel
theorem dL_law_1367 : decode cL_law 1367 = .ok (.iload 23, 2) := by decide +kernel
theorem dL_law_1369 : decode cL_law 1369 = .ok (.iadd, 1) := by decide +kernel
theorem dL_law_1370 : decode cL_law 1370 = .ok (.iaload, 1) := by decide +kernel
theorem dL_law_1371 : decode cL_law 1371 = .ok (.ifCond .ge 7, 3) := by decide +kernel
theorem dL_law_1374 : decode cL_law 1374 = .ok (.iconst 0, 1) := by decide +kernel
theorem dL_law_1375 : decode cL_law 1375 = .ok (.goto 4, 3) := by decide +kernel
theorem dL_law_1378 : decode cL_law 1378 = .ok (.iconst 1, 1) := by decide +kernel
theorem dL_law_1379 : decode cL_law 1379 = .ok (.iadd, 1) := by decide +kernel
theorem dL_law_1380 : decode cL_law 1380 = .ok (.istore 22, 2) := by decide +kernel
theorem dL_law_1382 : decode cL_law 1382 = .ok (.iinc 23 1, 3) := by decide +kernel
theorem dL_law_1385 : decode cL_law 1385 = .ok (.goto (-36), 3) := by decide +kernel
theorem dL_law_1388 : decode cL_law 1388 = .ok (.aload_n 1, 1) := by decide +kernel
theorem dL_law_1389 : decode cL_law 1389 = .ok (.iload 19, 2) := by decide +kernel
theorem dL_law_1391 : decode cL_law 1391 = .ok (.iload 20, 2) := by decide +kernel
theorem dL_law_1393 : decode cL_law 1393 = .ok (.aload 6, 2) := by decide +kernel
theorem dL_law_1395 : decode cL_law 1395 = .ok (.bipush 32, 2) := by decide +kernel
theorem dL_law_1397 : decode cL_law 1397 = .ok (.iload 19, 2) := by decide +kernel
theorem dL_law_1399 : decode cL_law 1399 = .ok (.imul, 1) := by decide +kernel
theorem dL_law_1400 : decode cL_law 1400 = .ok (.iconst 4, 1) := by decide +kernel
theorem dL_law_1401 : decode cL_law 1401 = .ok (.iadd, 1) := by decide +kernel
theorem dL_law_1402 : decode cL_law 1402 = .ok (.iload 20, 2) := by decide +kernel
theorem dL_law_1404 : decode cL_law 1404 = .ok (.iadd, 1) := by decide +kernel
theorem dL_law_1405 : decode cL_law 1405 = .ok (.iaload, 1) := by decide +kernel
theorem dL_law_1406 : decode cL_law 1406 = .ok (.invokevirtual 198, 3) := by decide +kernel
theorem dL_law_1409 : decode cL_law 1409 = .ok (.iload 22, 2) := by decide +kernel
theorem dL_law_1411 : decode cL_law 1411 = .ok (.if_icmp .eq 5, 3) := by decide +kernel
theorem dL_law_1414 : decode cL_law 1414 = .ok (.iconst 0, 1) := by decide +kernel
theorem dL_law_1415 : decode cL_law 1415 = .ok (.ireturn, 1) := by decide +kernel
theorem dL_law_1416 : decode cL_law 1416 = .ok (.goto 852, 3) := by decide +kernel
theorem dL_law_1419 : decode cL_law 1419 = .ok (.iload 17, 2) := by decide +kernel
theorem dL_law_1421 : decode cL_law 1421 = .ok (.bipush 15, 2) := by decide +kernel
theorem dL_law_1423 : decode cL_law 1423 = .ok (.if_icmp .ne 105, 3) := by decide +kernel
theorem dL_law_1426 : decode cL_law 1426 = .ok (.iload 12, 2) := by decide +kernel
theorem dL_law_1428 : decode cL_law 1428 = .ok (.ifCond .ne 6, 3) := by decide +kernel
theorem dL_law_1431 : decode cL_law 1431 = .ok (.goto 882, 3) := by decide +kernel
theorem dL_law_1434 : decode cL_law 1434 = .ok (.aload 6, 2) := by decide +kernel
theorem dL_law_1436 : decode cL_law 1436 = .ok (.bipush 32, 2) := by decide +kernel
theorem dL_law_1438 : decode cL_law 1438 = .ok (.iload 19, 2) := by decide +kernel
theorem dL_law_1440 : decode cL_law 1440 = .ok (.imul, 1) := by decide +kernel
theorem dL_law_1441 : decode cL_law 1441 = .ok (.iconst 2, 1) := by decide +kernel
theorem dL_law_1442 : decode cL_law 1442 = .ok (.iadd, 1) := by decide +kernel
theorem dL_law_1443 : decode cL_law 1443 = .ok (.iaload, 1) := by decide +kernel
theorem dL_law_1444 : decode cL_law 1444 = .ok (.istore 22, 2) := by decide +kernel
theorem dL_law_1446 : decode cL_law 1446 = .ok (.aload 6, 2) := by decide +kernel
theorem dL_law_1448 : decode cL_law 1448 = .ok (.bipush 32, 2) := by decide +kernel
theorem dL_law_1450 : decode cL_law 1450 = .ok (.iload 19, 2) := by decide +kernel
theorem dL_law_1452 : decode cL_law 1452 = .ok (.imul, 1) := by decide +kernel
theorem dL_law_1453 : decode cL_law 1453 = .ok (.iconst 2, 1) := by decide +kernel
theorem dL_law_1454 : decode cL_law 1454 = .ok (.iadd, 1) := by decide +kernel
theorem dL_law_1455 : decode cL_law 1455 = .ok (.iload 15, 2) := by decide +kernel
theorem dL_law_1457 : decode cL_law 1457 = .ok (.iconst 5, 1) := by decide +kernel
theorem dL_law_1458 : decode cL_law 1458 = .ok (.ishr, 1) := by decide +kernel
theorem dL_law_1459 : decode cL_law 1459 = .ok (.bipush 7, 2) := by decide +kernel
theorem dL_law_1461 : decode cL_law 1461 = .ok (.invokestatic 178, 3) := by decide +kernel
theorem dL_law_1464 : decode cL_law 1464 = .ok (.iconst 1, 1) := by decide +kernel
theorem dL_law_1465 : decode cL_law 1465 = .ok (.isub, 1) := by decide +kernel
theorem dL_law_1466 : decode cL_law 1466 = .ok (.iastore, 1) := by decide +kernel
theorem dL_law_1467 : decode cL_law 1467 = .ok (.aload 6, 2) := by decide +kernel
theorem dL_law_1469 : decode cL_law 1469 = .ok (.bipush 32, 2) := by decide +kernel
theorem dL_law_1471 : decode cL_law 1471 = .ok (.iload 19, 2) := by decide +kernel
theorem dL_law_1473 : decode cL_law 1473 = .ok (.imul, 1) := by decide +kernel
theorem dL_law_1474 : decode cL_law 1474 = .ok (.iconst 3, 1) := by decide +kernel
theorem dL_law_1475 : decode cL_law 1475 = .ok (.iadd, 1) := by decide +kernel
theorem dL_law_1476 : decode cL_law 1476 = .ok (.iload 15, 2) := by decide +kernel
theorem dL_law_1478 : decode cL_law 1478 = .ok (.bipush 8, 2) := by decide +kernel
theorem dL_law_1480 : decode cL_law 1480 = .ok (.ishr, 1) := by decide +kernel
theorem dL_law_1481 : decode cL_law 1481 = .ok (.sipush 2001, 3) := by decide +kernel
theorem dL_law_1484 : decode cL_law 1484 = .ok (.invokestatic 178, 3) := by decide +kernel
theorem dL_law_1487 : decode cL_law 1487 = .ok (.sipush 1000, 3) := by decide +kernel
theorem dL_law_1490 : decode cL_law 1490 = .ok (.isub, 1) := by decide +kernel
theorem dL_law_1491 : decode cL_law 1491 = .ok (.iastore, 1) := by decide +kernel
theorem dL_law_1492 : decode cL_law 1492 = .ok (.aload_n 1, 1) := by decide +kernel
theorem dL_law_1493 : decode cL_law 1493 = .ok (.iload 19, 2) := by decide +kernel
theorem dL_law_1495 : decode cL_law 1495 = .ok (.aload 6, 2) := by decide +kernel
theorem dL_law_1497 : decode cL_law 1497 = .ok (.bipush 32, 2) := by decide +kernel
theorem dL_law_1499 : decode cL_law 1499 = .ok (.iload 19, 2) := by decide +kernel
theorem dL_law_1501 : decode cL_law 1501 = .ok (.imul, 1) := by decide +kernel
theorem dL_law_1502 : decode cL_law 1502 = .ok (.iconst 2, 1) := by decide +kernel
theorem dL_law_1503 : decode cL_law 1503 = .ok (.iadd, 1) := by decide +kernel
theorem dL_law_1504 : decode cL_law 1504 = .ok (.iaload, 1) := by decide +kernel
theorem dL_law_1505 : decode cL_law 1505 = .ok (.aload 6, 2) := by decide +kernel
theorem dL_law_1507 : decode cL_law 1507 = .ok (.bipush 32, 2) := by decide +kernel
theorem dL_law_1509 : decode cL_law 1509 = .ok (.iload 19, 2) := by decide +kernel
theorem dL_law_1511 : decode cL_law 1511 = .ok (.imul, 1) := by decide +kernel
theorem dL_law_1512 : decode cL_law 1512 = .ok (.iconst 3, 1) := by decide +kernel
theorem dL_law_1513 : decode cL_law 1513 = .ok (.iadd, 1) := by decide +kernel
theorem dL_law_1514 : decode cL_law 1514 = .ok (.iaload, 1) := by decide +kernel
theorem dL_law_1515 : decode cL_law 1515 = .ok (.invokevirtual 200, 3) := by decide +kernel
theorem dL_law_1518 : decode cL_law 1518 = .ok (.iload 22, 2) := by decide +kernel
theorem dL_law_1520 : decode cL_law 1520 = .ok (.if_icmp .eq 5, 3) := by decide +kernel
theorem dL_law_1523 : decode cL_law 1523 = .ok (.iconst 0, 1) := by decide +kernel
theorem dL_law_1524 : decode cL_law 1524 = .ok (.ireturn, 1) := by decide +kernel
theorem dL_law_1525 : decode cL_law 1525 = .ok (.goto 743, 3) := by decide +kernel
theorem dL_law_1528 : decode cL_law 1528 = .ok (.iload 17, 2) := by decide +kernel
theorem dL_law_1530 : decode cL_law 1530 = .ok (.bipush 16, 2) := by decide +kernel
theorem dL_law_1532 : decode cL_law 1532 = .ok (.if_icmp .ne 275, 3) := by decide +kernel
theorem dL_law_1535 : decode cL_law 1535 = .ok (.iload 12, 2) := by decide +kernel
theorem dL_law_1537 : decode cL_law 1537 = .ok (.ifCond .ne 6, 3) := by decide +kernel
theorem dL_law_1540 : decode cL_law 1540 = .ok (.goto 773, 3) := by decide +kernel
theorem dL_law_1543 : decode cL_law 1543 = .ok (.iconst 1, 1) := by decide +kernel
theorem dL_law_1544 : decode cL_law 1544 = .ok (.iload 15, 2) := by decide +kernel
theorem dL_law_1546 : decode cL_law 1546 = .ok (.iconst 5, 1) := by decide +kernel
theorem dL_law_1547 : decode cL_law 1547 = .ok (.ishr, 1) := by decide +kernel
theorem dL_law_1548 : decode cL_law 1548 = .ok (.sipush 3000, 3) := by decide +kernel
theorem dL_law_1551 : decode cL_law 1551 = .ok (.invokestatic 178, 3) := by decide +kernel
theorem dL_law_1554 : decode cL_law 1554 = .ok (.iadd, 1) := by decide +kernel
theorem dL_law_1555 : decode cL_law 1555 = .ok (.istore 22, 2) := by decide +kernel
theorem dL_law_1557 : decode cL_law 1557 = .ok (.iconst 0, 1) := by decide +kernel
theorem dL_law_1558 : decode cL_law 1558 = .ok (.istore 23, 2) := by decide +kernel
theorem dL_law_1560 : decode cL_law 1560 = .ok (.iconst 0, 1) := by decide +kernel
theorem dL_law_1561 : decode cL_law 1561 = .ok (.istore 24, 2) := by decide +kernel
theorem dL_law_1563 : decode cL_law 1563 = .ok (.iconst 0, 1) := by decide +kernel
theorem dL_law_1564 : decode cL_law 1564 = .ok (.istore 25, 2) := by decide +kernel
theorem dL_law_1566 : decode cL_law 1566 = .ok (.iload 25, 2) := by decide +kernel
theorem dL_law_1568 : decode cL_law 1568 = .ok (.bipush 9, 2) := by decide +kernel
theorem dL_law_1570 : decode cL_law 1570 = .ok (.if_icmp .ge 117, 3) := by decide +kernel
theorem dL_law_1573 : decode cL_law 1573 = .ok (.iload 25, 2) := by decide +kernel
theorem dL_law_1575 : decode cL_law 1575 = .ok (.iload 20, 2) := by decide +kernel
theorem dL_law_1577 : decode cL_law 1577 = .ok (.if_icmp .gt 16, 3) := by decide +kernel
theorem dL_law_1580 : decode cL_law 1580 = .ok (.iload 20, 2) := by decide +kernel
theorem dL_law_1582 : decode cL_law 1582 = .ok (.iload 25, 2) := by decide +kernel
theorem dL_law_1584 : decode cL_law 1584 = .ok (.iconst 4, 1) := by decide +kernel
theorem dL_law_1585 : decode cL_law 1585 = .ok (.iadd, 1) := by decide +kernel
theorem dL_law_1586 : decode cL_law 1586 = .ok (.if_icmp .ge 7, 3) := by decide +kernel
theorem dL_law_1589 : decode cL_law 1589 = .ok (.iconst 1, 1) := by decide +kernel
theorem dL_law_1590 : decode cL_law 1590 = .ok (.goto 4, 3) := by decide +kernel
theorem dL_law_1593 : decode cL_law 1593 = .ok (.iconst 0, 1) := by decide +kernel
theorem dL_law_1594 : decode cL_law 1594 = .ok (.istore 26, 2) := by decide +kernel
theorem dL_law_1596 : decode cL_law 1596 = .ok (.iload 25, 2) := by decide +kernel
theorem dL_law_1598 : decode cL_law 1598 = .ok (.istore 27, 2) := by decide +kernel
theorem dL_law_1600 : decode cL_law 1600 = .ok (.iload 27, 2) := by decide +kernel
theorem dL_law_1602 : decode cL_law 1602 = .ok (.iload 25, 2) := by decide +kernel
theorem dL_law_1604 : decode cL_law 1604 = .ok (.iconst 4, 1) := by decide +kernel
theorem dL_law_1605 : decode cL_law 1605 = .ok (.iadd, 1) := by decide +kernel
theorem dL_law_1606 : decode cL_law 1606 = .ok (.if_icmp .ge 43, 3) := by decide +kernel
theorem dL_law_1609 : decode cL_law 1609 = .ok (.iload 27, 2) := by decide +kernel
theorem dL_law_1611 : decode cL_law 1611 = .ok (.bipush 9, 2) := by decide +kernel
theorem dL_law_1613 : decode cL_law 1613 = .ok (.if_icmp .ge 36, 3) := by decide +kernel
theorem dL_law_1616 : decode cL_law 1616 = .ok (.iload 26, 2) := by decide +kernel
theorem dL_law_1618 : decode cL_law 1618 = .ok (.aload 6, 2) := by decide +kernel
theorem dL_law_1620 : decode cL_law 1620 = .ok (.bipush 32, 2) := by decide +kernel
theorem dL_law_1622 : decode cL_law 1622 = .ok (.iload 19, 2) := by decide +kernel
theorem dL_law_1624 : decode cL_law 1624 = .ok (.imul, 1) := by decide +kernel
theorem dL_law_1625 : decode cL_law 1625 = .ok (.bipush 13, 2) := by decide +kernel
theorem dL_law_1627 : decode cL_law 1627 = .ok (.iadd, 1) := by decide +kernel
theorem dL_law_1628 : decode cL_law 1628 = .ok (.iload 27, 2) := by decide +kernel
theorem dL_law_1630 : decode cL_law 1630 = .ok (.iadd, 1) := by decide +kernel
theorem dL_law_1631 : decode cL_law 1631 = .ok (.iaload, 1) := by decide +kernel
theorem dL_law_1632 : decode cL_law 1632 = .ok (.ifCond .le 7, 3) := by decide +kernel
theorem dL_law_1635 : decode cL_law 1635 = .ok (.iconst 1, 1) := by decide +kernel
theorem dL_law_1636 : decode cL_law 1636 = .ok (.goto 4, 3) := by decide +kernel
theorem dL_law_1639 : decode cL_law 1639 = .ok (.iconst 0, 1) := by decide +kernel
theorem dL_law_1640 : decode cL_law 1640 = .ok (.iadd, 1) := by decide +kernel
theorem dL_law_1641 : decode cL_law 1641 = .ok (.istore 26, 2) := by decide +kernel
theorem dL_law_1643 : decode cL_law 1643 = .ok (.iinc 27 1, 3) := by decide +kernel
theorem dL_law_1646 : decode cL_law 1646 = .ok (.goto (-46), 3) := by decide +kernel
theorem dL_law_1649 : decode cL_law 1649 = .ok (.iload 26, 2) := by decide +kernel
theorem dL_law_1651 : decode cL_law 1651 = .ok (.iload 23, 2) := by decide +kernel
theorem dL_law_1653 : decode cL_law 1653 = .ok (.if_icmp .le 24, 3) := by decide +kernel
theorem dL_law_1656 : decode cL_law 1656 = .ok (.iload 25, 2) := by decide +kernel
theorem dL_law_1658 : decode cL_law 1658 = .ok (.iload 20, 2) := by decide +kernel
theorem dL_law_1660 : decode cL_law 1660 = .ok (.if_icmp .gt 17, 3) := by decide +kernel
theorem dL_law_1663 : decode cL_law 1663 = .ok (.iload 20, 2) := by decide +kernel
theorem dL_law_1665 : decode cL_law 1665 = .ok (.iload 25, 2) := by decide +kernel
theorem dL_law_1667 : decode cL_law 1667 = .ok (.iconst 4, 1) := by decide +kernel
theorem dL_law_1668 : decode cL_law 1668 = .ok (.iadd, 1) := by decide +kernel
theorem dL_law_1669 : decode cL_law 1669 = .ok (.if_icmp .ge 8, 3) := by decide +kernel
theorem dL_law_1672 : decode cL_law 1672 = .ok (.iload 26, 2) := by decide +kernel
theorem dL_law_1674 : decode cL_law 1674 = .ok (.goto 5, 3) := by decide +kernel
theorem dL_law_1677 : decode cL_law 1677 = .ok (.iload 23, 2) := by decide +kernel
theorem dL_law_1679 : decode cL_law 1679 = .ok (.istore 23, 2) := by decide +kernel
theorem dL_law_1681 : decode cL_law 1681 = .ok (.iinc 25 1, 3) := by decide +kernel
theorem dL_law_1684 : decode cL_law 1684 = .ok (.goto (-118), 3) := by decide +kernel
theorem dL_law_1687 : decode cL_law 1687 = .ok (.aload 6, 2) := by decide +kernel
theorem dL_law_1689 : decode cL_law 1689 = .ok (.bipush 32, 2) := by decide +kernel
theorem dL_law_1691 : decode cL_law 1691 = .ok (.iload 19, 2) := by decide +kernel
theorem dL_law_1693 : decode cL_law 1693 = .ok (.imul, 1) := by decide +kernel
theorem dL_law_1694 : decode cL_law 1694 = .ok (.bipush 13, 2) := by decide +kernel
theorem dL_law_1696 : decode cL_law 1696 = .ok (.iadd, 1) := by decide +kernel
theorem dL_law_1697 : decode cL_law 1697 = .ok (.iload 20, 2) := by decide +kernel
theorem dL_law_1699 : decode cL_law 1699 = .ok (.iadd, 1) := by decide +kernel
theorem dL_law_1700 : decode cL_law 1700 = .ok (.iaload, 1) := by decide +kernel
theorem dL_law_1701 : decode cL_law 1701 = .ok (.ifCond .gt 9, 3) := by decide +kernel
theorem dL_law_1704 : decode cL_law 1704 = .ok (.iload 23, 2) := by decide +kernel
theorem dL_law_1706 : decode cL_law 1706 = .ok (.iconst 2, 1) := by decide +kernel
theorem dL_law_1707 : decode cL_law 1707 = .ok (.if_icmp .le 21, 3) := by decide +kernel
theorem dL_law_1710 : decode cL_law 1710 = .ok (.aload_n 1, 1) := by decide +kernel
theorem dL_law_1711 : decode cL_law 1711 = .ok (.bipush 6, 2) := by decide +kernel
theorem dL_law_1713 : decode cL_law 1713 = .ok (.iload 19, 2) := by decide +kernel
theorem dL_law_1715 : decode cL_law 1715 = .ok (.iload 20, 2) := by decide +kernel
theorem dL_law_1717 : decode cL_law 1717 = .ok (.iload 22, 2) := by decide +kernel
theorem dL_law_1719 : decode cL_law 1719 = .ok (.invokestatic 151, 3) := by decide +kernel
theorem dL_law_1722 : decode cL_law 1722 = .ok (.iconst 3, 1) := by decide +kernel
theorem dL_law_1723 : decode cL_law 1723 = .ok (.if_icmp .eq 590, 3) := by decide +kernel
theorem dL_law_1726 : decode cL_law 1726 = .ok (.iconst 0, 1) := by decide +kernel
theorem dL_law_1727 : decode cL_law 1727 = .ok (.ireturn, 1) := by decide +kernel
theorem dL_law_1728 : decode cL_law 1728 = .ok (.aload 6, 2) := by decide +kernel
theorem dL_law_1730 : decode cL_law 1730 = .ok (.bipush 32, 2) := by decide +kernel
theorem dL_law_1732 : decode cL_law 1732 = .ok (.iload 19, 2) := by decide +kernel
theorem dL_law_1734 : decode cL_law 1734 = .ok (.imul, 1) := by decide +kernel
theorem dL_law_1735 : decode cL_law 1735 = .ok (.bipush 13, 2) := by decide +kernel
theorem dL_law_1737 : decode cL_law 1737 = .ok (.iadd, 1) := by decide +kernel
theorem dL_law_1738 : decode cL_law 1738 = .ok (.iload 20, 2) := by decide +kernel
theorem dL_law_1740 : decode cL_law 1740 = .ok (.iadd, 1) := by decide +kernel
theorem dL_law_1741 : decode cL_law 1741 = .ok (.iload 22, 2) := by decide +kernel
theorem dL_law_1743 : decode cL_law 1743 = .ok (.iastore, 1) := by decide +kernel
theorem dL_law_1744 : decode cL_law 1744 = .ok (.iconst 0, 1) := by decide +kernel
theorem dL_law_1745 : decode cL_law 1745 = .ok (.istore 25, 2) := by decide +kernel
theorem dL_law_1747 : decode cL_law 1747 = .ok (.iload 25, 2) := by decide +kernel
theorem dL_law_1749 : decode cL_law 1749 = .ok (.bipush 9, 2) := by decide +kernel
theorem dL_law_1751 : decode cL_law 1751 = .ok (.if_icmp .ge 36, 3) := by decide +kernel
theorem dL_law_1754 : decode cL_law 1754 = .ok (.iload 24, 2) := by decide +kernel
theorem dL_law_1756 : decode cL_law 1756 = .ok (.aload 6, 2) := by decide +kernel
theorem dL_law_1758 : decode cL_law 1758 = .ok (.bipush 32, 2) := by decide +kernel
theorem dL_law_1760 : decode cL_law 1760 = .ok (.iload 19, 2) := by decide +kernel
theorem dL_law_1762 : decode cL_law 1762 = .ok (.imul, 1) := by decide +kernel
theorem dL_law_1763 : decode cL_law 1763 = .ok (.bipush 13, 2) := by decide +kernel
theorem dL_law_1765 : decode cL_law 1765 = .ok (.iadd, 1) := by decide +kernel
theorem dL_law_1766 : decode cL_law 1766 = .ok (.iload 25, 2) := by decide +kernel
theorem dL_law_1768 : decode cL_law 1768 = .ok (.iadd, 1) := by decide +kernel
theorem dL_law_1769 : decode cL_law 1769 = .ok (.iaload, 1) := by decide +kernel
theorem dL_law_1770 : decode cL_law 1770 = .ok (.ifCond .le 7, 3) := by decide +kernel
theorem dL_law_1773 : decode cL_law 1773 = .ok (.iconst 1, 1) := by decide +kernel
theorem dL_law_1774 : decode cL_law 1774 = .ok (.goto 4, 3) := by decide +kernel
theorem dL_law_1777 : decode cL_law 1777 = .ok (.iconst 0, 1) := by decide +kernel
theorem dL_law_1778 : decode cL_law 1778 = .ok (.iadd, 1) := by decide +kernel
theorem dL_law_1779 : decode cL_law 1779 = .ok (.istore 24, 2) := by decide +kernel
theorem dL_law_1781 : decode cL_law 1781 = .ok (.iinc 25 1, 3) := by decide +kernel
theorem dL_law_1784 : decode cL_law 1784 = .ok (.goto (-37), 3) := by decide +kernel
theorem dL_law_1787 : decode cL_law 1787 = .ok (.aload_n 1, 1) := by decide +kernel
theorem dL_law_1788 : decode cL_law 1788 = .ok (.iload 19, 2) := by decide +kernel
theorem dL_law_1790 : decode cL_law 1790 = .ok (.iload 20, 2) := by decide +kernel
theorem dL_law_1792 : decode cL_law 1792 = .ok (.iload 22, 2) := by decide +kernel
theorem dL_law_1794 : decode cL_law 1794 = .ok (.invokevirtual 111, 3) := by decide +kernel
theorem dL_law_1797 : decode cL_law 1797 = .ok (.iload 24, 2) := by decide +kernel
theorem dL_law_1799 : decode cL_law 1799 = .ok (.if_icmp .eq 5, 3) := by decide +kernel
theorem dL_law_1802 : decode cL_law 1802 = .ok (.iconst 0, 1) := by decide +kernel
theorem dL_law_1803 : decode cL_law 1803 = .ok (.ireturn, 1) := by decide +kernel
theorem dL_law_1804 : decode cL_law 1804 = .ok (.goto 464, 3) := by decide +kernel
theorem dL_law_1807 : decode cL_law 1807 = .ok (.iload 17, 2) := by decide +kernel
theorem dL_law_1809 : decode cL_law 1809 = .ok (.bipush 17, 2) := by decide +kernel
theorem dL_law_1811 : decode cL_law 1811 = .ok (.if_icmp .ne 77, 3) := by decide +kernel
theorem dL_law_1814 : decode cL_law 1814 = .ok (.iload 12, 2) := by decide +kernel
theorem dL_law_1816 : decode cL_law 1816 = .ok (.ifCond .ne 6, 3) := by decide +kernel
theorem dL_law_1819 : decode cL_law 1819 = .ok (.goto 494, 3) := by decide +kernel
theorem dL_law_1822 : decode cL_law 1822 = .ok (.aload 6, 2) := by decide +kernel
theorem dL_law_1824 : decode cL_law 1824 = .ok (.bipush 32, 2) := by decide +kernel
theorem dL_law_1826 : decode cL_law 1826 = .ok (.iload 19, 2) := by decide +kernel
theorem dL_law_1828 : decode cL_law 1828 = .ok (.imul, 1) := by decide +kernel
theorem dL_law_1829 : decode cL_law 1829 = .ok (.bipush 22, 2) := by decide +kernel
theorem dL_law_1831 : decode cL_law 1831 = .ok (.iadd, 1) := by decide +kernel
theorem dL_law_1832 : decode cL_law 1832 = .ok (.iload 20, 2) := by decide +kernel
theorem dL_law_1834 : decode cL_law 1834 = .ok (.iadd, 1) := by decide +kernel
theorem dL_law_1835 : decode cL_law 1835 = .ok (.iconst 1, 1) := by decide +kernel
theorem dL_law_1836 : decode cL_law 1836 = .ok (.aload 6, 2) := by decide +kernel
theorem dL_law_1838 : decode cL_law 1838 = .ok (.bipush 32, 2) := by decide +kernel
theorem dL_law_1840 : decode cL_law 1840 = .ok (.iload 19, 2) := by decide +kernel
theorem dL_law_1842 : decode cL_law 1842 = .ok (.imul, 1) := by decide +kernel
theorem dL_law_1843 : decode cL_law 1843 = .ok (.bipush 22, 2) := by decide +kernel
theorem dL_law_1845 : decode cL_law 1845 = .ok (.iadd, 1) := by decide +kernel
theorem dL_law_1846 : decode cL_law 1846 = .ok (.iload 20, 2) := by decide +kernel
theorem dL_law_1848 : decode cL_law 1848 = .ok (.iadd, 1) := by decide +kernel
theorem dL_law_1849 : decode cL_law 1849 = .ok (.iaload, 1) := by decide +kernel
theorem dL_law_1850 : decode cL_law 1850 = .ok (.isub, 1) := by decide +kernel
theorem dL_law_1851 : decode cL_law 1851 = .ok (.iastore, 1) := by decide +kernel
theorem dL_law_1852 : decode cL_law 1852 = .ok (.aload_n 1, 1) := by decide +kernel
theorem dL_law_1853 : decode cL_law 1853 = .ok (.iload 19, 2) := by decide +kernel
theorem dL_law_1855 : decode cL_law 1855 = .ok (.iload 20, 2) := by decide +kernel
theorem dL_law_1857 : decode cL_law 1857 = .ok (.invokevirtual 203, 3) := by decide +kernel
theorem dL_law_1860 : decode cL_law 1860 = .ok (.aload 6, 2) := by decide +kernel
theorem dL_law_1862 : decode cL_law 1862 = .ok (.bipush 32, 2) := by decide +kernel
theorem dL_law_1864 : decode cL_law 1864 = .ok (.iload 19, 2) := by decide +kernel
theorem dL_law_1866 : decode cL_law 1866 = .ok (.imul, 1) := by decide +kernel
theorem dL_law_1867 : decode cL_law 1867 = .ok (.bipush 22, 2) := by decide +kernel
theorem dL_law_1869 : decode cL_law 1869 = .ok (.iadd, 1) := by decide +kernel
theorem dL_law_1870 : decode cL_law 1870 = .ok (.iload 20, 2) := by decide +kernel
theorem dL_law_1872 : decode cL_law 1872 = .ok (.iadd, 1) := by decide +kernel
theorem dL_law_1873 : decode cL_law 1873 = .ok (.iaload, 1) := by decide +kernel
theorem dL_law_1874 : decode cL_law 1874 = .ok (.iconst 1, 1) := by decide +kernel
theorem dL_law_1875 : decode cL_law 1875 = .ok (.if_icmp .ne 7, 3) := by decide +kernel
theorem dL_law_1878 : decode cL_law 1878 = .ok (.iconst 1, 1) := by decide +kernel
theorem dL_law_1879 : decode cL_law 1879 = .ok (.goto 4, 3) := by decide +kernel
theorem dL_law_1882 : decode cL_law 1882 = .ok (.iconst 0, 1) := by decide +kernel
theorem dL_law_1883 : decode cL_law 1883 = .ok (.if_icmp .eq 385, 3) := by decide +kernel
theorem dL_law_1886 : decode cL_law 1886 = .ok (.iconst 0, 1) := by decide +kernel
theorem dL_law_1887 : decode cL_law 1887 = .ok (.ireturn, 1) := by decide +kernel
theorem dL_law_1888 : decode cL_law 1888 = .ok (.iload 11, 2) := by decide +kernel
theorem dL_law_1890 : decode cL_law 1890 = .ok (.ifCond .ne 6, 3) := by decide +kernel
theorem dL_law_1893 : decode cL_law 1893 = .ok (.goto 420, 3) := by decide +kernel
theorem dL_law_1896 : decode cL_law 1896 = .ok (.iload 13, 2) := by decide +kernel
theorem dL_law_1898 : decode cL_law 1898 = .ok (.iconst 2, 1) := by decide +kernel
theorem dL_law_1899 : decode cL_law 1899 = .ok (.if_icmp .ge 98, 3) := by decide +kernel
theorem dL_law_1902 : decode cL_law 1902 = .ok (.iload 15, 2) := by decide +kernel
theorem dL_law_1904 : decode cL_law 1904 = .ok (.iconst 5, 1) := by decide +kernel
theorem dL_law_1905 : decode cL_law 1905 = .ok (.ishr, 1) := by decide +kernel
theorem dL_law_1906 : decode cL_law 1906 = .ok (.iconst 2, 1) := by decide +kernel
theorem dL_law_1907 : decode cL_law 1907 = .ok (.invokestatic 178, 3) := by decide +kernel
theorem dL_law_1910 : decode cL_law 1910 = .ok (.ifCond .ne 87, 3) := by decide +kernel
theorem dL_law_1913 : decode cL_law 1913 = .ok (.aload 7, 2) := by decide +kernel
theorem dL_law_1915 : decode cL_law 1915 = .ok (.iconst 4, 1) := by decide +kernel
theorem dL_law_1916 : decode cL_law 1916 = .ok (.iload 13, 2) := by decide +kernel
theorem dL_law_1918 : decode cL_law 1918 = .ok (.imul, 1) := by decide +kernel
theorem dL_law_1919 : decode cL_law 1919 = .ok (.iload 15, 2) := by decide +kernel
theorem dL_law_1921 : decode cL_law 1921 = .ok (.bipush 6, 2) := by decide +kernel
theorem dL_law_1923 : decode cL_law 1923 = .ok (.ishr, 1) := by decide +kernel
theorem dL_law_1924 : decode cL_law 1924 = .ok (.sipush 500, 3) := by decide +kernel
theorem dL_law_1927 : decode cL_law 1927 = .ok (.invokestatic 178, 3) := by decide +kernel
theorem dL_law_1930 : decode cL_law 1930 = .ok (.iastore, 1) := by decide +kernel
theorem dL_law_1931 : decode cL_law 1931 = .ok (.aload 7, 2) := by decide +kernel
theorem dL_law_1933 : decode cL_law 1933 = .ok (.iconst 4, 1) := by decide +kernel
theorem dL_law_1934 : decode cL_law 1934 = .ok (.iload 13, 2) := by decide +kernel
theorem dL_law_1936 : decode cL_law 1936 = .ok (.imul, 1) := by decide +kernel
theorem dL_law_1937 : decode cL_law 1937 = .ok (.iconst 1, 1) := by decide +kernel
theorem dL_law_1938 : decode cL_law 1938 = .ok (.iadd, 1) := by decide +kernel
theorem dL_law_1939 : decode cL_law 1939 = .ok (.iload 18, 2) := by decide +kernel
theorem dL_law_1941 : decode cL_law 1941 = .ok (.iastore, 1) := by decide +kernel
theorem dL_law_1942 : decode cL_law 1942 = .ok (.aload 7, 2) := by decide +kernel
theorem dL_law_1944 : decode cL_law 1944 = .ok (.iconst 4, 1) := by decide +kernel
theorem dL_law_1945 : decode cL_law 1945 = .ok (.iload 13, 2) := by decide +kernel
theorem dL_law_1947 : decode cL_law 1947 = .ok (.imul, 1) := by decide +kernel
theorem dL_law_1948 : decode cL_law 1948 = .ok (.iconst 2, 1) := by decide +kernel
theorem dL_law_1949 : decode cL_law 1949 = .ok (.iadd, 1) := by decide +kernel
theorem dL_law_1950 : decode cL_law 1950 = .ok (.iload 15, 2) := by decide +kernel
theorem dL_law_1952 : decode cL_law 1952 = .ok (.bipush 15, 2) := by decide +kernel
theorem dL_law_1954 : decode cL_law 1954 = .ok (.ishr, 1) := by decide +kernel
theorem dL_law_1955 : decode cL_law 1955 = .ok (.bipush 101, 2) := by decide +kernel
theorem dL_law_1957 : decode cL_law 1957 = .ok (.invokestatic 178, 3) := by decide +kernel
theorem dL_law_1960 : decode cL_law 1960 = .ok (.iastore, 1) := by decide +kernel
theorem dL_law_1961 : decode cL_law 1961 = .ok (.iinc 13 1, 3) := by decide +kernel
theorem dL_law_1964 : decode cL_law 1964 = .ok (.aload_n 1, 1) := by decide +kernel
theorem dL_law_1965 : decode cL_law 1965 = .ok (.aload 7, 2) := by decide +kernel
theorem dL_law_1967 : decode cL_law 1967 = .ok (.iconst 4, 1) := by decide +kernel
theorem dL_law_1968 : decode cL_law 1968 = .ok (.iload 13, 2) := by decide +kernel
theorem dL_law_1970 : decode cL_law 1970 = .ok (.imul, 1) := by decide +kernel
theorem dL_law_1971 : decode cL_law 1971 = .ok (.iconst 4, 1) := by decide +kernel
theorem dL_law_1972 : decode cL_law 1972 = .ok (.isub, 1) := by decide +kernel
theorem dL_law_1973 : decode cL_law 1973 = .ok (.iaload, 1) := by decide +kernel
theorem dL_law_1974 : decode cL_law 1974 = .ok (.iload 18, 2) := by decide +kernel
theorem dL_law_1976 : decode cL_law 1976 = .ok (.aload 7, 2) := by decide +kernel
theorem dL_law_1978 : decode cL_law 1978 = .ok (.iconst 4, 1) := by decide +kernel
theorem dL_law_1979 : decode cL_law 1979 = .ok (.iload 13, 2) := by decide +kernel
theorem dL_law_1981 : decode cL_law 1981 = .ok (.imul, 1) := by decide +kernel
theorem dL_law_1982 : decode cL_law 1982 = .ok (.iconst 2, 1) := by decide +kernel
theorem dL_law_1983 : decode cL_law 1983 = .ok (.isub, 1) := by decide +kernel
theorem dL_law_1984 : decode cL_law 1984 = .ok (.iaload, 1) := by decide +kernel
theorem dL_law_1985 : decode cL_law 1985 = .ok (.invokevirtual 207, 3) := by decide +kernel
theorem dL_law_1988 : decode cL_law 1988 = .ok (.iload 13, 2) := by decide +kernel
theorem dL_law_1990 : decode cL_law 1990 = .ok (.iconst 1, 1) := by decide +kernel
theorem dL_law_1991 : decode cL_law 1991 = .ok (.isub, 1) := by decide +kernel
theorem dL_law_1992 : decode cL_law 1992 = .ok (.if_icmp .eq 5, 3) := by decide +kernel
theorem dL_law_1995 : decode cL_law 1995 = .ok (.iconst 0, 1) := by decide +kernel
theorem dL_law_1996 : decode cL_law 1996 = .ok (.ireturn, 1) := by decide +kernel
theorem dL_law_1997 : decode cL_law 1997 = .ok (.iconst 0, 1) := by decide +kernel
theorem dL_law_1998 : decode cL_law 1998 = .ok (.istore 22, 2) := by decide +kernel
theorem dL_law_2000 : decode cL_law 2000 = .ok (.iload 22, 2) := by decide +kernel
theorem dL_law_2002 : decode cL_law 2002 = .ok (.iload 13, 2) := by decide +kernel
theorem dL_law_2004 : decode cL_law 2004 = .ok (.if_icmp .ge 264, 3) := by decide +kernel
theorem dL_law_2007 : decode cL_law 2007 = .ok (.iconst 1, 1) := by decide +kernel
theorem dL_law_2008 : decode cL_law 2008 = .ok (.iload 16, 2) := by decide +kernel
theorem dL_law_2010 : decode cL_law 2010 = .ok (.bipush 8, 2) := by decide +kernel
theorem dL_law_2012 : decode cL_law 2012 = .ok (.ishr, 1) := by decide +kernel
theorem dL_law_2013 : decode cL_law 2013 = .ok (.sipush 700, 3) := by decide +kernel
theorem dL_law_2016 : decode cL_law 2016 = .ok (.invokestatic 178, 3) := by decide +kernel
theorem dL_law_2019 : decode cL_law 2019 = .ok (.iadd, 1) := by decide +kernel
theorem dL_law_2020 : decode cL_law 2020 = .ok (.istore 23, 2) := by decide +kernel
theorem dL_law_2022 : decode cL_law 2022 = .ok (.aload 7, 2) := by decide +kernel
theorem dL_law_2024 : decode cL_law 2024 = .ok (.iconst 4, 1) := by decide +kernel
theorem dL_law_2025 : decode cL_law 2025 = .ok (.iload 22, 2) := by decide +kernel
theorem dL_law_2027 : decode cL_law 2027 = .ok (.imul, 1) := by decide +kernel
theorem dL_law_2028 : decode cL_law 2028 = .ok (.iconst 1, 1) := by decide +kernel
theorem dL_law_2029 : decode cL_law 2029 = .ok (.iadd, 1) := by decide +kernel
theorem dL_law_2030 : decode cL_law 2030 = .ok (.iaload, 1) := by decide +kernel
theorem dL_law_2031 : decode cL_law 2031 = .ok (.iload 20, 2) := by decide +kernel
theorem dL_law_2033 : decode cL_law 2033 = .ok (.aload_n 2, 1) := by decide +kernel
theorem dL_law_2034 : decode cL_law 2034 = .ok (.aload_n 3, 1) := by decide +kernel
theorem dL_law_2035 : decode cL_law 2035 = .ok (.aload 4, 2) := by decide +kernel
theorem dL_law_2037 : decode cL_law 2037 = .ok (.invokestatic 138, 3) := by decide +kernel
theorem dL_law_2040 : decode cL_law 2040 = .ok (.lstore 24, 2) := by decide +kernel
theorem dL_law_2042 : decode cL_law 2042 = .ok (.aload 7, 2) := by decide +kernel
theorem dL_law_2044 : decode cL_law 2044 = .ok (.iconst 4, 1) := by decide +kernel
theorem dL_law_2045 : decode cL_law 2045 = .ok (.iload 22, 2) := by decide +kernel
theorem dL_law_2047 : decode cL_law 2047 = .ok (.imul, 1) := by decide +kernel
theorem dL_law_2048 : decode cL_law 2048 = .ok (.iaload, 1) := by decide +kernel
theorem dL_law_2049 : decode cL_law 2049 = .ok (.i2l, 1) := by decide +kernel
theorem dL_law_2050 : decode cL_law 2050 = .ok (.lload 24, 2) := by decide +kernel
theorem dL_law_2052 : decode cL_law 2052 = .ok (.lconst 0, 1) := by decide +kernel
theorem dL_law_2053 : decode cL_law 2053 = .ok (.lcmp, 1) := by decide +kernel
theorem dL_law_2054 : decode cL_law 2054 = .ok (.ifCond .le 23, 3) := by decide +kernel
theorem dL_law_2057 : decode cL_law 2057 = .ok (.lload 24, 2) := by decide +kernel
theorem dL_law_2059 : decode cL_law 2059 = .ok (.aload 7, 2) := by decide +kernel
theorem dL_law_2061 : decode cL_law 2061 = .ok (.iconst 4, 1) := by decide +kernel
theorem dL_law_2062 : decode cL_law 2062 = .ok (.iload 22, 2) := by decide +kernel
theorem dL_law_2064 : decode cL_law 2064 = .ok (.imul, 1) := by decide +kernel
theorem dL_law_2065 : decode cL_law 2065 = .ok (.iconst 2, 1) := by decide +kernel
theorem dL_law_2066 : decode cL_law 2066 = .ok (.iadd, 1) := by decide +kernel
theorem dL_law_2067 : decode cL_law 2067 = .ok (.iaload, 1) := by decide +kernel
theorem dL_law_2068 : decode cL_law 2068 = .ok (.i2l, 1) := by decide +kernel
theorem dL_law_2069 : decode cL_law 2069 = .ok (.lmul, 1) := by decide +kernel
theorem dL_law_2070 : decode cL_law 2070 = .ok (.ldc2_w 30, 3) := by decide +kernel
theorem dL_law_2073 : decode cL_law 2073 = .ok (.ldiv, 1) := by decide +kernel
theorem dL_law_2074 : decode cL_law 2074 = .ok (.goto 4, 3) := by decide +kernel
theorem dL_law_2077 : decode cL_law 2077 = .ok (.lconst 0, 1) := by decide +kernel
theorem dL_law_2078 : decode cL_law 2078 = .ok (.ladd, 1) := by decide +kernel
theorem dL_law_2079 : decode cL_law 2079 = .ok (.lstore 26, 2) := by decide +kernel
theorem dL_law_2081 : decode cL_law 2081 = .ok (.iload 16, 2) := by decide +kernel
theorem dL_law_2083 : decode cL_law 2083 = .ok (.bipush 20, 2) := by decide +kernel
theorem dL_law_2085 : decode cL_law 2085 = .ok (.ishr, 1) := by decide +kernel
theorem dL_law_2086 : decode cL_law 2086 = .ok (.iconst 3, 1) := by decide +kernel
theorem dL_law_2087 : decode cL_law 2087 = .ok (.invokestatic 178, 3) := by decide +kernel
theorem dL_law_2090 : decode cL_law 2090 = .ok (.ifCond .ne 7, 3) := by decide +kernel
theorem dL_law_2093 : decode cL_law 2093 = .ok (.iconst 1, 1) := by decide +kernel
theorem dL_law_2094 : decode cL_law 2094 = .ok (.goto 4, 3) := by decide +kernel
theorem dL_law_2097 : decode cL_law 2097 = .ok (.iconst 0, 1) := by decide +kernel
theorem dL_law_2098 : decode cL_law 2098 = .ok (.istore 28, 2) := by decide +kernel
theorem dL_law_2100 : decode cL_law 2100 = .ok (.aload_n 1, 1) := by decide +kernel
theorem dL_law_2101 : decode cL_law 2101 = .ok (.iload 22, 2) := by decide +kernel
theorem dL_law_2103 : decode cL_law 2103 = .ok (.iload 20, 2) := by decide +kernel
theorem dL_law_2105 : decode cL_law 2105 = .ok (.invokevirtual 210, 3) := by decide +kernel
theorem dL_law_2108 : decode cL_law 2108 = .ok (.lload 26, 2) := by decide +kernel
theorem dL_law_2110 : decode cL_law 2110 = .ok (.lcmp, 1) := by decide +kernel
theorem dL_law_2111 : decode cL_law 2111 = .ok (.ifCond .eq 5, 3) := by decide +kernel
theorem dL_law_2114 : decode cL_law 2114 = .ok (.iconst 0, 1) := by decide +kernel
theorem dL_law_2115 : decode cL_law 2115 = .ok (.ireturn, 1) := by decide +kernel
theorem dL_law_2116 : decode cL_law 2116 = .ok (.iload 28, 2) := by decide +kernel
theorem dL_law_2118 : decode cL_law 2118 = .ok (.ifCond .eq 20, 3) := by decide +kernel
theorem dL_law_2121 : decode cL_law 2121 = .ok (.aload 7, 2) := by decide +kernel
theorem dL_law_2123 : decode cL_law 2123 = .ok (.iconst 4, 1) := by decide +kernel
theorem dL_law_2124 : decode cL_law 2124 = .ok (.iload 22, 2) := by decide +kernel
theorem dL_law_2126 : decode cL_law 2126 = .ok (.imul, 1) := by decide +kernel
theorem dL_law_2127 : decode cL_law 2127 = .ok (.iconst 3, 1) := by decide +kernel
theorem dL_law_2128 : decode cL_law 2128 = .ok (.iadd, 1) := by decide +kernel
theorem dL_law_2129 : decode cL_law 2129 = .ok (.iaload, 1) := by decide +kernel
theorem dL_law_2130 : decode cL_law 2130 = .ok (.iload 23, 2) := by decide +kernel
theorem dL_law_2132 : decode cL_law 2132 = .ok (.if_icmp .ge 63, 3) := by decide +kernel
theorem dL_law_2135 : decode cL_law 2135 = .ok (.goto 22, 3) := by decide +kernel
theorem dL_law_2138 : decode cL_law 2138 = .ok (.aload 7, 2) := by decide +kernel
theorem dL_law_2140 : decode cL_law 2140 = .ok (.iconst 4, 1) := by decide +kernel
theorem dL_law_2141 : decode cL_law 2141 = .ok (.iload 22, 2) := by decide +kernel
theorem dL_law_2143 : decode cL_law 2143 = .ok (.imul, 1) := by decide +kernel
theorem dL_law_2144 : decode cL_law 2144 = .ok (.iconst 3, 1) := by decide +kernel
theorem dL_law_2145 : decode cL_law 2145 = .ok (.iadd, 1) := by decide +kernel
theorem dL_law_2146 : decode cL_law 2146 = .ok (.iaload, 1) := by decide +kernel
theorem dL_law_2147 : decode cL_law 2147 = .ok (.iload 23, 2) := by decide +kernel
theorem dL_law_2149 : decode cL_law 2149 = .ok (.iadd, 1) := by decide +kernel
theorem dL_law_2150 : decode cL_law 2150 = .ok (.i2l, 1) := by decide +kernel
theorem dL_law_2151 : decode cL_law 2151 = .ok (.lload 26, 2) := by decide +kernel
theorem dL_law_2153 : decode cL_law 2153 = .ok (.lcmp, 1) := by decide +kernel
theorem dL_law_2154 : decode cL_law 2154 = .ok (.ifCond .le 41, 3) := by decide +kernel
theorem dL_law_2157 : decode cL_law 2157 = .ok (.aload_n 1, 1) := by decide +kernel
theorem dL_law_2158 : decode cL_law 2158 = .ok (.iload 28, 2) := by decide +kernel
theorem dL_law_2160 : decode cL_law 2160 = .ok (.ifCond .eq 8, 3) := by decide +kernel
theorem dL_law_2163 : decode cL_law 2163 = .ok (.bipush 9, 2) := by decide +kernel
theorem dL_law_2165 : decode cL_law 2165 = .ok (.goto 5, 3) := by decide +kernel
theorem dL_law_2168 : decode cL_law 2168 = .ok (.bipush 8, 2) := by decide +kernel
theorem dL_law_2170 : decode cL_law 2170 = .ok (.iload 22, 2) := by decide +kernel
theorem dL_law_2172 : decode cL_law 2172 = .ok (.iload 28, 2) := by decide +kernel
theorem dL_law_2174 : decode cL_law 2174 = .ok (.ifCond .eq 8, 3) := by decide +kernel
theorem dL_law_2177 : decode cL_law 2177 = .ok (.iload 23, 2) := by decide +kernel
theorem dL_law_2179 : decode cL_law 2179 = .ok (.goto 5, 3) := by decide +kernel
theorem dL_law_2182 : decode cL_law 2182 = .ok (.iload 20, 2) := by decide +kernel
theorem dL_law_2184 : decode cL_law 2184 = .ok (.iload 23, 2) := by decide +kernel
theorem dL_law_2186 : decode cL_law 2186 = .ok (.invokestatic 151, 3) := by decide +kernel
theorem dL_law_2189 : decode cL_law 2189 = .ok (.iconst 3, 1) := by decide +kernel
theorem dL_law_2190 : decode cL_law 2190 = .ok (.if_icmp .eq 72, 3) := by decide +kernel
theorem dL_law_2193 : decode cL_law 2193 = .ok (.iconst 0, 1) := by decide +kernel
theorem dL_law_2194 : decode cL_law 2194 = .ok (.ireturn, 1) := by decide +kernel
theorem dL_law_2195 : decode cL_law 2195 = .ok (.aload 7, 2) := by decide +kernel
theorem dL_law_2197 : decode cL_law 2197 = .ok (.iconst 4, 1) := by decide +kernel
theorem dL_law_2198 : decode cL_law 2198 = .ok (.iload 22, 2) := by decide +kernel
theorem dL_law_2200 : decode cL_law 2200 = .ok (.imul, 1) := by decide +kernel
theorem dL_law_2201 : decode cL_law 2201 = .ok (.iconst 3, 1) := by decide +kernel
theorem dL_law_2202 : decode cL_law 2202 = .ok (.iadd, 1) := by decide +kernel
theorem dL_law_2203 : decode cL_law 2203 = .ok (.dup2, 1) := by decide +kernel
theorem dL_law_2204 : decode cL_law 2204 = .ok (.iaload, 1) := by decide +kernel
theorem dL_law_2205 : decode cL_law 2205 = .ok (.iload 28, 2) := by decide +kernel
theorem dL_law_2207 : decode cL_law 2207 = .ok (.ifCond .eq 9, 3) := by decide +kernel
theorem dL_law_2210 : decode cL_law 2210 = .ok (.iload 23, 2) := by decide +kernel
theorem dL_law_2212 : decode cL_law 2212 = .ok (.ineg, 1) := by decide +kernel
theorem dL_law_2213 : decode cL_law 2213 = .ok (.goto 5, 3) := by decide +kernel
theorem dL_law_2216 : decode cL_law 2216 = .ok (.iload 23, 2) := by decide +kernel
theorem dL_law_2218 : decode cL_law 2218 = .ok (.iadd, 1) := by decide +kernel
theorem dL_law_2219 : decode cL_law 2219 = .ok (.iastore, 1) := by decide +kernel
theorem dL_law_2220 : decode cL_law 2220 = .ok (.iload 28, 2) := by decide +kernel
theorem dL_law_2222 : decode cL_law 2222 = .ok (.ifCond .eq 14, 3) := by decide +kernel
theorem dL_law_2225 : decode cL_law 2225 = .ok (.aload_n 1, 1) := by decide +kernel
theorem dL_law_2226 : decode cL_law 2226 = .ok (.iload 22, 2) := by decide +kernel
theorem dL_law_2228 : decode cL_law 2228 = .ok (.iload 23, 2) := by decide +kernel
theorem dL_law_2230 : decode cL_law 2230 = .ok (.invokevirtual 122, 3) := by decide +kernel
theorem dL_law_2233 : decode cL_law 2233 = .ok (.goto 13, 3) := by decide +kernel
theorem dL_law_2236 : decode cL_law 2236 = .ok (.aload_n 1, 1) := by decide +kernel
theorem dL_law_2237 : decode cL_law 2237 = .ok (.iload 22, 2) := by decide +kernel
theorem dL_law_2239 : decode cL_law 2239 = .ok (.iload 20, 2) := by decide +kernel
theorem dL_law_2241 : decode cL_law 2241 = .ok (.iload 23, 2) := by decide +kernel
theorem dL_law_2243 : decode cL_law 2243 = .ok (.invokevirtual 118, 3) := by decide +kernel
theorem dL_law_2246 : decode cL_law 2246 = .ok (.aload 7, 2) := by decide +kernel
theorem dL_law_2248 : decode cL_law 2248 = .ok (.iconst 4, 1) := by decide +kernel
theorem dL_law_2249 : decode cL_law 2249 = .ok (.iload 22, 2) := by decide +kernel
theorem dL_law_2251 : decode cL_law 2251 = .ok (.imul, 1) := by decide +kernel
theorem dL_law_2252 : decode cL_law 2252 = .ok (.iconst 3, 1) := by decide +kernel
theorem dL_law_2253 : decode cL_law 2253 = .ok (.iadd, 1) := by decide +kernel
theorem dL_law_2254 : decode cL_law 2254 = .ok (.iaload, 1) := by decide +kernel
theorem dL_law_2255 : decode cL_law 2255 = .ok (.i2l, 1) := by decide +kernel
theorem dL_law_2256 : decode cL_law 2256 = .ok (.lcmp, 1) := by decide +kernel
theorem dL_law_2257 : decode cL_law 2257 = .ok (.ifCond .eq 5, 3) := by decide +kernel
theorem dL_law_2260 : decode cL_law 2260 = .ok (.iconst 0, 1) := by decide +kernel
theorem dL_law_2261 : decode cL_law 2261 = .ok (.ireturn, 1) := by decide +kernel
theorem dL_law_2262 : decode cL_law 2262 = .ok (.iinc 22 1, 3) := by decide +kernel
theorem dL_law_2265 : decode cL_law 2265 = .ok (.goto (-265), 3) := by decide +kernel
theorem dL_law_2268 : decode cL_law 2268 = .ok (.aload_n 1, 1) := by decide +kernel
theorem dL_law_2269 : decode cL_law 2269 = .ok (.iload 11, 2) := by decide +kernel
theorem dL_law_2271 : decode cL_law 2271 = .ok (.aload 5, 2) := by decide +kernel
theorem dL_law_2273 : decode cL_law 2273 = .ok (.aload_n 2, 1) := by decide +kernel
theorem dL_law_2274 : decode cL_law 2274 = .ok (.aload_n 3, 1) := by decide +kernel
theorem dL_law_2275 : decode cL_law 2275 = .ok (.aload 4, 2) := by decide +kernel
theorem dL_law_2277 : decode cL_law 2277 = .ok (.iload 20, 2) := by decide +kernel
theorem dL_law_2279 : decode cL_law 2279 = .ok (.iload 16, 2) := by decide +kernel
theorem dL_law_2281 : decode cL_law 2281 = .ok (.bipush 12, 2) := by decide +kernel
theorem dL_law_2283 : decode cL_law 2283 = .ok (.ishr, 1) := by decide +kernel
theorem dL_law_2284 : decode cL_law 2284 = .ok (.sipush 300, 3) := by decide +kernel
theorem dL_law_2287 : decode cL_law 2287 = .ok (.invokestatic 178, 3) := by decide +kernel
theorem dL_law_2290 : decode cL_law 2290 = .ok (.invokestatic 213, 3) := by decide +kernel
theorem dL_law_2293 : decode cL_law 2293 = .ok (.ifCond .eq 18, 3) := by decide +kernel
theorem dL_law_2296 : decode cL_law 2296 = .ok (.aload_n 1, 1) := by decide +kernel
theorem dL_law_2297 : decode cL_law 2297 = .ok (.aload 6, 2) := by decide +kernel
theorem dL_law_2299 : decode cL_law 2299 = .ok (.iload 12, 2) := by decide +kernel
theorem dL_law_2301 : decode cL_law 2301 = .ok (.aload_n 2, 1) := by decide +kernel
theorem dL_law_2302 : decode cL_law 2302 = .ok (.aload_n 3, 1) := by decide +kernel
theorem dL_law_2303 : decode cL_law 2303 = .ok (.aload 4, 2) := by decide +kernel
theorem dL_law_2305 : decode cL_law 2305 = .ok (.invokestatic 216, 3) := by decide +kernel
theorem dL_law_2308 : decode cL_law 2308 = .ok (.ifCond .ne 5, 3) := by decide +kernel
theorem dL_law_2311 : decode cL_law 2311 = .ok (.iconst 0, 1) := by decide +kernel
theorem dL_law_2312 : decode cL_law 2312 = .ok (.ireturn, 1) := by decide +kernel
theorem dL_law_2313 : decode cL_law 2313 = .ok (.iinc 14 1, 3) := by decide +kernel
theorem dL_law_2316 : decode cL_law 2316 = .ok (.goto (-2228), 3) := by decide +kernel
theorem dL_law_2319 : decode cL_law 2319 = .ok (.iconst 1, 1) := by decide +kernel
theorem dL_law_2320 : decode cL_law 2320 = .ok (.ireturn, 1) := by decide +kernel
