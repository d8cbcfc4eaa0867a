theorem dL_1050 : decode YL.2.1 1050 = .ok (.aload_n 0, 1) := by decide +kernel
theorem dL_1051 : decode YL.2.1 1051 = .ok (.iload_n 3, 1) := by decide +kernel
theorem dL_1052 : decode YL.2.1 1052 = .ok (.iconst 1, 1) := by decide +kernel
theorem dL_1053 : decode YL.2.1 1053 = .ok (.iadd, 1) := by decide +kernel
theorem dL_1054 : decode YL.2.1 1054 = .ok (.iaload, 1) := by decide +kernel
theorem dL_1055 : decode YL.2.1 1055 = .ok (.aload_n 0, 1) := by decide +kernel
theorem dL_1056 : decode YL.2.1 1056 = .ok (.iload_n 3, 1) := by decide +kernel
theorem dL_1057 : decode YL.2.1 1057 = .ok (.iconst 2, 1) := by decide +kernel
theorem dL_1058 : decode YL.2.1 1058 = .ok (.iadd, 1) := by decide +kernel
theorem dL_1059 : decode YL.2.1 1059 = .ok (.iaload, 1) := by decide +kernel
theorem dL_1060 : decode YL.2.1 1060 = .ok (.invokevirtual 98, 3) := by decide +kernel
theorem dL_1063 : decode YL.2.1 1063 = .ok (.aload_n 2, 1) := by decide +kernel
theorem dL_1064 : decode YL.2.1 1064 = .ok (.aload_n 0, 1) := by decide +kernel
theorem dL_1065 : decode YL.2.1 1065 = .ok (.iload_n 3, 1) := by decide +kernel
theorem dL_1066 : decode YL.2.1 1066 = .ok (.iconst 1, 1) := by decide +kernel
theorem dL_1067 : decode YL.2.1 1067 = .ok (.iadd, 1) := by decide +kernel
theorem dL_1068 : decode YL.2.1 1068 = .ok (.iaload, 1) := by decide +kernel
theorem dL_1069 : decode YL.2.1 1069 = .ok (.aload_n 0, 1) := by decide +kernel
theorem dL_1070 : decode YL.2.1 1070 = .ok (.iload_n 3, 1) := by decide +kernel
theorem dL_1071 : decode YL.2.1 1071 = .ok (.iconst 2, 1) := by decide +kernel
theorem dL_1072 : decode YL.2.1 1072 = .ok (.iadd, 1) := by decide +kernel
theorem dL_1073 : decode YL.2.1 1073 = .ok (.iaload, 1) := by decide +kernel
theorem dL_1074 : decode YL.2.1 1074 = .ok (.invokevirtual 101, 3) := by decide +kernel
theorem dL_1077 : decode YL.2.1 1077 = .ok (.if_icmp .eq 549, 3) := by decide +kernel
theorem dL_1080 : decode YL.2.1 1080 = .ok (.iconst 0, 1) := by decide +kernel
theorem dL_1081 : decode YL.2.1 1081 = .ok (.ireturn, 1) := by decide +kernel
theorem dL_1082 : decode YL.2.1 1082 = .ok (.aload_n 1, 1) := by decide +kernel
theorem dL_1083 : decode YL.2.1 1083 = .ok (.aload_n 0, 1) := by decide +kernel
theorem dL_1084 : decode YL.2.1 1084 = .ok (.iload_n 3, 1) := by decide +kernel
theorem dL_1085 : decode YL.2.1 1085 = .ok (.iconst 1, 1) := by decide +kernel
theorem dL_1086 : decode YL.2.1 1086 = .ok (.iadd, 1) := by decide +kernel
theorem dL_1087 : decode YL.2.1 1087 = .ok (.iaload, 1) := by decide +kernel
theorem dL_1088 : decode YL.2.1 1088 = .ok (.aload_n 0, 1) := by decide +kernel
theorem dL_1089 : decode YL.2.1 1089 = .ok (.iload_n 3, 1) := by decide +kernel
theorem dL_1090 : decode YL.2.1 1090 = .ok (.iconst 2, 1) := by decide +kernel
theorem dL_1091 : decode YL.2.1 1091 = .ok (.iadd, 1) := by decide +kernel
theorem dL_1092 : decode YL.2.1 1092 = .ok (.iaload, 1) := by decide +kernel
theorem dL_1093 : decode YL.2.1 1093 = .ok (.aload_n 0, 1) := by decide +kernel
theorem dL_1094 : decode YL.2.1 1094 = .ok (.iload_n 3, 1) := by decide +kernel
theorem dL_1095 : decode YL.2.1 1095 = .ok (.iconst 3, 1) := by decide +kernel
theorem dL_1096 : decode YL.2.1 1096 = .ok (.iadd, 1) := by decide +kernel
theorem dL_1097 : decode YL.2.1 1097 = .ok (.iaload, 1) := by decide +kernel
theorem dL_1098 : decode YL.2.1 1098 = .ok (.ifCond .eq 7, 3) := by decide +kernel
theorem dL_1101 : decode YL.2.1 1101 = .ok (.iconst 1, 1) := by decide +kernel
theorem dL_1102 : decode YL.2.1 1102 = .ok (.goto 4, 3) := by decide +kernel
theorem dL_1105 : decode YL.2.1 1105 = .ok (.iconst 0, 1) := by decide +kernel
theorem dL_1106 : decode YL.2.1 1106 = .ok (.invokevirtual 102, 3) := by decide +kernel
theorem dL_1109 : decode YL.2.1 1109 = .ok (.aload_n 2, 1) := by decide +kernel
theorem dL_1110 : decode YL.2.1 1110 = .ok (.aload_n 0, 1) := by decide +kernel
theorem dL_1111 : decode YL.2.1 1111 = .ok (.iload_n 3, 1) := by decide +kernel
theorem dL_1112 : decode YL.2.1 1112 = .ok (.iconst 1, 1) := by decide +kernel
theorem dL_1113 : decode YL.2.1 1113 = .ok (.iadd, 1) := by decide +kernel
theorem dL_1114 : decode YL.2.1 1114 = .ok (.iaload, 1) := by decide +kernel
theorem dL_1115 : decode YL.2.1 1115 = .ok (.aload_n 0, 1) := by decide +kernel
theorem dL_1116 : decode YL.2.1 1116 = .ok (.iload_n 3, 1) := by decide +kernel
theorem dL_1117 : decode YL.2.1 1117 = .ok (.iconst 2, 1) := by decide +kernel
theorem dL_1118 : decode YL.2.1 1118 = .ok (.iadd, 1) := by decide +kernel
theorem dL_1119 : decode YL.2.1 1119 = .ok (.iaload, 1) := by decide +kernel
theorem dL_1120 : decode YL.2.1 1120 = .ok (.aload_n 0, 1) := by decide +kernel
theorem dL_1121 : decode YL.2.1 1121 = .ok (.iload_n 3, 1) := by decide +kernel
theorem dL_1122 : decode YL.2.1 1122 = .ok (.iconst 3, 1) := by decide +kernel
theorem dL_1123 : decode YL.2.1 1123 = .ok (.iadd, 1) := by decide +kernel
theorem dL_1124 : decode YL.2.1 1124 = .ok (.iaload, 1) := by decide +kernel
theorem dL_1125 : decode YL.2.1 1125 = .ok (.ifCond .eq 7, 3) := by decide +kernel
theorem dL_1128 : decode YL.2.1 1128 = .ok (.iconst 1, 1) := by decide +kernel
theorem dL_1129 : decode YL.2.1 1129 = .ok (.goto 4, 3) := by decide +kernel
theorem dL_1132 : decode YL.2.1 1132 = .ok (.iconst 0, 1) := by decide +kernel
theorem dL_1133 : decode YL.2.1 1133 = .ok (.invokevirtual 106, 3) := by decide +kernel
theorem dL_1136 : decode YL.2.1 1136 = .ok (.if_icmp .eq 490, 3) := by decide +kernel
theorem dL_1139 : decode YL.2.1 1139 = .ok (.iconst 0, 1) := by decide +kernel
theorem dL_1140 : decode YL.2.1 1140 = .ok (.ireturn, 1) := by decide +kernel
theorem dL_1141 : decode YL.2.1 1141 = .ok (.aload_n 1, 1) := by decide +kernel
theorem dL_1142 : decode YL.2.1 1142 = .ok (.aload_n 0, 1) := by decide +kernel
theorem dL_1143 : decode YL.2.1 1143 = .ok (.iload_n 3, 1) := by decide +kernel
theorem dL_1144 : decode YL.2.1 1144 = .ok (.iconst 1, 1) := by decide +kernel
theorem dL_1145 : decode YL.2.1 1145 = .ok (.iadd, 1) := by decide +kernel
theorem dL_1146 : decode YL.2.1 1146 = .ok (.iaload, 1) := by decide +kernel
theorem dL_1147 : decode YL.2.1 1147 = .ok (.aload_n 0, 1) := by decide +kernel
theorem dL_1148 : decode YL.2.1 1148 = .ok (.iload_n 3, 1) := by decide +kernel
theorem dL_1149 : decode YL.2.1 1149 = .ok (.iconst 2, 1) := by decide +kernel
theorem dL_1150 : decode YL.2.1 1150 = .ok (.iadd, 1) := by decide +kernel
theorem dL_1151 : decode YL.2.1 1151 = .ok (.iaload, 1) := by decide +kernel
theorem dL_1152 : decode YL.2.1 1152 = .ok (.aload_n 0, 1) := by decide +kernel
theorem dL_1153 : decode YL.2.1 1153 = .ok (.iload_n 3, 1) := by decide +kernel
theorem dL_1154 : decode YL.2.1 1154 = .ok (.iconst 3, 1) := by decide +kernel
theorem dL_1155 : decode YL.2.1 1155 = .ok (.iadd, 1) := by decide +kernel
theorem dL_1156 : decode YL.2.1 1156 = .ok (.iaload, 1) := by decide +kernel
theorem dL_1157 : decode YL.2.1 1157 = .ok (.aload_n 0, 1) := by decide +kernel
theorem dL_1158 : decode YL.2.1 1158 = .ok (.iload_n 3, 1) := by decide +kernel
theorem dL_1159 : decode YL.2.1 1159 = .ok (.iconst 4, 1) := by decide +kernel
theorem dL_1160 : decode YL.2.1 1160 = .ok (.iadd, 1) := by decide +kernel
theorem dL_1161 : decode YL.2.1 1161 = .ok (.iaload, 1) := by decide +kernel
theorem dL_1162 : decode YL.2.1 1162 = .ok (.ifCond .eq 7, 3) := by decide +kernel
theorem dL_1165 : decode YL.2.1 1165 = .ok (.iconst 1, 1) := by decide +kernel
theorem dL_1166 : decode YL.2.1 1166 = .ok (.goto 4, 3) := by decide +kernel
theorem dL_1169 : decode YL.2.1 1169 = .ok (.iconst 0, 1) := by decide +kernel
theorem dL_1170 : decode YL.2.1 1170 = .ok (.invokevirtual 107, 3) := by decide +kernel
theorem dL_1173 : decode YL.2.1 1173 = .ok (.aload_n 2, 1) := by decide +kernel
theorem dL_1174 : decode YL.2.1 1174 = .ok (.aload_n 0, 1) := by decide +kernel
theorem dL_1175 : decode YL.2.1 1175 = .ok (.iload_n 3, 1) := by decide +kernel
theorem dL_1176 : decode YL.2.1 1176 = .ok (.iconst 1, 1) := by decide +kernel
theorem dL_1177 : decode YL.2.1 1177 = .ok (.iadd, 1) := by decide +kernel
theorem dL_1178 : decode YL.2.1 1178 = .ok (.iaload, 1) := by decide +kernel
theorem dL_1179 : decode YL.2.1 1179 = .ok (.aload_n 0, 1) := by decide +kernel
theorem dL_1180 : decode YL.2.1 1180 = .ok (.iload_n 3, 1) := by decide +kernel
theorem dL_1181 : decode YL.2.1 1181 = .ok (.iconst 2, 1) := by decide +kernel
theorem dL_1182 : decode YL.2.1 1182 = .ok (.iadd, 1) := by decide +kernel
theorem dL_1183 : decode YL.2.1 1183 = .ok (.iaload, 1) := by decide +kernel
theorem dL_1184 : decode YL.2.1 1184 = .ok (.aload_n 0, 1) := by decide +kernel
theorem dL_1185 : decode YL.2.1 1185 = .ok (.iload_n 3, 1) := by decide +kernel
theorem dL_1186 : decode YL.2.1 1186 = .ok (.iconst 3, 1) := by decide +kernel
theorem dL_1187 : decode YL.2.1 1187 = .ok (.iadd, 1) := by decide +kernel
theorem dL_1188 : decode YL.2.1 1188 = .ok (.iaload, 1) := by decide +kernel
theorem dL_1189 : decode YL.2.1 1189 = .ok (.aload_n 0, 1) := by decide +kernel
theorem dL_1190 : decode YL.2.1 1190 = .ok (.iload_n 3, 1) := by decide +kernel
theorem dL_1191 : decode YL.2.1 1191 = .ok (.iconst 4, 1) := by decide +kernel
theorem dL_1192 : decode YL.2.1 1192 = .ok (.iadd, 1) := by decide +kernel
theorem dL_1193 : decode YL.2.1 1193 = .ok (.iaload, 1) := by decide +kernel
theorem dL_1194 : decode YL.2.1 1194 = .ok (.ifCond .eq 7, 3) := by decide +kernel
theorem dL_1197 : decode YL.2.1 1197 = .ok (.iconst 1, 1) := by decide +kernel
theorem dL_1198 : decode YL.2.1 1198 = .ok (.goto 4, 3) := by decide +kernel
theorem dL_1201 : decode YL.2.1 1201 = .ok (.iconst 0, 1) := by decide +kernel
theorem dL_1202 : decode YL.2.1 1202 = .ok (.invokevirtual 111, 3) := by decide +kernel
theorem dL_1205 : decode YL.2.1 1205 = .ok (.if_icmp .eq 421, 3) := by decide +kernel
theorem dL_1208 : decode YL.2.1 1208 = .ok (.iconst 0, 1) := by decide +kernel
theorem dL_1209 : decode YL.2.1 1209 = .ok (.ireturn, 1) := by decide +kernel
theorem dL_1210 : decode YL.2.1 1210 = .ok (.aload_n 1, 1) := by decide +kernel
theorem dL_1211 : decode YL.2.1 1211 = .ok (.aload_n 0, 1) := by decide +kernel
theorem dL_1212 : decode YL.2.1 1212 = .ok (.iload_n 3, 1) := by decide +kernel
theorem dL_1213 : decode YL.2.1 1213 = .ok (.iconst 1, 1) := by decide +kernel
theorem dL_1214 : decode YL.2.1 1214 = .ok (.iadd, 1) := by decide +kernel
theorem dL_1215 : decode YL.2.1 1215 = .ok (.iaload, 1) := by decide +kernel
theorem dL_1216 : decode YL.2.1 1216 = .ok (.aload_n 0, 1) := by decide +kernel
theorem dL_1217 : decode YL.2.1 1217 = .ok (.iload_n 3, 1) := by decide +kernel
theorem dL_1218 : decode YL.2.1 1218 = .ok (.iconst 2, 1) := by decide +kernel
theorem dL_1219 : decode YL.2.1 1219 = .ok (.iadd, 1) := by decide +kernel
theorem dL_1220 : decode YL.2.1 1220 = .ok (.iaload, 1) := by decide +kernel
theorem dL_1221 : decode YL.2.1 1221 = .ok (.aload_n 0, 1) := by decide +kernel
theorem dL_1222 : decode YL.2.1 1222 = .ok (.iload_n 3, 1) := by decide +kernel
theorem dL_1223 : decode YL.2.1 1223 = .ok (.iconst 3, 1) := by decide +kernel
theorem dL_1224 : decode YL.2.1 1224 = .ok (.iadd, 1) := by decide +kernel
theorem dL_1225 : decode YL.2.1 1225 = .ok (.iaload, 1) := by decide +kernel
theorem dL_1226 : decode YL.2.1 1226 = .ok (.ifCond .eq 7, 3) := by decide +kernel
theorem dL_1229 : decode YL.2.1 1229 = .ok (.iconst 1, 1) := by decide +kernel
theorem dL_1230 : decode YL.2.1 1230 = .ok (.goto 4, 3) := by decide +kernel
theorem dL_1233 : decode YL.2.1 1233 = .ok (.iconst 0, 1) := by decide +kernel
theorem dL_1234 : decode YL.2.1 1234 = .ok (.invokevirtual 112, 3) := by decide +kernel
theorem dL_1237 : decode YL.2.1 1237 = .ok (.aload_n 2, 1) := by decide +kernel
theorem dL_1238 : decode YL.2.1 1238 = .ok (.aload_n 0, 1) := by decide +kernel
theorem dL_1239 : decode YL.2.1 1239 = .ok (.iload_n 3, 1) := by decide +kernel
theorem dL_1240 : decode YL.2.1 1240 = .ok (.iconst 1, 1) := by decide +kernel
theorem dL_1241 : decode YL.2.1 1241 = .ok (.iadd, 1) := by decide +kernel
theorem dL_1242 : decode YL.2.1 1242 = .ok (.iaload, 1) := by decide +kernel
theorem dL_1243 : decode YL.2.1 1243 = .ok (.aload_n 0, 1) := by decide +kernel
theorem dL_1244 : decode YL.2.1 1244 = .ok (.iload_n 3, 1) := by decide +kernel
theorem dL_1245 : decode YL.2.1 1245 = .ok (.iconst 2, 1) := by decide +kernel
theorem dL_1246 : decode YL.2.1 1246 = .ok (.iadd, 1) := by decide +kernel
theorem dL_1247 : decode YL.2.1 1247 = .ok (.iaload, 1) := by decide +kernel
theorem dL_1248 : decode YL.2.1 1248 = .ok (.aload_n 0, 1) := by decide +kernel
theorem dL_1249 : decode YL.2.1 1249 = .ok (.iload_n 3, 1) := by decide +kernel
theorem dL_1250 : decode YL.2.1 1250 = .ok (.iconst 3, 1) := by decide +kernel
theorem dL_1251 : decode YL.2.1 1251 = .ok (.iadd, 1) := by decide +kernel
theorem dL_1252 : decode YL.2.1 1252 = .ok (.iaload, 1) := by decide +kernel
theorem dL_1253 : decode YL.2.1 1253 = .ok (.ifCond .eq 7, 3) := by decide +kernel
theorem dL_1256 : decode YL.2.1 1256 = .ok (.iconst 1, 1) := by decide +kernel
theorem dL_1257 : decode YL.2.1 1257 = .ok (.goto 4, 3) := by decide +kernel
theorem dL_1260 : decode YL.2.1 1260 = .ok (.iconst 0, 1) := by decide +kernel
theorem dL_1261 : decode YL.2.1 1261 = .ok (.invokevirtual 115, 3) := by decide +kernel
theorem dL_1264 : decode YL.2.1 1264 = .ok (.lcmp, 1) := by decide +kernel
theorem dL_1265 : decode YL.2.1 1265 = .ok (.ifCond .eq 361, 3) := by decide +kernel
theorem dL_1268 : decode YL.2.1 1268 = .ok (.iconst 0, 1) := by decide +kernel
theorem dL_1269 : decode YL.2.1 1269 = .ok (.ireturn, 1) := by decide +kernel
theorem dL_1270 : decode YL.2.1 1270 = .ok (.aload_n 1, 1) := by decide +kernel
theorem dL_1271 : decode YL.2.1 1271 = .ok (.aload_n 0, 1) := by decide +kernel
theorem dL_1272 : decode YL.2.1 1272 = .ok (.iload_n 3, 1) := by decide +kernel
theorem dL_1273 : decode YL.2.1 1273 = .ok (.iconst 1, 1) := by decide +kernel
theorem dL_1274 : decode YL.2.1 1274 = .ok (.iadd, 1) := by decide +kernel
theorem dL_1275 : decode YL.2.1 1275 = .ok (.iaload, 1) := by decide +kernel
theorem dL_1276 : decode YL.2.1 1276 = .ok (.aload_n 0, 1) := by decide +kernel
theorem dL_1277 : decode YL.2.1 1277 = .ok (.iload_n 3, 1) := by decide +kernel
theorem dL_1278 : decode YL.2.1 1278 = .ok (.iconst 2, 1) := by decide +kernel
theorem dL_1279 : decode YL.2.1 1279 = .ok (.iadd, 1) := by decide +kernel
theorem dL_1280 : decode YL.2.1 1280 = .ok (.iaload, 1) := by decide +kernel
theorem dL_1281 : decode YL.2.1 1281 = .ok (.ifCond .eq 7, 3) := by decide +kernel
theorem dL_1284 : decode YL.2.1 1284 = .ok (.iconst 1, 1) := by decide +kernel
theorem dL_1285 : decode YL.2.1 1285 = .ok (.goto 4, 3) := by decide +kernel
theorem dL_1288 : decode YL.2.1 1288 = .ok (.iconst 0, 1) := by decide +kernel
theorem dL_1289 : decode YL.2.1 1289 = .ok (.invokevirtual 116, 3) := by decide +kernel
theorem dL_1292 : decode YL.2.1 1292 = .ok (.aload_n 2, 1) := by decide +kernel
theorem dL_1293 : decode YL.2.1 1293 = .ok (.aload_n 0, 1) := by decide +kernel
theorem dL_1294 : decode YL.2.1 1294 = .ok (.iload_n 3, 1) := by decide +kernel
theorem dL_1295 : decode YL.2.1 1295 = .ok (.iconst 1, 1) := by decide +kernel
theorem dL_1296 : decode YL.2.1 1296 = .ok (.iadd, 1) := by decide +kernel
theorem dL_1297 : decode YL.2.1 1297 = .ok (.iaload, 1) := by decide +kernel
theorem dL_1298 : decode YL.2.1 1298 = .ok (.aload_n 0, 1) := by decide +kernel
theorem dL_1299 : decode YL.2.1 1299 = .ok (.iload_n 3, 1) := by decide +kernel
theorem dL_1300 : decode YL.2.1 1300 = .ok (.iconst 2, 1) := by decide +kernel
theorem dL_1301 : decode YL.2.1 1301 = .ok (.iadd, 1) := by decide +kernel
theorem dL_1302 : decode YL.2.1 1302 = .ok (.iaload, 1) := by decide +kernel
theorem dL_1303 : decode YL.2.1 1303 = .ok (.ifCond .eq 7, 3) := by decide +kernel
theorem dL_1306 : decode YL.2.1 1306 = .ok (.iconst 1, 1) := by decide +kernel
theorem dL_1307 : decode YL.2.1 1307 = .ok (.goto 4, 3) := by decide +kernel
theorem dL_1310 : decode YL.2.1 1310 = .ok (.iconst 0, 1) := by decide +kernel
theorem dL_1311 : decode YL.2.1 1311 = .ok (.invokevirtual 119, 3) := by decide +kernel
theorem dL_1314 : decode YL.2.1 1314 = .ok (.if_icmp .eq 312, 3) := by decide +kernel
theorem dL_1317 : decode YL.2.1 1317 = .ok (.iconst 0, 1) := by decide +kernel
theorem dL_1318 : decode YL.2.1 1318 = .ok (.ireturn, 1) := by decide +kernel
theorem dL_1319 : decode YL.2.1 1319 = .ok (.aload_n 1, 1) := by decide +kernel
theorem dL_1320 : decode YL.2.1 1320 = .ok (.aload_n 0, 1) := by decide +kernel
theorem dL_1321 : decode YL.2.1 1321 = .ok (.iload_n 3, 1) := by decide +kernel
theorem dL_1322 : decode YL.2.1 1322 = .ok (.iconst 1, 1) := by decide +kernel
theorem dL_1323 : decode YL.2.1 1323 = .ok (.iadd, 1) := by decide +kernel
theorem dL_1324 : decode YL.2.1 1324 = .ok (.iaload, 1) := by decide +kernel
theorem dL_1325 : decode YL.2.1 1325 = .ok (.aload_n 0, 1) := by decide +kernel
theorem dL_1326 : decode YL.2.1 1326 = .ok (.iload_n 3, 1) := by decide +kernel
theorem dL_1327 : decode YL.2.1 1327 = .ok (.iconst 2, 1) := by decide +kernel
theorem dL_1328 : decode YL.2.1 1328 = .ok (.iadd, 1) := by decide +kernel
theorem dL_1329 : decode YL.2.1 1329 = .ok (.iaload, 1) := by decide +kernel
theorem dL_1330 : decode YL.2.1 1330 = .ok (.ifCond .eq 7, 3) := by decide +kernel
theorem dL_1333 : decode YL.2.1 1333 = .ok (.iconst 1, 1) := by decide +kernel
theorem dL_1334 : decode YL.2.1 1334 = .ok (.goto 4, 3) := by decide +kernel
theorem dL_1337 : decode YL.2.1 1337 = .ok (.iconst 0, 1) := by decide +kernel
theorem dL_1338 : decode YL.2.1 1338 = .ok (.invokevirtual 120, 3) := by decide +kernel
theorem dL_1341 : decode YL.2.1 1341 = .ok (.aload_n 2, 1) := by decide +kernel
theorem dL_1342 : decode YL.2.1 1342 = .ok (.aload_n 0, 1) := by decide +kernel
theorem dL_1343 : decode YL.2.1 1343 = .ok (.iload_n 3, 1) := by decide +kernel
theorem dL_1344 : decode YL.2.1 1344 = .ok (.iconst 1, 1) := by decide +kernel
theorem dL_1345 : decode YL.2.1 1345 = .ok (.iadd, 1) := by decide +kernel
theorem dL_1346 : decode YL.2.1 1346 = .ok (.iaload, 1) := by decide +kernel
theorem dL_1347 : decode YL.2.1 1347 = .ok (.aload_n 0, 1) := by decide +kernel
theorem dL_1348 : decode YL.2.1 1348 = .ok (.iload_n 3, 1) := by decide +kernel
theorem dL_1349 : decode YL.2.1 1349 = .ok (.iconst 2, 1) := by decide +kernel
theorem dL_1350 : decode YL.2.1 1350 = .ok (.iadd, 1) := by decide +kernel
theorem dL_1351 : decode YL.2.1 1351 = .ok (.iaload, 1) := by decide +kernel
theorem dL_1352 : decode YL.2.1 1352 = .ok (.ifCond .eq 7, 3) := by decide +kernel
theorem dL_1355 : decode YL.2.1 1355 = .ok (.iconst 1, 1) := by decide +kernel
theorem dL_1356 : decode YL.2.1 1356 = .ok (.goto 4, 3) := by decide +kernel
theorem dL_1359 : decode YL.2.1 1359 = .ok (.iconst 0, 1) := by decide +kernel
theorem dL_1360 : decode YL.2.1 1360 = .ok (.invokevirtual 123, 3) := by decide +kernel
theorem dL_1363 : decode YL.2.1 1363 = .ok (.if_icmp .eq 263, 3) := by decide +kernel
theorem dL_1366 : decode YL.2.1 1366 = .ok (.iconst 0, 1) := by decide +kernel
theorem dL_1367 : decode YL.2.1 1367 = .ok (.ireturn, 1) := by decide +kernel
theorem dL_1368 : decode YL.2.1 1368 = .ok (.aload_n 1, 1) := by decide +kernel
theorem dL_1369 : decode YL.2.1 1369 = .ok (.aload_n 0, 1) := by decide +kernel
theorem dL_1370 : decode YL.2.1 1370 = .ok (.iload_n 3, 1) := by decide +kernel
theorem dL_1371 : decode YL.2.1 1371 = .ok (.iconst 1, 1) := by decide +kernel
theorem dL_1372 : decode YL.2.1 1372 = .ok (.iadd, 1) := by decide +kernel
theorem dL_1373 : decode YL.2.1 1373 = .ok (.iaload, 1) := by decide +kernel
theorem dL_1374 : decode YL.2.1 1374 = .ok (.aload_n 0, 1) := by decide +kernel
theorem dL_1375 : decode YL.2.1 1375 = .ok (.iload_n 3, 1) := by decide +kernel
