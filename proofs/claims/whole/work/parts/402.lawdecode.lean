theorem dL_law_1044 : decode cL_law 1044 = .ok (.iconst 0, 1) := by decide +kernel
theorem dL_law_1045 : decode cL_law 1045 = .ok (.ireturn, 1) := by decide +kernel
theorem dL_law_1046 : decode cL_law 1046 = .ok (.aload_n 1, 1) := by decide +kernel
theorem dL_law_1047 : decode cL_law 1047 = .ok (.aload_n 0, 1) := by decide +kernel
theorem dL_law_1048 : decode cL_law 1048 = .ok (.iload_n 3, 1) := by decide +kernel
theorem dL_law_1049 : decode cL_law 1049 = .ok (.iconst 1, 1) := by decide +kernel
theorem dL_law_1050 : decode cL_law 1050 = .ok (.iadd, 1) := by decide +kernel
theorem dL_law_1051 : decode cL_law 1051 = .ok (.iaload, 1) := by decide +kernel
theorem dL_law_1052 : decode cL_law 1052 = .ok (.aload_n 0, 1) := by decide +kernel
theorem dL_law_1053 : decode cL_law 1053 = .ok (.iload_n 3, 1) := by decide +kernel
theorem dL_law_1054 : decode cL_law 1054 = .ok (.iconst 2, 1) := by decide +kernel
theorem dL_law_1055 : decode cL_law 1055 = .ok (.iadd, 1) := by decide +kernel
theorem dL_law_1056 : decode cL_law 1056 = .ok (.iaload, 1) := by decide +kernel
theorem dL_law_1057 : decode cL_law 1057 = .ok (.invokevirtual 111, 3) := by decide +kernel
theorem dL_law_1060 : decode cL_law 1060 = .ok (.aload_n 2, 1) := by decide +kernel
theorem dL_law_1061 : decode cL_law 1061 = .ok (.aload_n 0, 1) := by decide +kernel
theorem dL_law_1062 : decode cL_law 1062 = .ok (.iload_n 3, 1) := by decide +kernel
theorem dL_law_1063 : decode cL_law 1063 = .ok (.iconst 1, 1) := by decide +kernel
theorem dL_law_1064 : decode cL_law 1064 = .ok (.iadd, 1) := by decide +kernel
theorem dL_law_1065 : decode cL_law 1065 = .ok (.iaload, 1) := by decide +kernel
theorem dL_law_1066 : decode cL_law 1066 = .ok (.aload_n 0, 1) := by decide +kernel
theorem dL_law_1067 : decode cL_law 1067 = .ok (.iload_n 3, 1) := by decide +kernel
theorem dL_law_1068 : decode cL_law 1068 = .ok (.iconst 2, 1) := by decide +kernel
theorem dL_law_1069 : decode cL_law 1069 = .ok (.iadd, 1) := by decide +kernel
theorem dL_law_1070 : decode cL_law 1070 = .ok (.iaload, 1) := by decide +kernel
theorem dL_law_1071 : decode cL_law 1071 = .ok (.invokevirtual 114, 3) := by decide +kernel
theorem dL_law_1074 : decode cL_law 1074 = .ok (.if_icmp .eq 806, 3) := by decide +kernel
theorem dL_law_1077 : decode cL_law 1077 = .ok (.iconst 0, 1) := by decide +kernel
theorem dL_law_1078 : decode cL_law 1078 = .ok (.ireturn, 1) := by decide +kernel
theorem dL_law_1079 : decode cL_law 1079 = .ok (.aload_n 1, 1) := by decide +kernel
theorem dL_law_1080 : decode cL_law 1080 = .ok (.aload_n 0, 1) := by decide +kernel
theorem dL_law_1081 : decode cL_law 1081 = .ok (.iload_n 3, 1) := by decide +kernel
theorem dL_law_1082 : decode cL_law 1082 = .ok (.iconst 1, 1) := by decide +kernel
theorem dL_law_1083 : decode cL_law 1083 = .ok (.iadd, 1) := by decide +kernel
theorem dL_law_1084 : decode cL_law 1084 = .ok (.iaload, 1) := by decide +kernel
theorem dL_law_1085 : decode cL_law 1085 = .ok (.aload_n 0, 1) := by decide +kernel
theorem dL_law_1086 : decode cL_law 1086 = .ok (.iload_n 3, 1) := by decide +kernel
theorem dL_law_1087 : decode cL_law 1087 = .ok (.iconst 2, 1) := by decide +kernel
theorem dL_law_1088 : decode cL_law 1088 = .ok (.iadd, 1) := by decide +kernel
theorem dL_law_1089 : decode cL_law 1089 = .ok (.iaload, 1) := by decide +kernel
theorem dL_law_1090 : decode cL_law 1090 = .ok (.invokevirtual 115, 3) := by decide +kernel
theorem dL_law_1093 : decode cL_law 1093 = .ok (.aload_n 2, 1) := by decide +kernel
theorem dL_law_1094 : decode cL_law 1094 = .ok (.aload_n 0, 1) := by decide +kernel
theorem dL_law_1095 : decode cL_law 1095 = .ok (.iload_n 3, 1) := by decide +kernel
theorem dL_law_1096 : decode cL_law 1096 = .ok (.iconst 1, 1) := by decide +kernel
theorem dL_law_1097 : decode cL_law 1097 = .ok (.iadd, 1) := by decide +kernel
theorem dL_law_1098 : decode cL_law 1098 = .ok (.iaload, 1) := by decide +kernel
theorem dL_law_1099 : decode cL_law 1099 = .ok (.aload_n 0, 1) := by decide +kernel
theorem dL_law_1100 : decode cL_law 1100 = .ok (.iload_n 3, 1) := by decide +kernel
theorem dL_law_1101 : decode cL_law 1101 = .ok (.iconst 2, 1) := by decide +kernel
theorem dL_law_1102 : decode cL_law 1102 = .ok (.iadd, 1) := by decide +kernel
theorem dL_law_1103 : decode cL_law 1103 = .ok (.iaload, 1) := by decide +kernel
theorem dL_law_1104 : decode cL_law 1104 = .ok (.invokevirtual 118, 3) := by decide +kernel
theorem dL_law_1107 : decode cL_law 1107 = .ok (.if_icmp .eq 773, 3) := by decide +kernel
theorem dL_law_1110 : decode cL_law 1110 = .ok (.iconst 0, 1) := by decide +kernel
theorem dL_law_1111 : decode cL_law 1111 = .ok (.ireturn, 1) := by decide +kernel
theorem dL_law_1112 : decode cL_law 1112 = .ok (.aload_n 1, 1) := by decide +kernel
theorem dL_law_1113 : decode cL_law 1113 = .ok (.aload_n 0, 1) := by decide +kernel
theorem dL_law_1114 : decode cL_law 1114 = .ok (.iload_n 3, 1) := by decide +kernel
theorem dL_law_1115 : decode cL_law 1115 = .ok (.iconst 1, 1) := by decide +kernel
theorem dL_law_1116 : decode cL_law 1116 = .ok (.iadd, 1) := by decide +kernel
theorem dL_law_1117 : decode cL_law 1117 = .ok (.iaload, 1) := by decide +kernel
theorem dL_law_1118 : decode cL_law 1118 = .ok (.aload_n 0, 1) := by decide +kernel
theorem dL_law_1119 : decode cL_law 1119 = .ok (.iload_n 3, 1) := by decide +kernel
theorem dL_law_1120 : decode cL_law 1120 = .ok (.iconst 2, 1) := by decide +kernel
theorem dL_law_1121 : decode cL_law 1121 = .ok (.iadd, 1) := by decide +kernel
theorem dL_law_1122 : decode cL_law 1122 = .ok (.iaload, 1) := by decide +kernel
theorem dL_law_1123 : decode cL_law 1123 = .ok (.aload_n 0, 1) := by decide +kernel
theorem dL_law_1124 : decode cL_law 1124 = .ok (.iload_n 3, 1) := by decide +kernel
theorem dL_law_1125 : decode cL_law 1125 = .ok (.iconst 3, 1) := by decide +kernel
theorem dL_law_1126 : decode cL_law 1126 = .ok (.iadd, 1) := by decide +kernel
theorem dL_law_1127 : decode cL_law 1127 = .ok (.iaload, 1) := by decide +kernel
theorem dL_law_1128 : decode cL_law 1128 = .ok (.invokevirtual 119, 3) := by decide +kernel
theorem dL_law_1131 : decode cL_law 1131 = .ok (.aload_n 2, 1) := by decide +kernel
theorem dL_law_1132 : decode cL_law 1132 = .ok (.aload_n 0, 1) := by decide +kernel
theorem dL_law_1133 : decode cL_law 1133 = .ok (.iload_n 3, 1) := by decide +kernel
theorem dL_law_1134 : decode cL_law 1134 = .ok (.iconst 1, 1) := by decide +kernel
theorem dL_law_1135 : decode cL_law 1135 = .ok (.iadd, 1) := by decide +kernel
theorem dL_law_1136 : decode cL_law 1136 = .ok (.iaload, 1) := by decide +kernel
theorem dL_law_1137 : decode cL_law 1137 = .ok (.aload_n 0, 1) := by decide +kernel
theorem dL_law_1138 : decode cL_law 1138 = .ok (.iload_n 3, 1) := by decide +kernel
theorem dL_law_1139 : decode cL_law 1139 = .ok (.iconst 2, 1) := by decide +kernel
theorem dL_law_1140 : decode cL_law 1140 = .ok (.iadd, 1) := by decide +kernel
theorem dL_law_1141 : decode cL_law 1141 = .ok (.iaload, 1) := by decide +kernel
theorem dL_law_1142 : decode cL_law 1142 = .ok (.aload_n 0, 1) := by decide +kernel
theorem dL_law_1143 : decode cL_law 1143 = .ok (.iload_n 3, 1) := by decide +kernel
theorem dL_law_1144 : decode cL_law 1144 = .ok (.iconst 3, 1) := by decide +kernel
theorem dL_law_1145 : decode cL_law 1145 = .ok (.iadd, 1) := by decide +kernel
theorem dL_law_1146 : decode cL_law 1146 = .ok (.iaload, 1) := by decide +kernel
theorem dL_law_1147 : decode cL_law 1147 = .ok (.invokevirtual 122, 3) := by decide +kernel
theorem dL_law_1150 : decode cL_law 1150 = .ok (.if_icmp .eq 730, 3) := by decide +kernel
theorem dL_law_1153 : decode cL_law 1153 = .ok (.iconst 0, 1) := by decide +kernel
theorem dL_law_1154 : decode cL_law 1154 = .ok (.ireturn, 1) := by decide +kernel
theorem dL_law_1155 : decode cL_law 1155 = .ok (.aload_n 1, 1) := by decide +kernel
theorem dL_law_1156 : decode cL_law 1156 = .ok (.aload_n 0, 1) := by decide +kernel
theorem dL_law_1157 : decode cL_law 1157 = .ok (.iload_n 3, 1) := by decide +kernel
theorem dL_law_1158 : decode cL_law 1158 = .ok (.iconst 1, 1) := by decide +kernel
theorem dL_law_1159 : decode cL_law 1159 = .ok (.iadd, 1) := by decide +kernel
theorem dL_law_1160 : decode cL_law 1160 = .ok (.iaload, 1) := by decide +kernel
theorem dL_law_1161 : decode cL_law 1161 = .ok (.aload_n 0, 1) := by decide +kernel
theorem dL_law_1162 : decode cL_law 1162 = .ok (.iload_n 3, 1) := by decide +kernel
theorem dL_law_1163 : decode cL_law 1163 = .ok (.iconst 2, 1) := by decide +kernel
theorem dL_law_1164 : decode cL_law 1164 = .ok (.iadd, 1) := by decide +kernel
theorem dL_law_1165 : decode cL_law 1165 = .ok (.iaload, 1) := by decide +kernel
theorem dL_law_1166 : decode cL_law 1166 = .ok (.invokevirtual 123, 3) := by decide +kernel
theorem dL_law_1169 : decode cL_law 1169 = .ok (.aload_n 2, 1) := by decide +kernel
theorem dL_law_1170 : decode cL_law 1170 = .ok (.aload_n 0, 1) := by decide +kernel
theorem dL_law_1171 : decode cL_law 1171 = .ok (.iload_n 3, 1) := by decide +kernel
theorem dL_law_1172 : decode cL_law 1172 = .ok (.iconst 1, 1) := by decide +kernel
theorem dL_law_1173 : decode cL_law 1173 = .ok (.iadd, 1) := by decide +kernel
theorem dL_law_1174 : decode cL_law 1174 = .ok (.iaload, 1) := by decide +kernel
theorem dL_law_1175 : decode cL_law 1175 = .ok (.aload_n 0, 1) := by decide +kernel
theorem dL_law_1176 : decode cL_law 1176 = .ok (.iload_n 3, 1) := by decide +kernel
theorem dL_law_1177 : decode cL_law 1177 = .ok (.iconst 2, 1) := by decide +kernel
theorem dL_law_1178 : decode cL_law 1178 = .ok (.iadd, 1) := by decide +kernel
theorem dL_law_1179 : decode cL_law 1179 = .ok (.iaload, 1) := by decide +kernel
theorem dL_law_1180 : decode cL_law 1180 = .ok (.invokevirtual 126, 3) := by decide +kernel
theorem dL_law_1183 : decode cL_law 1183 = .ok (.if_icmp .eq 697, 3) := by decide +kernel
theorem dL_law_1186 : decode cL_law 1186 = .ok (.iconst 0, 1) := by decide +kernel
theorem dL_law_1187 : decode cL_law 1187 = .ok (.ireturn, 1) := by decide +kernel
theorem dL_law_1188 : decode cL_law 1188 = .ok (.aload_n 1, 1) := by decide +kernel
theorem dL_law_1189 : decode cL_law 1189 = .ok (.aload_n 0, 1) := by decide +kernel
theorem dL_law_1190 : decode cL_law 1190 = .ok (.iload_n 3, 1) := by decide +kernel
theorem dL_law_1191 : decode cL_law 1191 = .ok (.iconst 1, 1) := by decide +kernel
theorem dL_law_1192 : decode cL_law 1192 = .ok (.iadd, 1) := by decide +kernel
theorem dL_law_1193 : decode cL_law 1193 = .ok (.iaload, 1) := by decide +kernel
theorem dL_law_1194 : decode cL_law 1194 = .ok (.aload_n 0, 1) := by decide +kernel
theorem dL_law_1195 : decode cL_law 1195 = .ok (.iload_n 3, 1) := by decide +kernel
theorem dL_law_1196 : decode cL_law 1196 = .ok (.iconst 2, 1) := by decide +kernel
theorem dL_law_1197 : decode cL_law 1197 = .ok (.iadd, 1) := by decide +kernel
theorem dL_law_1198 : decode cL_law 1198 = .ok (.iaload, 1) := by decide +kernel
theorem dL_law_1199 : decode cL_law 1199 = .ok (.aload_n 0, 1) := by decide +kernel
theorem dL_law_1200 : decode cL_law 1200 = .ok (.iload_n 3, 1) := by decide +kernel
theorem dL_law_1201 : decode cL_law 1201 = .ok (.iconst 3, 1) := by decide +kernel
theorem dL_law_1202 : decode cL_law 1202 = .ok (.iadd, 1) := by decide +kernel
theorem dL_law_1203 : decode cL_law 1203 = .ok (.iaload, 1) := by decide +kernel
theorem dL_law_1204 : decode cL_law 1204 = .ok (.invokevirtual 127, 3) := by decide +kernel
theorem dL_law_1207 : decode cL_law 1207 = .ok (.aload_n 2, 1) := by decide +kernel
theorem dL_law_1208 : decode cL_law 1208 = .ok (.aload_n 0, 1) := by decide +kernel
theorem dL_law_1209 : decode cL_law 1209 = .ok (.iload_n 3, 1) := by decide +kernel
theorem dL_law_1210 : decode cL_law 1210 = .ok (.iconst 1, 1) := by decide +kernel
theorem dL_law_1211 : decode cL_law 1211 = .ok (.iadd, 1) := by decide +kernel
theorem dL_law_1212 : decode cL_law 1212 = .ok (.iaload, 1) := by decide +kernel
theorem dL_law_1213 : decode cL_law 1213 = .ok (.aload_n 0, 1) := by decide +kernel
theorem dL_law_1214 : decode cL_law 1214 = .ok (.iload_n 3, 1) := by decide +kernel
theorem dL_law_1215 : decode cL_law 1215 = .ok (.iconst 2, 1) := by decide +kernel
theorem dL_law_1216 : decode cL_law 1216 = .ok (.iadd, 1) := by decide +kernel
theorem dL_law_1217 : decode cL_law 1217 = .ok (.iaload, 1) := by decide +kernel
theorem dL_law_1218 : decode cL_law 1218 = .ok (.aload_n 0, 1) := by decide +kernel
theorem dL_law_1219 : decode cL_law 1219 = .ok (.iload_n 3, 1) := by decide +kernel
theorem dL_law_1220 : decode cL_law 1220 = .ok (.iconst 3, 1) := by decide +kernel
theorem dL_law_1221 : decode cL_law 1221 = .ok (.iadd, 1) := by decide +kernel
theorem dL_law_1222 : decode cL_law 1222 = .ok (.iaload, 1) := by decide +kernel
theorem dL_law_1223 : decode cL_law 1223 = .ok (.invokevirtual 130, 3) := by decide +kernel
theorem dL_law_1226 : decode cL_law 1226 = .ok (.if_icmp .eq 654, 3) := by decide +kernel
theorem dL_law_1229 : decode cL_law 1229 = .ok (.iconst 0, 1) := by decide +kernel
theorem dL_law_1230 : decode cL_law 1230 = .ok (.ireturn, 1) := by decide +kernel
theorem dL_law_1231 : decode cL_law 1231 = .ok (.aload_n 1, 1) := by decide +kernel
theorem dL_law_1232 : decode cL_law 1232 = .ok (.aload_n 0, 1) := by decide +kernel
theorem dL_law_1233 : decode cL_law 1233 = .ok (.iload_n 3, 1) := by decide +kernel
theorem dL_law_1234 : decode cL_law 1234 = .ok (.iconst 1, 1) := by decide +kernel
theorem dL_law_1235 : decode cL_law 1235 = .ok (.iadd, 1) := by decide +kernel
theorem dL_law_1236 : decode cL_law 1236 = .ok (.iaload, 1) := by decide +kernel
theorem dL_law_1237 : decode cL_law 1237 = .ok (.aload_n 0, 1) := by decide +kernel
theorem dL_law_1238 : decode cL_law 1238 = .ok (.iload_n 3, 1) := by decide +kernel
theorem dL_law_1239 : decode cL_law 1239 = .ok (.iconst 2, 1) := by decide +kernel
theorem dL_law_1240 : decode cL_law 1240 = .ok (.iadd, 1) := by decide +kernel
theorem dL_law_1241 : decode cL_law 1241 = .ok (.iaload, 1) := by decide +kernel
theorem dL_law_1242 : decode cL_law 1242 = .ok (.invokevirtual 131, 3) := by decide +kernel
theorem dL_law_1245 : decode cL_law 1245 = .ok (.aload_n 2, 1) := by decide +kernel
theorem dL_law_1246 : decode cL_law 1246 = .ok (.aload_n 0, 1) := by decide +kernel
theorem dL_law_1247 : decode cL_law 1247 = .ok (.iload_n 3, 1) := by decide +kernel
theorem dL_law_1248 : decode cL_law 1248 = .ok (.iconst 1, 1) := by decide +kernel
theorem dL_law_1249 : decode cL_law 1249 = .ok (.iadd, 1) := by decide +kernel
theorem dL_law_1250 : decode cL_law 1250 = .ok (.iaload, 1) := by decide +kernel
theorem dL_law_1251 : decode cL_law 1251 = .ok (.aload_n 0, 1) := by decide +kernel
theorem dL_law_1252 : decode cL_law 1252 = .ok (.iload_n 3, 1) := by decide +kernel
theorem dL_law_1253 : decode cL_law 1253 = .ok (.iconst 2, 1) := by decide +kernel
theorem dL_law_1254 : decode cL_law 1254 = .ok (.iadd, 1) := by decide +kernel
theorem dL_law_1255 : decode cL_law 1255 = .ok (.iaload, 1) := by decide +kernel
theorem dL_law_1256 : decode cL_law 1256 = .ok (.invokevirtual 134, 3) := by decide +kernel
theorem dL_law_1259 : decode cL_law 1259 = .ok (.if_icmp .eq 621, 3) := by decide +kernel
theorem dL_law_1262 : decode cL_law 1262 = .ok (.iconst 0, 1) := by decide +kernel
theorem dL_law_1263 : decode cL_law 1263 = .ok (.ireturn, 1) := by decide +kernel
theorem dL_law_1264 : decode cL_law 1264 = .ok (.aload_n 1, 1) := by decide +kernel
theorem dL_law_1265 : decode cL_law 1265 = .ok (.aload_n 0, 1) := by decide +kernel
theorem dL_law_1266 : decode cL_law 1266 = .ok (.iload_n 3, 1) := by decide +kernel
theorem dL_law_1267 : decode cL_law 1267 = .ok (.iconst 1, 1) := by decide +kernel
theorem dL_law_1268 : decode cL_law 1268 = .ok (.iadd, 1) := by decide +kernel
theorem dL_law_1269 : decode cL_law 1269 = .ok (.iaload, 1) := by decide +kernel
theorem dL_law_1270 : decode cL_law 1270 = .ok (.invokevirtual 135, 3) := by decide +kernel
theorem dL_law_1273 : decode cL_law 1273 = .ok (.aload_n 2, 1) := by decide +kernel
theorem dL_law_1274 : decode cL_law 1274 = .ok (.aload_n 0, 1) := by decide +kernel
theorem dL_law_1275 : decode cL_law 1275 = .ok (.iload_n 3, 1) := by decide +kernel
theorem dL_law_1276 : decode cL_law 1276 = .ok (.iconst 1, 1) := by decide +kernel
theorem dL_law_1277 : decode cL_law 1277 = .ok (.iadd, 1) := by decide +kernel
theorem dL_law_1278 : decode cL_law 1278 = .ok (.iaload, 1) := by decide +kernel
theorem dL_law_1279 : decode cL_law 1279 = .ok (.invokevirtual 138, 3) := by decide +kernel
theorem dL_law_1282 : decode cL_law 1282 = .ok (.if_icmp .eq 598, 3) := by decide +kernel
theorem dL_law_1285 : decode cL_law 1285 = .ok (.iconst 0, 1) := by decide +kernel
theorem dL_law_1286 : decode cL_law 1286 = .ok (.ireturn, 1) := by decide +kernel
theorem dL_law_1287 : decode cL_law 1287 = .ok (.aload_n 1, 1) := by decide +kernel
theorem dL_law_1288 : decode cL_law 1288 = .ok (.aload_n 0, 1) := by decide +kernel
theorem dL_law_1289 : decode cL_law 1289 = .ok (.iload_n 3, 1) := by decide +kernel
theorem dL_law_1290 : decode cL_law 1290 = .ok (.iconst 1, 1) := by decide +kernel
theorem dL_law_1291 : decode cL_law 1291 = .ok (.iadd, 1) := by decide +kernel
theorem dL_law_1292 : decode cL_law 1292 = .ok (.iaload, 1) := by decide +kernel
theorem dL_law_1293 : decode cL_law 1293 = .ok (.invokevirtual 139, 3) := by decide +kernel
theorem dL_law_1296 : decode cL_law 1296 = .ok (.aload_n 2, 1) := by decide +kernel
theorem dL_law_1297 : decode cL_law 1297 = .ok (.aload_n 0, 1) := by decide +kernel
theorem dL_law_1298 : decode cL_law 1298 = .ok (.iload_n 3, 1) := by decide +kernel
theorem dL_law_1299 : decode cL_law 1299 = .ok (.iconst 1, 1) := by decide +kernel
theorem dL_law_1300 : decode cL_law 1300 = .ok (.iadd, 1) := by decide +kernel
theorem dL_law_1301 : decode cL_law 1301 = .ok (.iaload, 1) := by decide +kernel
theorem dL_law_1302 : decode cL_law 1302 = .ok (.invokevirtual 142, 3) := by decide +kernel
theorem dL_law_1305 : decode cL_law 1305 = .ok (.if_icmp .eq 575, 3) := by decide +kernel
theorem dL_law_1308 : decode cL_law 1308 = .ok (.iconst 0, 1) := by decide +kernel
theorem dL_law_1309 : decode cL_law 1309 = .ok (.ireturn, 1) := by decide +kernel
theorem dL_law_1310 : decode cL_law 1310 = .ok (.aload_n 1, 1) := by decide +kernel
theorem dL_law_1311 : decode cL_law 1311 = .ok (.invokevirtual 143, 3) := by decide +kernel
theorem dL_law_1314 : decode cL_law 1314 = .ok (.aload_n 2, 1) := by decide +kernel
theorem dL_law_1315 : decode cL_law 1315 = .ok (.invokevirtual 147, 3) := by decide +kernel
theorem dL_law_1318 : decode cL_law 1318 = .ok (.if_icmp .eq 562, 3) := by decide +kernel
theorem dL_law_1321 : decode cL_law 1321 = .ok (.iconst 0, 1) := by decide +kernel
theorem dL_law_1322 : decode cL_law 1322 = .ok (.ireturn, 1) := by decide +kernel
theorem dL_law_1323 : decode cL_law 1323 = .ok (.aload_n 1, 1) := by decide +kernel
theorem dL_law_1324 : decode cL_law 1324 = .ok (.aload_n 0, 1) := by decide +kernel
theorem dL_law_1325 : decode cL_law 1325 = .ok (.iload_n 3, 1) := by decide +kernel
theorem dL_law_1326 : decode cL_law 1326 = .ok (.iconst 1, 1) := by decide +kernel
theorem dL_law_1327 : decode cL_law 1327 = .ok (.iadd, 1) := by decide +kernel
theorem dL_law_1328 : decode cL_law 1328 = .ok (.iaload, 1) := by decide +kernel
theorem dL_law_1329 : decode cL_law 1329 = .ok (.aload_n 0, 1) := by decide +kernel
theorem dL_law_1330 : decode cL_law 1330 = .ok (.iload_n 3, 1) := by decide +kernel
theorem dL_law_1331 : decode cL_law 1331 = .ok (.iconst 2, 1) := by decide +kernel
theorem dL_law_1332 : decode cL_law 1332 = .ok (.iadd, 1) := by decide +kernel
theorem dL_law_1333 : decode cL_law 1333 = .ok (.iaload, 1) := by decide +kernel
theorem dL_law_1334 : decode cL_law 1334 = .ok (.invokevirtual 148, 3) := by decide +kernel
theorem dL_law_1337 : decode cL_law 1337 = .ok (.aload_n 2, 1) := by decide +kernel
theorem dL_law_1338 : decode cL_law 1338 = .ok (.aload_n 0, 1) := by decide +kernel
theorem dL_law_1339 : decode cL_law 1339 = .ok (.iload_n 3, 1) := by decide +kernel
theorem dL_law_1340 : decode cL_law 1340 = .ok (.iconst 1, 1) := by decide +kernel
theorem dL_law_1341 : decode cL_law 1341 = .ok (.iadd, 1) := by decide +kernel
theorem dL_law_1342 : decode cL_law 1342 = .ok (.iaload, 1) := by decide +kernel
theorem dL_law_1343 : decode cL_law 1343 = .ok (.aload_n 0, 1) := by decide +kernel
theorem dL_law_1344 : decode cL_law 1344 = .ok (.iload_n 3, 1) := by decide +kernel
theorem dL_law_1345 : decode cL_law 1345 = .ok (.iconst 2, 1) := by decide +kernel
theorem dL_law_1346 : decode cL_law 1346 = .ok (.iadd, 1) := by decide +kernel
theorem dL_law_1347 : decode cL_law 1347 = .ok (.iaload, 1) := by decide +kernel
theorem dL_law_1348 : decode cL_law 1348 = .ok (.invokevirtual 152, 3) := by decide +kernel
theorem dL_law_1351 : decode cL_law 1351 = .ok (.lcmp, 1) := by decide +kernel
theorem dL_law_1352 : decode cL_law 1352 = .ok (.ifCond .eq 528, 3) := by decide +kernel
theorem dL_law_1355 : decode cL_law 1355 = .ok (.iconst 0, 1) := by decide +kernel
theorem dL_law_1356 : decode cL_law 1356 = .ok (.ireturn, 1) := by decide +kernel
theorem dL_law_1357 : decode cL_law 1357 = .ok (.aload_n 1, 1) := by decide +kernel
theorem dL_law_1358 : decode cL_law 1358 = .ok (.aload_n 0, 1) := by decide +kernel
theorem dL_law_1359 : decode cL_law 1359 = .ok (.iload_n 3, 1) := by decide +kernel
theorem dL_law_1360 : decode cL_law 1360 = .ok (.iconst 1, 1) := by decide +kernel
theorem dL_law_1361 : decode cL_law 1361 = .ok (.iadd, 1) := by decide +kernel
theorem dL_law_1362 : decode cL_law 1362 = .ok (.iaload, 1) := by decide +kernel
theorem dL_law_1363 : decode cL_law 1363 = .ok (.aload_n 0, 1) := by decide +kernel
theorem dL_law_1364 : decode cL_law 1364 = .ok (.iload_n 3, 1) := by decide +kernel
theorem dL_law_1365 : decode cL_law 1365 = .ok (.iconst 2, 1) := by decide +kernel
theorem dL_law_1366 : decode cL_law 1366 = .ok (.iadd, 1) := by decide +kernel
theorem dL_law_1367 : decode cL_law 1367 = .ok (.iaload, 1) := by decide +kernel
theorem dL_law_1368 : decode cL_law 1368 = .ok (.aload_n 0, 1) := by decide +kernel
theorem dL_law_1369 : decode cL_law 1369 = .ok (.iload_n 3, 1) := by decide +kernel
theorem dL_law_1370 : decode cL_law 1370 = .ok (.iconst 3, 1) := by decide +kernel
theorem dL_law_1371 : decode cL_law 1371 = .ok (.iadd, 1) := by decide +kernel
theorem dL_law_1372 : decode cL_law 1372 = .ok (.iaload, 1) := by decide +kernel
theorem dL_law_1373 : decode cL_law 1373 = .ok (.invokevirtual 153, 3) := by decide +kernel
theorem dL_law_1376 : decode cL_law 1376 = .ok (.aload_n 2, 1) := by decide +kernel
theorem dL_law_1377 : decode cL_law 1377 = .ok (.aload_n 0, 1) := by decide +kernel
theorem dL_law_1378 : decode cL_law 1378 = .ok (.iload_n 3, 1) := by decide +kernel
theorem dL_law_1379 : decode cL_law 1379 = .ok (.iconst 1, 1) := by decide +kernel
theorem dL_law_1380 : decode cL_law 1380 = .ok (.iadd, 1) := by decide +kernel
theorem dL_law_1381 : decode cL_law 1381 = .ok (.iaload, 1) := by decide +kernel
theorem dL_law_1382 : decode cL_law 1382 = .ok (.aload_n 0, 1) := by decide +kernel
theorem dL_law_1383 : decode cL_law 1383 = .ok (.iload_n 3, 1) := by decide +kernel
theorem dL_law_1384 : decode cL_law 1384 = .ok (.iconst 2, 1) := by decide +kernel
theorem dL_law_1385 : decode cL_law 1385 = .ok (.iadd, 1) := by decide +kernel
theorem dL_law_1386 : decode cL_law 1386 = .ok (.iaload, 1) := by decide +kernel
theorem dL_law_1387 : decode cL_law 1387 = .ok (.aload_n 0, 1) := by decide +kernel
theorem dL_law_1388 : decode cL_law 1388 = .ok (.iload_n 3, 1) := by decide +kernel
theorem dL_law_1389 : decode cL_law 1389 = .ok (.iconst 3, 1) := by decide +kernel
theorem dL_law_1390 : decode cL_law 1390 = .ok (.iadd, 1) := by decide +kernel
theorem dL_law_1391 : decode cL_law 1391 = .ok (.iaload, 1) := by decide +kernel
theorem dL_law_1392 : decode cL_law 1392 = .ok (.invokevirtual 156, 3) := by decide +kernel
theorem dL_law_1395 : decode cL_law 1395 = .ok (.if_icmp .eq 485, 3) := by decide +kernel
theorem dL_law_1398 : decode cL_law 1398 = .ok (.iconst 0, 1) := by decide +kernel
theorem dL_law_1399 : decode cL_law 1399 = .ok (.ireturn, 1) := by decide +kernel
theorem dL_law_1400 : decode cL_law 1400 = .ok (.aload_n 1, 1) := by decide +kernel
theorem dL_law_1401 : decode cL_law 1401 = .ok (.aload_n 0, 1) := by decide +kernel
theorem dL_law_1402 : decode cL_law 1402 = .ok (.iload_n 3, 1) := by decide +kernel
theorem dL_law_1403 : decode cL_law 1403 = .ok (.iconst 1, 1) := by decide +kernel
theorem dL_law_1404 : decode cL_law 1404 = .ok (.iadd, 1) := by decide +kernel
theorem dL_law_1405 : decode cL_law 1405 = .ok (.iaload, 1) := by decide +kernel
theorem dL_law_1406 : decode cL_law 1406 = .ok (.aload_n 0, 1) := by decide +kernel
theorem dL_law_1407 : decode cL_law 1407 = .ok (.iload_n 3, 1) := by decide +kernel
theorem dL_law_1408 : decode cL_law 1408 = .ok (.iconst 2, 1) := by decide +kernel
theorem dL_law_1409 : decode cL_law 1409 = .ok (.iadd, 1) := by decide +kernel
theorem dL_law_1410 : decode cL_law 1410 = .ok (.iaload, 1) := by decide +kernel
theorem dL_law_1411 : decode cL_law 1411 = .ok (.aload_n 0, 1) := by decide +kernel
theorem dL_law_1412 : decode cL_law 1412 = .ok (.iload_n 3, 1) := by decide +kernel
theorem dL_law_1413 : decode cL_law 1413 = .ok (.iconst 3, 1) := by decide +kernel
theorem dL_law_1414 : decode cL_law 1414 = .ok (.iadd, 1) := by decide +kernel
theorem dL_law_1415 : decode cL_law 1415 = .ok (.iaload, 1) := by decide +kernel
theorem dL_law_1416 : decode cL_law 1416 = .ok (.invokevirtual 157, 3) := by decide +kernel
theorem dL_law_1419 : decode cL_law 1419 = .ok (.aload_n 2, 1) := by decide +kernel
theorem dL_law_1420 : decode cL_law 1420 = .ok (.aload_n 0, 1) := by decide +kernel
theorem dL_law_1421 : decode cL_law 1421 = .ok (.iload_n 3, 1) := by decide +kernel
theorem dL_law_1422 : decode cL_law 1422 = .ok (.iconst 1, 1) := by decide +kernel
theorem dL_law_1423 : decode cL_law 1423 = .ok (.iadd, 1) := by decide +kernel
theorem dL_law_1424 : decode cL_law 1424 = .ok (.iaload, 1) := by decide +kernel
theorem dL_law_1425 : decode cL_law 1425 = .ok (.aload_n 0, 1) := by decide +kernel
theorem dL_law_1426 : decode cL_law 1426 = .ok (.iload_n 3, 1) := by decide +kernel
theorem dL_law_1427 : decode cL_law 1427 = .ok (.iconst 2, 1) := by decide +kernel
theorem dL_law_1428 : decode cL_law 1428 = .ok (.iadd, 1) := by decide +kernel
theorem dL_law_1429 : decode cL_law 1429 = .ok (.iaload, 1) := by decide +kernel
theorem dL_law_1430 : decode cL_law 1430 = .ok (.aload_n 0, 1) := by decide +kernel
theorem dL_law_1431 : decode cL_law 1431 = .ok (.iload_n 3, 1) := by decide +kernel
theorem dL_law_1432 : decode cL_law 1432 = .ok (.iconst 3, 1) := by decide +kernel
theorem dL_law_1433 : decode cL_law 1433 = .ok (.iadd, 1) := by decide +kernel
theorem dL_law_1434 : decode cL_law 1434 = .ok (.iaload, 1) := by decide +kernel
theorem dL_law_1435 : decode cL_law 1435 = .ok (.invokevirtual 160, 3) := by decide +kernel
theorem dL_law_1438 : decode cL_law 1438 = .ok (.if_icmp .eq 442, 3) := by decide +kernel
theorem dL_law_1441 : decode cL_law 1441 = .ok (.iconst 0, 1) := by decide +kernel
theorem dL_law_1442 : decode cL_law 1442 = .ok (.ireturn, 1) := by decide +kernel
theorem dL_law_1443 : decode cL_law 1443 = .ok (.aload_n 1, 1) := by decide +kernel
theorem dL_law_1444 : decode cL_law 1444 = .ok (.aload_n 0, 1) := by decide +kernel
theorem dL_law_1445 : decode cL_law 1445 = .ok (.iload_n 3, 1) := by decide +kernel
theorem dL_law_1446 : decode cL_law 1446 = .ok (.iconst 1, 1) := by decide +kernel
theorem dL_law_1447 : decode cL_law 1447 = .ok (.iadd, 1) := by decide +kernel
theorem dL_law_1448 : decode cL_law 1448 = .ok (.iaload, 1) := by decide +kernel
theorem dL_law_1449 : decode cL_law 1449 = .ok (.invokevirtual 161, 3) := by decide +kernel
theorem dL_law_1452 : decode cL_law 1452 = .ok (.aload_n 2, 1) := by decide +kernel
theorem dL_law_1453 : decode cL_law 1453 = .ok (.aload_n 0, 1) := by decide +kernel
theorem dL_law_1454 : decode cL_law 1454 = .ok (.iload_n 3, 1) := by decide +kernel
theorem dL_law_1455 : decode cL_law 1455 = .ok (.iconst 1, 1) := by decide +kernel
theorem dL_law_1456 : decode cL_law 1456 = .ok (.iadd, 1) := by decide +kernel
theorem dL_law_1457 : decode cL_law 1457 = .ok (.iaload, 1) := by decide +kernel
theorem dL_law_1458 : decode cL_law 1458 = .ok (.invokevirtual 164, 3) := by decide +kernel
theorem dL_law_1461 : decode cL_law 1461 = .ok (.if_icmp .eq 419, 3) := by decide +kernel
theorem dL_law_1464 : decode cL_law 1464 = .ok (.iconst 0, 1) := by decide +kernel
theorem dL_law_1465 : decode cL_law 1465 = .ok (.ireturn, 1) := by decide +kernel
theorem dL_law_1466 : decode cL_law 1466 = .ok (.aload_n 1, 1) := by decide +kernel
theorem dL_law_1467 : decode cL_law 1467 = .ok (.aload_n 0, 1) := by decide +kernel
