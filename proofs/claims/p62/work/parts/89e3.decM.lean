theorem dL_law_919 : decode cL_law 919 = .ok (.i2l, 1) := by decide +kernel
theorem dL_law_920 : decode cL_law 920 = .ok (.ladd, 1) := by decide +kernel
theorem dL_law_921 : decode cL_law 921 = .ok (.lstore 17, 2) := by decide +kernel
theorem dL_law_923 : decode cL_law 923 = .ok (.iload 13, 2) := by decide +kernel
theorem dL_law_925 : decode cL_law 925 = .ok (.aload_n 1, 1) := by decide +kernel
theorem dL_law_926 : decode cL_law 926 = .ok (.iload 20, 2) := by decide +kernel
theorem dL_law_928 : decode cL_law 928 = .ok (.invokevirtual 123, 3) := by decide +kernel
theorem dL_law_931 : decode cL_law 931 = .ok (.iload 11, 2) := by decide +kernel
theorem dL_law_933 : decode cL_law 933 = .ok (.if_icmp .lt 7, 3) := by decide +kernel
theorem dL_law_936 : decode cL_law 936 = .ok (.iconst 1, 1) := by decide +kernel
theorem dL_law_937 : decode cL_law 937 = .ok (.goto 4, 3) := by decide +kernel
theorem dL_law_940 : decode cL_law 940 = .ok (.iconst 0, 1) := by decide +kernel
theorem dL_law_941 : decode cL_law 941 = .ok (.iadd, 1) := by decide +kernel
theorem dL_law_942 : decode cL_law 942 = .ok (.istore 13, 2) := by decide +kernel
theorem dL_law_944 : decode cL_law 944 = .ok (.iload 14, 2) := by decide +kernel
theorem dL_law_946 : decode cL_law 946 = .ok (.sipush (-30000), 3) := by decide +kernel
theorem dL_law_949 : decode cL_law 949 = .ok (.if_icmp .eq 14, 3) := by decide +kernel
theorem dL_law_952 : decode cL_law 952 = .ok (.aload_n 1, 1) := by decide +kernel
theorem dL_law_953 : decode cL_law 953 = .ok (.iload 20, 2) := by decide +kernel
theorem dL_law_955 : decode cL_law 955 = .ok (.iload 14, 2) := by decide +kernel
theorem dL_law_957 : decode cL_law 957 = .ok (.invokestatic 194, 3) := by decide +kernel
theorem dL_law_960 : decode cL_law 960 = .ok (.ifCond .eq 8, 3) := by decide +kernel
theorem dL_law_963 : decode cL_law 963 = .ok (.iload 20, 2) := by decide +kernel
theorem dL_law_965 : decode cL_law 965 = .ok (.goto 5, 3) := by decide +kernel
theorem dL_law_968 : decode cL_law 968 = .ok (.iload 14, 2) := by decide +kernel
theorem dL_law_970 : decode cL_law 970 = .ok (.istore 14, 2) := by decide +kernel
theorem dL_law_972 : decode cL_law 972 = .ok (.iinc 19 1, 3) := by decide +kernel
theorem dL_law_975 : decode cL_law 975 = .ok (.goto (-138), 3) := by decide +kernel
theorem dL_law_978 : decode cL_law 978 = .ok (.iload 15, 2) := by decide +kernel
theorem dL_law_980 : decode cL_law 980 = .ok (.sipush (-30000), 3) := by decide +kernel
theorem dL_law_983 : decode cL_law 983 = .ok (.if_icmp .ne 8, 3) := by decide +kernel
theorem dL_law_986 : decode cL_law 986 = .ok (.iload 16, 2) := by decide +kernel
theorem dL_law_988 : decode cL_law 988 = .ok (.goto 31, 3) := by decide +kernel
theorem dL_law_991 : decode cL_law 991 = .ok (.iload 16, 2) := by decide +kernel
theorem dL_law_993 : decode cL_law 993 = .ok (.sipush (-30000), 3) := by decide +kernel
theorem dL_law_996 : decode cL_law 996 = .ok (.if_icmp .eq 16, 3) := by decide +kernel
theorem dL_law_999 : decode cL_law 999 = .ok (.iload 9, 2) := by decide +kernel
theorem dL_law_1001 : decode cL_law 1001 = .ok (.iload 15, 2) := by decide +kernel
theorem dL_law_1003 : decode cL_law 1003 = .ok (.isub, 1) := by decide +kernel
theorem dL_law_1004 : decode cL_law 1004 = .ok (.iload 16, 2) := by decide +kernel
theorem dL_law_1006 : decode cL_law 1006 = .ok (.iload 9, 2) := by decide +kernel
theorem dL_law_1008 : decode cL_law 1008 = .ok (.isub, 1) := by decide +kernel
theorem dL_law_1009 : decode cL_law 1009 = .ok (.if_icmp .gt 8, 3) := by decide +kernel
theorem dL_law_1012 : decode cL_law 1012 = .ok (.iload 15, 2) := by decide +kernel
theorem dL_law_1014 : decode cL_law 1014 = .ok (.goto 5, 3) := by decide +kernel
theorem dL_law_1017 : decode cL_law 1017 = .ok (.iload 16, 2) := by decide +kernel
theorem dL_law_1019 : decode cL_law 1019 = .ok (.istore 19, 2) := by decide +kernel
theorem dL_law_1021 : decode cL_law 1021 = .ok (.aload_n 1, 1) := by decide +kernel
theorem dL_law_1022 : decode cL_law 1022 = .ok (.iload 9, 2) := by decide +kernel
theorem dL_law_1024 : decode cL_law 1024 = .ok (.iload 10, 2) := by decide +kernel
theorem dL_law_1026 : decode cL_law 1026 = .ok (.invokevirtual 242, 3) := by decide +kernel
theorem dL_law_1029 : decode cL_law 1029 = .ok (.iload 12, 2) := by decide +kernel
theorem dL_law_1031 : decode cL_law 1031 = .ok (.if_icmp .ne 119, 3) := by decide +kernel
theorem dL_law_1034 : decode cL_law 1034 = .ok (.aload_n 1, 1) := by decide +kernel
theorem dL_law_1035 : decode cL_law 1035 = .ok (.iload 9, 2) := by decide +kernel
theorem dL_law_1037 : decode cL_law 1037 = .ok (.iload 10, 2) := by decide +kernel
theorem dL_law_1039 : decode cL_law 1039 = .ok (.invokevirtual 245, 3) := by decide +kernel
theorem dL_law_1042 : decode cL_law 1042 = .ok (.iload 12, 2) := by decide +kernel
theorem dL_law_1044 : decode cL_law 1044 = .ok (.if_icmp .ne 106, 3) := by decide +kernel
theorem dL_law_1047 : decode cL_law 1047 = .ok (.aload_n 1, 1) := by decide +kernel
theorem dL_law_1048 : decode cL_law 1048 = .ok (.iload 9, 2) := by decide +kernel
theorem dL_law_1050 : decode cL_law 1050 = .ok (.iload 10, 2) := by decide +kernel
theorem dL_law_1052 : decode cL_law 1052 = .ok (.iload 11, 2) := by decide +kernel
theorem dL_law_1054 : decode cL_law 1054 = .ok (.invokevirtual 248, 3) := by decide +kernel
theorem dL_law_1057 : decode cL_law 1057 = .ok (.iload 13, 2) := by decide +kernel
theorem dL_law_1059 : decode cL_law 1059 = .ok (.if_icmp .ne 91, 3) := by decide +kernel
theorem dL_law_1062 : decode cL_law 1062 = .ok (.aload_n 1, 1) := by decide +kernel
theorem dL_law_1063 : decode cL_law 1063 = .ok (.iload 9, 2) := by decide +kernel
theorem dL_law_1065 : decode cL_law 1065 = .ok (.iload 10, 2) := by decide +kernel
theorem dL_law_1067 : decode cL_law 1067 = .ok (.iload 11, 2) := by decide +kernel
theorem dL_law_1069 : decode cL_law 1069 = .ok (.invokevirtual 252, 3) := by decide +kernel
theorem dL_law_1072 : decode cL_law 1072 = .ok (.iload 13, 2) := by decide +kernel
theorem dL_law_1074 : decode cL_law 1074 = .ok (.if_icmp .ne 76, 3) := by decide +kernel
theorem dL_law_1077 : decode cL_law 1077 = .ok (.aload_n 1, 1) := by decide +kernel
theorem dL_law_1078 : decode cL_law 1078 = .ok (.iload 9, 2) := by decide +kernel
theorem dL_law_1080 : decode cL_law 1080 = .ok (.iload 10, 2) := by decide +kernel
theorem dL_law_1082 : decode cL_law 1082 = .ok (.invokestatic 255, 3) := by decide +kernel
theorem dL_law_1085 : decode cL_law 1085 = .ok (.iload 14, 2) := by decide +kernel
theorem dL_law_1087 : decode cL_law 1087 = .ok (.if_icmp .ne 63, 3) := by decide +kernel
theorem dL_law_1090 : decode cL_law 1090 = .ok (.aload_n 1, 1) := by decide +kernel
theorem dL_law_1091 : decode cL_law 1091 = .ok (.iload 9, 2) := by decide +kernel
theorem dL_law_1093 : decode cL_law 1093 = .ok (.iload 10, 2) := by decide +kernel
theorem dL_law_1095 : decode cL_law 1095 = .ok (.invokestatic 257, 3) := by decide +kernel
theorem dL_law_1098 : decode cL_law 1098 = .ok (.iload 14, 2) := by decide +kernel
theorem dL_law_1100 : decode cL_law 1100 = .ok (.if_icmp .ne 50, 3) := by decide +kernel
theorem dL_law_1103 : decode cL_law 1103 = .ok (.aload_n 1, 1) := by decide +kernel
theorem dL_law_1104 : decode cL_law 1104 = .ok (.iload 9, 2) := by decide +kernel
theorem dL_law_1106 : decode cL_law 1106 = .ok (.iload 10, 2) := by decide +kernel
theorem dL_law_1108 : decode cL_law 1108 = .ok (.invokevirtual 259, 3) := by decide +kernel
theorem dL_law_1111 : decode cL_law 1111 = .ok (.lload 17, 2) := by decide +kernel
theorem dL_law_1113 : decode cL_law 1113 = .ok (.lcmp, 1) := by decide +kernel
theorem dL_law_1114 : decode cL_law 1114 = .ok (.ifCond .ne 36, 3) := by decide +kernel
theorem dL_law_1117 : decode cL_law 1117 = .ok (.aload_n 1, 1) := by decide +kernel
theorem dL_law_1118 : decode cL_law 1118 = .ok (.iload 9, 2) := by decide +kernel
theorem dL_law_1120 : decode cL_law 1120 = .ok (.invokestatic 263, 3) := by decide +kernel
theorem dL_law_1123 : decode cL_law 1123 = .ok (.iload 15, 2) := by decide +kernel
theorem dL_law_1125 : decode cL_law 1125 = .ok (.if_icmp .ne 25, 3) := by decide +kernel
theorem dL_law_1128 : decode cL_law 1128 = .ok (.aload_n 1, 1) := by decide +kernel
theorem dL_law_1129 : decode cL_law 1129 = .ok (.iload 9, 2) := by decide +kernel
theorem dL_law_1131 : decode cL_law 1131 = .ok (.invokestatic 265, 3) := by decide +kernel
theorem dL_law_1134 : decode cL_law 1134 = .ok (.iload 16, 2) := by decide +kernel
theorem dL_law_1136 : decode cL_law 1136 = .ok (.if_icmp .ne 14, 3) := by decide +kernel
theorem dL_law_1139 : decode cL_law 1139 = .ok (.aload_n 1, 1) := by decide +kernel
theorem dL_law_1140 : decode cL_law 1140 = .ok (.iload 9, 2) := by decide +kernel
theorem dL_law_1142 : decode cL_law 1142 = .ok (.invokestatic 267, 3) := by decide +kernel
theorem dL_law_1145 : decode cL_law 1145 = .ok (.iload 19, 2) := by decide +kernel
theorem dL_law_1147 : decode cL_law 1147 = .ok (.if_icmp .eq 5, 3) := by decide +kernel
theorem dL_law_1150 : decode cL_law 1150 = .ok (.iconst 0, 1) := by decide +kernel
theorem dL_law_1151 : decode cL_law 1151 = .ok (.ireturn, 1) := by decide +kernel
theorem dL_law_1152 : decode cL_law 1152 = .ok (.iinc 8 1, 3) := by decide +kernel
theorem dL_law_1155 : decode cL_law 1155 = .ok (.goto (-404), 3) := by decide +kernel
theorem dL_law_1158 : decode cL_law 1158 = .ok (.iconst 0, 1) := by decide +kernel
theorem dL_law_1159 : decode cL_law 1159 = .ok (.istore 8, 2) := by decide +kernel
theorem dL_law_1161 : decode cL_law 1161 = .ok (.iload 8, 2) := by decide +kernel
theorem dL_law_1163 : decode cL_law 1163 = .ok (.iconst 4, 1) := by decide +kernel
theorem dL_law_1164 : decode cL_law 1164 = .ok (.if_icmp .ge 205, 3) := by decide +kernel
theorem dL_law_1167 : decode cL_law 1167 = .ok (.aload_n 1, 1) := by decide +kernel
theorem dL_law_1168 : decode cL_law 1168 = .ok (.iload 8, 2) := by decide +kernel
theorem dL_law_1170 : decode cL_law 1170 = .ok (.invokestatic 269, 3) := by decide +kernel
theorem dL_law_1173 : decode cL_law 1173 = .ok (.istore 9, 2) := by decide +kernel
theorem dL_law_1175 : decode cL_law 1175 = .ok (.ldc 138, 2) := by decide +kernel
theorem dL_law_1177 : decode cL_law 1177 = .ok (.astore 10, 2) := by decide +kernel
theorem dL_law_1179 : decode cL_law 1179 = .ok (.aload_n 1, 1) := by decide +kernel
theorem dL_law_1180 : decode cL_law 1180 = .ok (.iload 8, 2) := by decide +kernel
theorem dL_law_1182 : decode cL_law 1182 = .ok (.invokevirtual 271, 3) := by decide +kernel
theorem dL_law_1185 : decode cL_law 1185 = .ok (.iload 9, 2) := by decide +kernel
theorem dL_law_1187 : decode cL_law 1187 = .ok (.sipush (-30000), 3) := by decide +kernel
theorem dL_law_1190 : decode cL_law 1190 = .ok (.if_icmp .eq 7, 3) := by decide +kernel
theorem dL_law_1193 : decode cL_law 1193 = .ok (.iconst 1, 1) := by decide +kernel
theorem dL_law_1194 : decode cL_law 1194 = .ok (.goto 4, 3) := by decide +kernel
theorem dL_law_1197 : decode cL_law 1197 = .ok (.iconst 0, 1) := by decide +kernel
theorem dL_law_1198 : decode cL_law 1198 = .ok (.if_icmp .eq 5, 3) := by decide +kernel
theorem dL_law_1201 : decode cL_law 1201 = .ok (.iconst 0, 1) := by decide +kernel
theorem dL_law_1202 : decode cL_law 1202 = .ok (.ireturn, 1) := by decide +kernel
theorem dL_law_1203 : decode cL_law 1203 = .ok (.iload 9, 2) := by decide +kernel
theorem dL_law_1205 : decode cL_law 1205 = .ok (.sipush (-30000), 3) := by decide +kernel
theorem dL_law_1208 : decode cL_law 1208 = .ok (.if_icmp .ne 6, 3) := by decide +kernel
theorem dL_law_1211 : decode cL_law 1211 = .ok (.goto 152, 3) := by decide +kernel
theorem dL_law_1214 : decode cL_law 1214 = .ok (.iconst 0, 1) := by decide +kernel
theorem dL_law_1215 : decode cL_law 1215 = .ok (.istore 11, 2) := by decide +kernel
theorem dL_law_1217 : decode cL_law 1217 = .ok (.iload 11, 2) := by decide +kernel
theorem dL_law_1219 : decode cL_law 1219 = .ok (.iload 9, 2) := by decide +kernel
theorem dL_law_1221 : decode cL_law 1221 = .ok (.if_icmp .ge 88, 3) := by decide +kernel
theorem dL_law_1224 : decode cL_law 1224 = .ok (.aload_n 1, 1) := by decide +kernel
theorem dL_law_1225 : decode cL_law 1225 = .ok (.iload 8, 2) := by decide +kernel
theorem dL_law_1227 : decode cL_law 1227 = .ok (.iload 11, 2) := by decide +kernel
theorem dL_law_1229 : decode cL_law 1229 = .ok (.invokevirtual 54, 3) := by decide +kernel
theorem dL_law_1232 : decode cL_law 1232 = .ok (.istore 12, 2) := by decide +kernel
theorem dL_law_1234 : decode cL_law 1234 = .ok (.aload_n 1, 1) := by decide +kernel
theorem dL_law_1235 : decode cL_law 1235 = .ok (.iload 12, 2) := by decide +kernel
theorem dL_law_1237 : decode cL_law 1237 = .ok (.invokevirtual 184, 3) := by decide +kernel
theorem dL_law_1240 : decode cL_law 1240 = .ok (.ifCond .eq 23, 3) := by decide +kernel
theorem dL_law_1243 : decode cL_law 1243 = .ok (.iload 11, 2) := by decide +kernel
theorem dL_law_1245 : decode cL_law 1245 = .ok (.ifCond .le 20, 3) := by decide +kernel
theorem dL_law_1248 : decode cL_law 1248 = .ok (.iload 12, 2) := by decide +kernel
theorem dL_law_1250 : decode cL_law 1250 = .ok (.aload_n 1, 1) := by decide +kernel
theorem dL_law_1251 : decode cL_law 1251 = .ok (.iload 8, 2) := by decide +kernel
theorem dL_law_1253 : decode cL_law 1253 = .ok (.iload 11, 2) := by decide +kernel
theorem dL_law_1255 : decode cL_law 1255 = .ok (.iconst 1, 1) := by decide +kernel
theorem dL_law_1256 : decode cL_law 1256 = .ok (.isub, 1) := by decide +kernel
theorem dL_law_1257 : decode cL_law 1257 = .ok (.invokevirtual 54, 3) := by decide +kernel
theorem dL_law_1260 : decode cL_law 1260 = .ok (.if_icmp .gt 5, 3) := by decide +kernel
theorem dL_law_1263 : decode cL_law 1263 = .ok (.iconst 0, 1) := by decide +kernel
theorem dL_law_1264 : decode cL_law 1264 = .ok (.ireturn, 1) := by decide +kernel
theorem dL_law_1265 : decode cL_law 1265 = .ok (.new 140, 3) := by decide +kernel
theorem dL_law_1268 : decode cL_law 1268 = .ok (.dup, 1) := by decide +kernel
theorem dL_law_1269 : decode cL_law 1269 = .ok (.invokespecial 142, 3) := by decide +kernel
theorem dL_law_1272 : decode cL_law 1272 = .ok (.aload 10, 2) := by decide +kernel
theorem dL_law_1274 : decode cL_law 1274 = .ok (.invokevirtual 145, 3) := by decide +kernel
theorem dL_law_1277 : decode cL_law 1277 = .ok (.iload 11, 2) := by decide +kernel
theorem dL_law_1279 : decode cL_law 1279 = .ok (.ifCond .le 9, 3) := by decide +kernel
theorem dL_law_1282 : decode cL_law 1282 = .ok (.ldc_w 274, 3) := by decide +kernel
theorem dL_law_1285 : decode cL_law 1285 = .ok (.goto 5, 3) := by decide +kernel
theorem dL_law_1288 : decode cL_law 1288 = .ok (.ldc 138, 2) := by decide +kernel
theorem dL_law_1290 : decode cL_law 1290 = .ok (.invokevirtual 145, 3) := by decide +kernel
theorem dL_law_1293 : decode cL_law 1293 = .ok (.iload 12, 2) := by decide +kernel
theorem dL_law_1295 : decode cL_law 1295 = .ok (.invokevirtual 155, 3) := by decide +kernel
theorem dL_law_1298 : decode cL_law 1298 = .ok (.invokevirtual 164, 3) := by decide +kernel
theorem dL_law_1301 : decode cL_law 1301 = .ok (.astore 10, 2) := by decide +kernel
theorem dL_law_1303 : decode cL_law 1303 = .ok (.iinc 11 1, 3) := by decide +kernel
theorem dL_law_1306 : decode cL_law 1306 = .ok (.goto (-89), 3) := by decide +kernel
theorem dL_law_1309 : decode cL_law 1309 = .ok (.aload_n 1, 1) := by decide +kernel
theorem dL_law_1310 : decode cL_law 1310 = .ok (.iload 8, 2) := by decide +kernel
theorem dL_law_1312 : decode cL_law 1312 = .ok (.invokevirtual 276, 3) := by decide +kernel
theorem dL_law_1315 : decode cL_law 1315 = .ok (.ifCond .lt 46, 3) := by decide +kernel
theorem dL_law_1318 : decode cL_law 1318 = .ok (.iload 9, 2) := by decide +kernel
theorem dL_law_1320 : decode cL_law 1320 = .ok (.aload_n 1, 1) := by decide +kernel
theorem dL_law_1321 : decode cL_law 1321 = .ok (.iload 8, 2) := by decide +kernel
theorem dL_law_1323 : decode cL_law 1323 = .ok (.invokevirtual 276, 3) := by decide +kernel
theorem dL_law_1326 : decode cL_law 1326 = .ok (.iadd, 1) := by decide +kernel
