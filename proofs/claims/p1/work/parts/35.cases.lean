/-! the law: the tree, packets -/
theorem dL_law_913 : decode cL_law 913 = .ok (.aload_n 1, 1) := by decide +kernel
theorem dL_law_914 : decode cL_law 914 = .ok (.aload_n 0, 1) := by decide +kernel
theorem dL_law_915 : decode cL_law 915 = .ok (.iload 4, 2) := by decide +kernel
theorem dL_law_917 : decode cL_law 917 = .ok (.iconst 1, 1) := by decide +kernel
theorem dL_law_918 : decode cL_law 918 = .ok (.iadd, 1) := by decide +kernel
theorem dL_law_919 : decode cL_law 919 = .ok (.iaload, 1) := by decide +kernel
theorem dL_law_920 : decode cL_law 920 = .ok (.aload_n 0, 1) := by decide +kernel
theorem dL_law_921 : decode cL_law 921 = .ok (.iload 4, 2) := by decide +kernel
theorem dL_law_923 : decode cL_law 923 = .ok (.iconst 2, 1) := by decide +kernel
theorem dL_law_924 : decode cL_law 924 = .ok (.iadd, 1) := by decide +kernel
theorem dL_law_925 : decode cL_law 925 = .ok (.iaload, 1) := by decide +kernel
theorem dL_law_926 : decode cL_law 926 = .ok (.aload_n 0, 1) := by decide +kernel
theorem dL_law_927 : decode cL_law 927 = .ok (.iload 4, 2) := by decide +kernel
theorem dL_law_929 : decode cL_law 929 = .ok (.iconst 3, 1) := by decide +kernel
theorem dL_law_930 : decode cL_law 930 = .ok (.iadd, 1) := by decide +kernel
theorem dL_law_931 : decode cL_law 931 = .ok (.iaload, 1) := by decide +kernel
theorem dL_law_932 : decode cL_law 932 = .ok (.aload_n 0, 1) := by decide +kernel
theorem dL_law_933 : decode cL_law 933 = .ok (.iload 4, 2) := by decide +kernel
theorem dL_law_935 : decode cL_law 935 = .ok (.iconst 4, 1) := by decide +kernel
theorem dL_law_936 : decode cL_law 936 = .ok (.iadd, 1) := by decide +kernel
theorem dL_law_937 : decode cL_law 937 = .ok (.iaload, 1) := by decide +kernel
theorem dL_law_938 : decode cL_law 938 = .ok (.aload_n 3, 1) := by decide +kernel
set_option maxRecDepth 20000 in
theorem ggL_law_L_decider : GoodIn wsL_law wsL_decider := goodIn_ca (goodIn_r _ [574, 119, 575, 576, 577, 2, 578, 16, 127, 185, 39, 579, 580, 581, 582, 131, 132, 192, 193, 194, 195, 583, 351, 352, 47, 353, 142, 584, 585, 586, 587, 588, 589, 590, 591, 51, 52, 1019, 1020, 1021, 1022, 1023, 1024, 1025, 1026, 1038, 1039, 1040, 1072, 1073, 1074, 1075] (by decide +kernel) (by decide +kernel)) (goodIn_sub (fun _ h => List.mem_append_left _ (List.mem_append_right _ h)) (by decide +kernel))
set_option maxRecDepth 20000 in
theorem gL_law_L_decider : GoodIn wsL_law (va_wsS RL 143 yL_decider wsL_decider) := goodIn_app (goodIn_of _ (by decide +kernel)) ggL_law_L_decider
theorem dL_law_939 : decode cL_law 939 = .ok (.invokestatic 143, 3) := by decide +kernel
theorem dL_law_942 : decode cL_law 942 = .ok (.istore 5, 2) := by decide +kernel
theorem dL_law_944 : decode cL_law 944 = .ok (.aload_n 2, 1) := by decide +kernel
theorem dL_law_945 : decode cL_law 945 = .ok (.aload_n 0, 1) := by decide +kernel
theorem dL_law_946 : decode cL_law 946 = .ok (.iload 4, 2) := by decide +kernel
theorem dL_law_948 : decode cL_law 948 = .ok (.iconst 1, 1) := by decide +kernel
theorem dL_law_949 : decode cL_law 949 = .ok (.iadd, 1) := by decide +kernel
theorem dL_law_950 : decode cL_law 950 = .ok (.iaload, 1) := by decide +kernel
theorem dL_law_951 : decode cL_law 951 = .ok (.aload_n 0, 1) := by decide +kernel
theorem dL_law_952 : decode cL_law 952 = .ok (.iload 4, 2) := by decide +kernel
theorem dL_law_954 : decode cL_law 954 = .ok (.iconst 2, 1) := by decide +kernel
theorem dL_law_955 : decode cL_law 955 = .ok (.iadd, 1) := by decide +kernel
theorem dL_law_956 : decode cL_law 956 = .ok (.iaload, 1) := by decide +kernel
theorem dL_law_957 : decode cL_law 957 = .ok (.aload_n 0, 1) := by decide +kernel
theorem dL_law_958 : decode cL_law 958 = .ok (.iload 4, 2) := by decide +kernel
theorem dL_law_960 : decode cL_law 960 = .ok (.iconst 3, 1) := by decide +kernel
theorem dL_law_961 : decode cL_law 961 = .ok (.iadd, 1) := by decide +kernel
theorem dL_law_962 : decode cL_law 962 = .ok (.iaload, 1) := by decide +kernel
theorem dL_law_963 : decode cL_law 963 = .ok (.aload_n 0, 1) := by decide +kernel
theorem dL_law_964 : decode cL_law 964 = .ok (.iload 4, 2) := by decide +kernel
theorem dL_law_966 : decode cL_law 966 = .ok (.iconst 4, 1) := by decide +kernel
theorem dL_law_967 : decode cL_law 967 = .ok (.iadd, 1) := by decide +kernel
theorem dL_law_968 : decode cL_law 968 = .ok (.iaload, 1) := by decide +kernel
set_option maxRecDepth 20000 in
theorem ggL_law_X9_decider : GoodIn wsL_law wsX9_decider := goodIn_r _ [595, 38, 596, 597, 598, 5, 599, 156, 168, 169, 170, 161, 162, 163, 600, 601, 602, 603, 99, 157, 158, 604, 605, 606, 98, 607, 112, 113, 1027, 1028, 1029, 1030, 1031, 1032, 1033, 1034, 1035, 1036, 1037, 1076, 1077, 1078, 1079, 1080, 1081] (by decide +kernel) (by decide +kernel)
set_option maxRecDepth 20000 in
theorem gL_law_X9_decider : GoodIn wsL_law (wsV RL 145 RX9 yX9_decider wsX9_decider) := goodIn_app (goodIn_of _ (by decide +kernel)) ggL_law_X9_decider
theorem dL_law_969 : decode cL_law 969 = .ok (.invokevirtual 145, 3) := by decide +kernel
theorem dL_law_972 : decode cL_law 972 = .ok (.istore 6, 2) := by decide +kernel
theorem dL_law_974 : decode cL_law 974 = .ok (.aload_n 2, 1) := by decide +kernel
theorem dL_law_975 : decode cL_law 975 = .ok (.invokevirtual 89, 3) := by decide +kernel
theorem dL_law_978 : decode cL_law 978 = .ok (.iload 5, 2) := by decide +kernel
theorem dL_law_980 : decode cL_law 980 = .ok (.if_icmp .eq 5, 3) := by decide +kernel
theorem dL_law_985 : decode cL_law 985 = .ok (.iload 5, 2) := by decide +kernel
theorem dL_law_987 : decode cL_law 987 = .ok (.ifCond .ne 15, 3) := by decide +kernel
theorem dL_law_990 : decode cL_law 990 = .ok (.aload_n 3, 1) := by decide +kernel
theorem dL_law_991 : decode cL_law 991 = .ok (.iconst 0, 1) := by decide +kernel
theorem dL_law_992 : decode cL_law 992 = .ok (.laload, 1) := by decide +kernel
theorem dL_law_993 : decode cL_law 993 = .ok (.iload 6, 2) := by decide +kernel
theorem dL_law_995 : decode cL_law 995 = .ok (.i2l, 1) := by decide +kernel
theorem dL_law_996 : decode cL_law 996 = .ok (.lcmp, 1) := by decide +kernel
theorem dL_law_997 : decode cL_law 997 = .ok (.ifCond .eq 5, 3) := by decide +kernel
theorem dL_law_1002 : decode cL_law 1002 = .ok (.goto 746, 3) := by decide +kernel
theorem dL_law_1166 : decode cL_law 1166 = .ok (.aload_n 1, 1) := by decide +kernel
theorem dL_law_1167 : decode cL_law 1167 = .ok (.aload_n 0, 1) := by decide +kernel
theorem dL_law_1168 : decode cL_law 1168 = .ok (.iload 4, 2) := by decide +kernel
theorem dL_law_1170 : decode cL_law 1170 = .ok (.iconst 1, 1) := by decide +kernel
theorem dL_law_1171 : decode cL_law 1171 = .ok (.iadd, 1) := by decide +kernel
theorem dL_law_1172 : decode cL_law 1172 = .ok (.iaload, 1) := by decide +kernel
theorem dL_law_1173 : decode cL_law 1173 = .ok (.aload_n 0, 1) := by decide +kernel
theorem dL_law_1174 : decode cL_law 1174 = .ok (.iload 4, 2) := by decide +kernel
theorem dL_law_1176 : decode cL_law 1176 = .ok (.iconst 2, 1) := by decide +kernel
theorem dL_law_1177 : decode cL_law 1177 = .ok (.iadd, 1) := by decide +kernel
theorem dL_law_1178 : decode cL_law 1178 = .ok (.iaload, 1) := by decide +kernel
theorem dL_law_1179 : decode cL_law 1179 = .ok (.aload_n 0, 1) := by decide +kernel
theorem dL_law_1180 : decode cL_law 1180 = .ok (.iload 4, 2) := by decide +kernel
theorem dL_law_1182 : decode cL_law 1182 = .ok (.iconst 3, 1) := by decide +kernel
theorem dL_law_1183 : decode cL_law 1183 = .ok (.iadd, 1) := by decide +kernel
theorem dL_law_1184 : decode cL_law 1184 = .ok (.iaload, 1) := by decide +kernel
theorem dL_law_1185 : decode cL_law 1185 = .ok (.aload_n 0, 1) := by decide +kernel
theorem dL_law_1186 : decode cL_law 1186 = .ok (.iload 4, 2) := by decide +kernel
theorem dL_law_1188 : decode cL_law 1188 = .ok (.iconst 4, 1) := by decide +kernel
theorem dL_law_1189 : decode cL_law 1189 = .ok (.iadd, 1) := by decide +kernel
theorem dL_law_1190 : decode cL_law 1190 = .ok (.iaload, 1) := by decide +kernel
theorem dL_law_1191 : decode cL_law 1191 = .ok (.aload_n 3, 1) := by decide +kernel
set_option maxRecDepth 20000 in
theorem ggL_law_L_steps : GoodIn wsL_law wsL_steps := goodIn_ca (goodIn_r _ [746, 119, 747, 748, 749, 2, 750, 16, 39, 579, 580, 581, 582, 131, 132, 192, 193, 194, 195, 751, 347, 348, 15, 349, 137, 45, 350, 351, 352, 47, 353, 142, 752, 651, 652, 653, 365, 331, 332, 333, 654, 655, 656, 657, 51, 52, 753, 628, 629, 630, 631, 589, 590, 591, 1019, 1020, 1021, 1022, 1023, 1024, 1025, 1026, 1038, 1039, 1040, 1072, 1073, 1074, 1075] (by decide +kernel) (by decide +kernel)) (goodIn_sub (fun _ h => List.mem_append_left _ (List.mem_append_right _ h)) (by decide +kernel))
set_option maxRecDepth 20000 in
theorem gL_law_L_steps : GoodIn wsL_law (va_wsS RL 157 yL_steps wsL_steps) := goodIn_app (goodIn_of _ (by decide +kernel)) ggL_law_L_steps
theorem dL_law_1192 : decode cL_law 1192 = .ok (.invokestatic 157, 3) := by decide +kernel
theorem dL_law_1195 : decode cL_law 1195 = .ok (.istore 5, 2) := by decide +kernel
theorem dL_law_1197 : decode cL_law 1197 = .ok (.aload_n 2, 1) := by decide +kernel
theorem dL_law_1198 : decode cL_law 1198 = .ok (.aload_n 0, 1) := by decide +kernel
theorem dL_law_1199 : decode cL_law 1199 = .ok (.iload 4, 2) := by decide +kernel
theorem dL_law_1201 : decode cL_law 1201 = .ok (.iconst 1, 1) := by decide +kernel
theorem dL_law_1202 : decode cL_law 1202 = .ok (.iadd, 1) := by decide +kernel
theorem dL_law_1203 : decode cL_law 1203 = .ok (.iaload, 1) := by decide +kernel
theorem dL_law_1204 : decode cL_law 1204 = .ok (.aload_n 0, 1) := by decide +kernel
theorem dL_law_1205 : decode cL_law 1205 = .ok (.iload 4, 2) := by decide +kernel
theorem dL_law_1207 : decode cL_law 1207 = .ok (.iconst 2, 1) := by decide +kernel
theorem dL_law_1208 : decode cL_law 1208 = .ok (.iadd, 1) := by decide +kernel
theorem dL_law_1209 : decode cL_law 1209 = .ok (.iaload, 1) := by decide +kernel
theorem dL_law_1210 : decode cL_law 1210 = .ok (.aload_n 0, 1) := by decide +kernel
theorem dL_law_1211 : decode cL_law 1211 = .ok (.iload 4, 2) := by decide +kernel
theorem dL_law_1213 : decode cL_law 1213 = .ok (.iconst 3, 1) := by decide +kernel
theorem dL_law_1214 : decode cL_law 1214 = .ok (.iadd, 1) := by decide +kernel
theorem dL_law_1215 : decode cL_law 1215 = .ok (.iaload, 1) := by decide +kernel
theorem dL_law_1216 : decode cL_law 1216 = .ok (.aload_n 0, 1) := by decide +kernel
theorem dL_law_1217 : decode cL_law 1217 = .ok (.iload 4, 2) := by decide +kernel
theorem dL_law_1219 : decode cL_law 1219 = .ok (.iconst 4, 1) := by decide +kernel
theorem dL_law_1220 : decode cL_law 1220 = .ok (.iadd, 1) := by decide +kernel
theorem dL_law_1221 : decode cL_law 1221 = .ok (.iaload, 1) := by decide +kernel
set_option maxRecDepth 20000 in
theorem ggL_law_X9_steps : GoodIn wsL_law wsX9_steps := goodIn_r _ [757, 38, 99, 596, 597, 598, 5, 599, 156, 168, 169, 170, 161, 162, 163, 417, 418, 419, 98, 420, 252, 382, 383, 384, 385, 111, 429, 391, 392, 393, 112, 113, 394, 395, 396, 442, 410, 411, 412, 1027, 1028, 1029, 1030, 1031, 1032, 1033, 1034, 1035, 1036, 1037, 1076, 1077, 1078, 1079, 1080, 1081] (by decide +kernel) (by decide +kernel)
set_option maxRecDepth 20000 in
theorem gL_law_X9_steps : GoodIn wsL_law (wsV RL 159 RX9 yX9_steps wsX9_steps) := goodIn_app (goodIn_of _ (by decide +kernel)) ggL_law_X9_steps
theorem dL_law_1222 : decode cL_law 1222 = .ok (.invokevirtual 159, 3) := by decide +kernel
theorem dL_law_1225 : decode cL_law 1225 = .ok (.istore 6, 2) := by decide +kernel
theorem dL_law_1227 : decode cL_law 1227 = .ok (.aload_n 2, 1) := by decide +kernel
theorem dL_law_1228 : decode cL_law 1228 = .ok (.invokevirtual 89, 3) := by decide +kernel
theorem dL_law_1231 : decode cL_law 1231 = .ok (.iload 5, 2) := by decide +kernel
theorem dL_law_1233 : decode cL_law 1233 = .ok (.if_icmp .eq 5, 3) := by decide +kernel
theorem dL_law_1238 : decode cL_law 1238 = .ok (.iload 5, 2) := by decide +kernel
theorem dL_law_1240 : decode cL_law 1240 = .ok (.ifCond .ne 15, 3) := by decide +kernel
theorem dL_law_1243 : decode cL_law 1243 = .ok (.aload_n 3, 1) := by decide +kernel
theorem dL_law_1244 : decode cL_law 1244 = .ok (.iconst 0, 1) := by decide +kernel
theorem dL_law_1245 : decode cL_law 1245 = .ok (.laload, 1) := by decide +kernel
theorem dL_law_1246 : decode cL_law 1246 = .ok (.iload 6, 2) := by decide +kernel
theorem dL_law_1248 : decode cL_law 1248 = .ok (.i2l, 1) := by decide +kernel
theorem dL_law_1249 : decode cL_law 1249 = .ok (.lcmp, 1) := by decide +kernel
theorem dL_law_1250 : decode cL_law 1250 = .ok (.ifCond .eq 5, 3) := by decide +kernel
theorem dL_law_1255 : decode cL_law 1255 = .ok (.goto 493, 3) := by decide +kernel
theorem dL_law_1299 : decode cL_law 1299 = .ok (.aload_n 1, 1) := by decide +kernel
theorem dL_law_1300 : decode cL_law 1300 = .ok (.aload_n 0, 1) := by decide +kernel
theorem dL_law_1301 : decode cL_law 1301 = .ok (.iload 4, 2) := by decide +kernel
theorem dL_law_1303 : decode cL_law 1303 = .ok (.iconst 1, 1) := by decide +kernel
theorem dL_law_1304 : decode cL_law 1304 = .ok (.iadd, 1) := by decide +kernel
theorem dL_law_1305 : decode cL_law 1305 = .ok (.iaload, 1) := by decide +kernel
theorem dL_law_1306 : decode cL_law 1306 = .ok (.aload_n 0, 1) := by decide +kernel
theorem dL_law_1307 : decode cL_law 1307 = .ok (.iload 4, 2) := by decide +kernel
theorem dL_law_1309 : decode cL_law 1309 = .ok (.iconst 2, 1) := by decide +kernel
theorem dL_law_1310 : decode cL_law 1310 = .ok (.iadd, 1) := by decide +kernel
theorem dL_law_1311 : decode cL_law 1311 = .ok (.iaload, 1) := by decide +kernel
theorem dL_law_1312 : decode cL_law 1312 = .ok (.aload_n 0, 1) := by decide +kernel
theorem dL_law_1313 : decode cL_law 1313 = .ok (.iload 4, 2) := by decide +kernel
theorem dL_law_1315 : decode cL_law 1315 = .ok (.iconst 3, 1) := by decide +kernel
theorem dL_law_1316 : decode cL_law 1316 = .ok (.iadd, 1) := by decide +kernel
theorem dL_law_1317 : decode cL_law 1317 = .ok (.iaload, 1) := by decide +kernel
theorem dL_law_1318 : decode cL_law 1318 = .ok (.aload_n 0, 1) := by decide +kernel
theorem dL_law_1319 : decode cL_law 1319 = .ok (.iload 4, 2) := by decide +kernel
theorem dL_law_1321 : decode cL_law 1321 = .ok (.iconst 4, 1) := by decide +kernel
theorem dL_law_1322 : decode cL_law 1322 = .ok (.iadd, 1) := by decide +kernel
theorem dL_law_1323 : decode cL_law 1323 = .ok (.iaload, 1) := by decide +kernel
theorem dL_law_1324 : decode cL_law 1324 = .ok (.aload_n 3, 1) := by decide +kernel
set_option maxRecDepth 20000 in
theorem ggL_law_L_send : GoodIn wsL_law wsL_send := goodIn_ca (goodIn_r _ [778, 119, 779, 780, 781, 2, 782, 37, 16, 39, 289, 185, 215, 579, 580, 581, 582, 131, 132, 192, 193, 194, 195, 783, 784, 785, 36, 786, 787, 91, 788, 789, 790, 791, 792, 793, 794, 795, 796, 797, 15, 798, 137, 45, 799, 800, 585, 586, 47, 587, 588, 589, 590, 591, 51, 52, 350, 351, 352, 353, 142, 801, 802, 803, 804, 805, 806, 807, 808, 809, 810, 811, 812, 813, 814, 1019, 1020, 1021, 1022, 1023, 1024, 1025, 1026, 1038, 1039, 1040, 1072, 1073, 1074, 1075, 1066, 1067, 1068, 1069, 1070, 1071] (by decide +kernel) (by decide +kernel)) (goodIn_sub (fun _ h => List.mem_append_left _ (List.mem_append_right _ h)) (by decide +kernel))
set_option maxRecDepth 20000 in
theorem gL_law_L_send : GoodIn wsL_law (va_wsS RL 165 yL_send wsL_send) := goodIn_app (goodIn_of _ (by decide +kernel)) ggL_law_L_send
theorem dL_law_1325 : decode cL_law 1325 = .ok (.invokestatic 165, 3) := by decide +kernel
theorem dL_law_1328 : decode cL_law 1328 = .ok (.istore 5, 2) := by decide +kernel
theorem dL_law_1330 : decode cL_law 1330 = .ok (.aload_n 2, 1) := by decide +kernel
theorem dL_law_1331 : decode cL_law 1331 = .ok (.aload_n 0, 1) := by decide +kernel
theorem dL_law_1332 : decode cL_law 1332 = .ok (.iload 4, 2) := by decide +kernel
theorem dL_law_1334 : decode cL_law 1334 = .ok (.iconst 1, 1) := by decide +kernel
theorem dL_law_1335 : decode cL_law 1335 = .ok (.iadd, 1) := by decide +kernel
theorem dL_law_1336 : decode cL_law 1336 = .ok (.iaload, 1) := by decide +kernel
theorem dL_law_1337 : decode cL_law 1337 = .ok (.aload_n 0, 1) := by decide +kernel
theorem dL_law_1338 : decode cL_law 1338 = .ok (.iload 4, 2) := by decide +kernel
theorem dL_law_1340 : decode cL_law 1340 = .ok (.iconst 2, 1) := by decide +kernel
theorem dL_law_1341 : decode cL_law 1341 = .ok (.iadd, 1) := by decide +kernel
theorem dL_law_1342 : decode cL_law 1342 = .ok (.iaload, 1) := by decide +kernel
theorem dL_law_1343 : decode cL_law 1343 = .ok (.aload_n 0, 1) := by decide +kernel
theorem dL_law_1344 : decode cL_law 1344 = .ok (.iload 4, 2) := by decide +kernel
theorem dL_law_1346 : decode cL_law 1346 = .ok (.iconst 3, 1) := by decide +kernel
theorem dL_law_1347 : decode cL_law 1347 = .ok (.iadd, 1) := by decide +kernel
theorem dL_law_1348 : decode cL_law 1348 = .ok (.iaload, 1) := by decide +kernel
theorem dL_law_1349 : decode cL_law 1349 = .ok (.aload_n 0, 1) := by decide +kernel
theorem dL_law_1350 : decode cL_law 1350 = .ok (.iload 4, 2) := by decide +kernel
theorem dL_law_1352 : decode cL_law 1352 = .ok (.iconst 4, 1) := by decide +kernel
theorem dL_law_1353 : decode cL_law 1353 = .ok (.iadd, 1) := by decide +kernel
theorem dL_law_1354 : decode cL_law 1354 = .ok (.iaload, 1) := by decide +kernel
set_option maxRecDepth 20000 in
theorem ggL_law_X9_send : GoodIn wsL_law wsX9_send := goodIn_r _ [818, 38, 103, 99, 157, 158, 101, 294, 596, 597, 598, 5, 599, 156, 168, 169, 170, 161, 162, 163, 819, 820, 821, 822, 823, 102, 600, 601, 602, 603, 604, 605, 606, 98, 607, 112, 113, 824, 825, 826, 827, 239, 240, 241, 242, 828, 829, 830, 831, 1027, 1028, 1029, 1030, 1031, 1032, 1033, 1034, 1035, 1036, 1037, 1076, 1077, 1078, 1079, 1080, 1081] (by decide +kernel) (by decide +kernel)
set_option maxRecDepth 20000 in
theorem gL_law_X9_send : GoodIn wsL_law (wsV RL 167 RX9 yX9_send wsX9_send) := goodIn_app (goodIn_of _ (by decide +kernel)) ggL_law_X9_send
theorem dL_law_1355 : decode cL_law 1355 = .ok (.invokevirtual 167, 3) := by decide +kernel
theorem dL_law_1358 : decode cL_law 1358 = .ok (.istore 6, 2) := by decide +kernel
theorem dL_law_1360 : decode cL_law 1360 = .ok (.aload_n 2, 1) := by decide +kernel
theorem dL_law_1361 : decode cL_law 1361 = .ok (.invokevirtual 89, 3) := by decide +kernel
theorem dL_law_1364 : decode cL_law 1364 = .ok (.iload 5, 2) := by decide +kernel
theorem dL_law_1366 : decode cL_law 1366 = .ok (.if_icmp .eq 5, 3) := by decide +kernel
theorem dL_law_1371 : decode cL_law 1371 = .ok (.iload 5, 2) := by decide +kernel
theorem dL_law_1373 : decode cL_law 1373 = .ok (.ifCond .ne 15, 3) := by decide +kernel
theorem dL_law_1376 : decode cL_law 1376 = .ok (.aload_n 3, 1) := by decide +kernel
theorem dL_law_1377 : decode cL_law 1377 = .ok (.iconst 0, 1) := by decide +kernel
theorem dL_law_1378 : decode cL_law 1378 = .ok (.laload, 1) := by decide +kernel
theorem dL_law_1379 : decode cL_law 1379 = .ok (.iload 6, 2) := by decide +kernel
theorem dL_law_1381 : decode cL_law 1381 = .ok (.i2l, 1) := by decide +kernel
theorem dL_law_1382 : decode cL_law 1382 = .ok (.lcmp, 1) := by decide +kernel
theorem dL_law_1383 : decode cL_law 1383 = .ok (.ifCond .eq 5, 3) := by decide +kernel
theorem dL_law_1388 : decode cL_law 1388 = .ok (.goto 360, 3) := by decide +kernel
theorem dL_law_1005 : decode cL_law 1005 = .ok (.aload_n 1, 1) := by decide +kernel
set_option maxRecDepth 20000 in
theorem ggL_law_X7_nodes : GoodIn wsL_law wsX7_nodes := goodIn_r _ [611, 612, 613, 614, 615, 2, 616, 25, 29, 617, 618, 619, 24, 620, 621, 622, 623, 624, 625, 66, 67, 68, 69, 626, 328, 229, 329, 65, 627, 628, 629, 15, 630, 137, 45, 631, 589, 590, 47, 591, 51, 52, 632, 633, 634, 635, 636, 637, 638, 639, 640, 641, 28, 642, 643, 644, 74, 77, 645, 347, 348, 349, 350, 351, 352, 353, 142, 646, 647, 648, 75, 78, 649, 76, 650, 651, 652, 653, 365, 331, 332, 333, 654, 655, 656, 657, 658, 659, 660, 661, 662, 663, 664, 665, 666, 1052, 1053, 1054, 1055, 1056, 1057, 1058, 1019, 1020, 1021, 1022, 1023, 1024, 1025, 1026, 1046, 1047, 1048, 1049, 1050, 1051, 1038, 1039, 1040, 1072, 1073, 1074, 1075] (by decide +kernel) (by decide +kernel)
set_option maxRecDepth 20000 in
theorem gL_law_X7_nodes : GoodIn wsL_law (wsV RL 146 RX7 yX7_nodes wsX7_nodes) := goodIn_app (goodIn_of _ (by decide +kernel)) ggL_law_X7_nodes
theorem dL_law_1006 : decode cL_law 1006 = .ok (.invokevirtual 146, 3) := by decide +kernel
theorem dL_law_1009 : decode cL_law 1009 = .ok (.aload_n 2, 1) := by decide +kernel
set_option maxRecDepth 20000 in
theorem ggL_law_X9_nodes : GoodIn wsL_law wsX9_nodes := goodIn_r _ [670, 156, 671, 672, 673, 674, 5, 675, 99, 417, 418, 419, 98, 420, 252, 382, 383, 384, 385, 111, 676, 677, 678, 679, 104, 105, 38, 107, 239, 240, 241, 242, 429, 391, 392, 393, 112, 113, 394, 395, 396, 169, 170, 680, 398, 399, 168, 441, 405, 406, 407, 408, 328, 229, 329, 442, 410, 411, 412, 162, 163, 1027, 1028, 1029, 1030, 1031, 1032, 1033, 1034, 1035, 1036, 1037, 1076, 1077, 1078, 1079, 1080, 1081] (by decide +kernel) (by decide +kernel)
set_option maxRecDepth 20000 in
theorem gL_law_X9_nodes : GoodIn wsL_law (wsV RL 149 RX9 yX9_nodes wsX9_nodes) := goodIn_app (goodIn_of _ (by decide +kernel)) ggL_law_X9_nodes
theorem dL_law_1010 : decode cL_law 1010 = .ok (.invokevirtual 149, 3) := by decide +kernel
theorem dL_law_1013 : decode cL_law 1013 = .ok (.if_icmp .eq 735, 3) := by decide +kernel
theorem dL_law_1018 : decode cL_law 1018 = .ok (.aload_n 1, 1) := by decide +kernel
theorem dL_law_1019 : decode cL_law 1019 = .ok (.aload_n 0, 1) := by decide +kernel
theorem dL_law_1020 : decode cL_law 1020 = .ok (.iload 4, 2) := by decide +kernel
theorem dL_law_1022 : decode cL_law 1022 = .ok (.iconst 1, 1) := by decide +kernel
theorem dL_law_1023 : decode cL_law 1023 = .ok (.iadd, 1) := by decide +kernel
theorem dL_law_1024 : decode cL_law 1024 = .ok (.iaload, 1) := by decide +kernel
theorem dL_law_1025 : decode cL_law 1025 = .ok (.aload_n 0, 1) := by decide +kernel
theorem dL_law_1026 : decode cL_law 1026 = .ok (.iload 4, 2) := by decide +kernel
theorem dL_law_1028 : decode cL_law 1028 = .ok (.iconst 2, 1) := by decide +kernel
theorem dL_law_1029 : decode cL_law 1029 = .ok (.iadd, 1) := by decide +kernel
theorem dL_law_1030 : decode cL_law 1030 = .ok (.iaload, 1) := by decide +kernel
theorem dL_law_1031 : decode cL_law 1031 = .ok (.aload_n 3, 1) := by decide +kernel
set_option maxRecDepth 20000 in
theorem ggL_law_L_ofNode : GoodIn wsL_law wsL_ofNode := goodIn_ca (goodIn_ca (goodIn_r _ [683, 178, 119, 684, 685, 686, 2, 687, 613, 614, 615, 616, 25, 29, 617, 618, 619, 24, 620, 621, 622, 623, 624, 625, 66, 67, 68, 69, 626, 328, 229, 329, 65, 627, 628, 629, 15, 630, 137, 45, 631, 589, 590, 47, 591, 51, 52, 632, 633, 634, 635, 636, 637, 638, 639, 640, 641, 28, 642, 643, 644, 74, 77, 645, 347, 348, 349, 350, 351, 352, 353, 142, 646, 647, 648, 75, 78, 649, 76, 650, 651, 652, 653, 365, 331, 332, 333, 654, 655, 656, 657, 658, 659, 660, 661, 662, 663, 664, 665, 666, 688, 689, 690, 183, 184, 612, 463, 464, 465, 131, 132, 691, 692, 693, 694, 695, 696, 697, 698, 699, 700, 701, 702, 703, 704, 705, 706, 707, 708, 709, 1019, 1020, 1021, 1022, 1023, 1024, 1025, 1026, 1046, 1047, 1048, 1049, 1050, 1051, 1038, 1039, 1040, 1072, 1073, 1074, 1075, 1052, 1053, 1054, 1055, 1056, 1057, 1058] (by decide +kernel) (by decide +kernel)) (goodIn_sub (fun _ h => List.mem_append_right _ h) (by decide +kernel))) (goodIn_sub (fun _ h => List.mem_append_left _ (List.mem_append_right _ h)) (by decide +kernel))
set_option maxRecDepth 20000 in
theorem gL_law_L_ofNode : GoodIn wsL_law (va_wsS RL 150 yL_ofNode wsL_ofNode) := goodIn_app (goodIn_of _ (by decide +kernel)) ggL_law_L_ofNode
theorem dL_law_1032 : decode cL_law 1032 = .ok (.invokestatic 150, 3) := by decide +kernel
theorem dL_law_1035 : decode cL_law 1035 = .ok (.istore 5, 2) := by decide +kernel
theorem dL_law_1037 : decode cL_law 1037 = .ok (.aload_n 2, 1) := by decide +kernel
theorem dL_law_1038 : decode cL_law 1038 = .ok (.aload_n 0, 1) := by decide +kernel
theorem dL_law_1039 : decode cL_law 1039 = .ok (.iload 4, 2) := by decide +kernel
theorem dL_law_1041 : decode cL_law 1041 = .ok (.iconst 1, 1) := by decide +kernel
theorem dL_law_1042 : decode cL_law 1042 = .ok (.iadd, 1) := by decide +kernel
theorem dL_law_1043 : decode cL_law 1043 = .ok (.iaload, 1) := by decide +kernel
theorem dL_law_1044 : decode cL_law 1044 = .ok (.aload_n 0, 1) := by decide +kernel
theorem dL_law_1045 : decode cL_law 1045 = .ok (.iload 4, 2) := by decide +kernel
theorem dL_law_1047 : decode cL_law 1047 = .ok (.iconst 2, 1) := by decide +kernel
theorem dL_law_1048 : decode cL_law 1048 = .ok (.iadd, 1) := by decide +kernel
theorem dL_law_1049 : decode cL_law 1049 = .ok (.iaload, 1) := by decide +kernel
set_option maxRecDepth 20000 in
theorem ggL_law_X9_ofNode : GoodIn wsL_law wsX9_ofNode := goodIn_r _ [713, 156, 671, 672, 673, 674, 5, 675, 99, 417, 418, 419, 98, 420, 252, 382, 383, 384, 385, 111, 676, 677, 678, 679, 104, 105, 38, 107, 239, 240, 241, 242, 429, 391, 392, 393, 112, 113, 394, 395, 396, 169, 170, 680, 398, 399, 168, 441, 405, 406, 407, 408, 328, 229, 329, 442, 410, 411, 412, 162, 163, 161, 164, 165, 166, 167, 714, 715, 716, 717, 1027, 1028, 1029, 1030, 1031, 1032, 1033, 1034, 1035, 1036, 1037, 1076, 1077, 1078, 1079, 1080, 1081] (by decide +kernel) (by decide +kernel)
set_option maxRecDepth 20000 in
theorem gL_law_X9_ofNode : GoodIn wsL_law (wsV RL 152 RX9 yX9_ofNode wsX9_ofNode) := goodIn_app (goodIn_of _ (by decide +kernel)) ggL_law_X9_ofNode
theorem dL_law_1050 : decode cL_law 1050 = .ok (.invokevirtual 152, 3) := by decide +kernel
theorem dL_law_1053 : decode cL_law 1053 = .ok (.istore 6, 2) := by decide +kernel
theorem dL_law_1055 : decode cL_law 1055 = .ok (.aload_n 2, 1) := by decide +kernel
theorem dL_law_1056 : decode cL_law 1056 = .ok (.invokevirtual 89, 3) := by decide +kernel
theorem dL_law_1059 : decode cL_law 1059 = .ok (.iload 5, 2) := by decide +kernel
theorem dL_law_1061 : decode cL_law 1061 = .ok (.if_icmp .eq 5, 3) := by decide +kernel
theorem dL_law_1066 : decode cL_law 1066 = .ok (.iload 5, 2) := by decide +kernel
theorem dL_law_1068 : decode cL_law 1068 = .ok (.ifCond .ne 15, 3) := by decide +kernel
theorem dL_law_1083 : decode cL_law 1083 = .ok (.goto 665, 3) := by decide +kernel
theorem dL_law_1086 : decode cL_law 1086 = .ok (.aload_n 1, 1) := by decide +kernel
theorem dL_law_1087 : decode cL_law 1087 = .ok (.aload_n 0, 1) := by decide +kernel
theorem dL_law_1088 : decode cL_law 1088 = .ok (.iload 4, 2) := by decide +kernel
theorem dL_law_1090 : decode cL_law 1090 = .ok (.iconst 1, 1) := by decide +kernel
theorem dL_law_1091 : decode cL_law 1091 = .ok (.iadd, 1) := by decide +kernel
theorem dL_law_1092 : decode cL_law 1092 = .ok (.iaload, 1) := by decide +kernel
theorem dL_law_1093 : decode cL_law 1093 = .ok (.aload_n 0, 1) := by decide +kernel
theorem dL_law_1094 : decode cL_law 1094 = .ok (.iload 4, 2) := by decide +kernel
theorem dL_law_1096 : decode cL_law 1096 = .ok (.iconst 2, 1) := by decide +kernel
theorem dL_law_1097 : decode cL_law 1097 = .ok (.iadd, 1) := by decide +kernel
theorem dL_law_1098 : decode cL_law 1098 = .ok (.iaload, 1) := by decide +kernel
theorem dL_law_1099 : decode cL_law 1099 = .ok (.aload_n 0, 1) := by decide +kernel
theorem dL_law_1100 : decode cL_law 1100 = .ok (.iload 4, 2) := by decide +kernel
theorem dL_law_1102 : decode cL_law 1102 = .ok (.iconst 3, 1) := by decide +kernel
theorem dL_law_1103 : decode cL_law 1103 = .ok (.iadd, 1) := by decide +kernel
theorem dL_law_1104 : decode cL_law 1104 = .ok (.iaload, 1) := by decide +kernel
theorem dL_law_1105 : decode cL_law 1105 = .ok (.aload_n 3, 1) := by decide +kernel
set_option maxRecDepth 20000 in
theorem ggL_law_L_piece : GoodIn wsL_law wsL_piece := goodIn_ca (goodIn_ca (goodIn_r _ [720, 178, 119, 721, 722, 723, 2, 724, 183, 184, 25, 613, 614, 615, 616, 29, 617, 618, 619, 24, 620, 621, 622, 623, 624, 625, 66, 67, 68, 69, 626, 328, 229, 329, 65, 627, 628, 629, 15, 630, 137, 45, 631, 589, 590, 47, 591, 51, 52, 632, 633, 634, 635, 636, 637, 638, 639, 640, 641, 28, 642, 643, 644, 74, 77, 645, 347, 348, 349, 350, 351, 352, 353, 142, 646, 647, 648, 75, 78, 649, 76, 650, 651, 652, 653, 365, 331, 332, 333, 654, 655, 656, 657, 658, 659, 660, 661, 662, 663, 664, 665, 666, 688, 689, 690, 612, 725, 726, 727, 728, 703, 692, 693, 694, 704, 696, 697, 698, 705, 706, 707, 708, 709, 463, 464, 465, 131, 132, 691, 729, 695, 730, 731, 732, 733, 734, 735, 736, 737, 738, 739, 1019, 1020, 1021, 1022, 1023, 1024, 1025, 1026, 1046, 1047, 1048, 1049, 1050, 1051, 1038, 1039, 1040, 1072, 1073, 1074, 1075, 1052, 1053, 1054, 1055, 1056, 1057, 1058] (by decide +kernel) (by decide +kernel)) (goodIn_sub (fun _ h => List.mem_append_right _ h) (by decide +kernel))) (goodIn_sub (fun _ h => List.mem_append_left _ (List.mem_append_right _ h)) (by decide +kernel))
set_option maxRecDepth 20000 in
theorem gL_law_L_piece : GoodIn wsL_law (va_wsS RL 153 yL_piece wsL_piece) := goodIn_app (goodIn_of _ (by decide +kernel)) ggL_law_L_piece
theorem dL_law_1106 : decode cL_law 1106 = .ok (.invokestatic 153, 3) := by decide +kernel
theorem dL_law_1109 : decode cL_law 1109 = .ok (.istore 5, 2) := by decide +kernel
theorem dL_law_1111 : decode cL_law 1111 = .ok (.aload_n 2, 1) := by decide +kernel
theorem dL_law_1112 : decode cL_law 1112 = .ok (.aload_n 0, 1) := by decide +kernel
theorem dL_law_1113 : decode cL_law 1113 = .ok (.iload 4, 2) := by decide +kernel
theorem dL_law_1115 : decode cL_law 1115 = .ok (.iconst 1, 1) := by decide +kernel
theorem dL_law_1116 : decode cL_law 1116 = .ok (.iadd, 1) := by decide +kernel
theorem dL_law_1117 : decode cL_law 1117 = .ok (.iaload, 1) := by decide +kernel
theorem dL_law_1118 : decode cL_law 1118 = .ok (.aload_n 0, 1) := by decide +kernel
theorem dL_law_1119 : decode cL_law 1119 = .ok (.iload 4, 2) := by decide +kernel
theorem dL_law_1121 : decode cL_law 1121 = .ok (.iconst 2, 1) := by decide +kernel
theorem dL_law_1122 : decode cL_law 1122 = .ok (.iadd, 1) := by decide +kernel
theorem dL_law_1123 : decode cL_law 1123 = .ok (.iaload, 1) := by decide +kernel
theorem dL_law_1124 : decode cL_law 1124 = .ok (.aload_n 0, 1) := by decide +kernel
theorem dL_law_1125 : decode cL_law 1125 = .ok (.iload 4, 2) := by decide +kernel
theorem dL_law_1127 : decode cL_law 1127 = .ok (.iconst 3, 1) := by decide +kernel
theorem dL_law_1128 : decode cL_law 1128 = .ok (.iadd, 1) := by decide +kernel
theorem dL_law_1129 : decode cL_law 1129 = .ok (.iaload, 1) := by decide +kernel
set_option maxRecDepth 20000 in
theorem ggL_law_X9_piece : GoodIn wsL_law wsX9_piece := goodIn_r _ [743, 156, 671, 107, 672, 673, 674, 5, 675, 99, 417, 418, 419, 98, 420, 252, 382, 383, 384, 385, 111, 676, 677, 678, 679, 104, 105, 38, 239, 240, 241, 242, 429, 391, 392, 393, 112, 113, 394, 395, 396, 169, 170, 680, 398, 399, 168, 441, 405, 406, 407, 408, 328, 229, 329, 442, 410, 411, 412, 162, 163, 161, 164, 165, 166, 167, 1027, 1028, 1029, 1030, 1031, 1032, 1033, 1034, 1035, 1036, 1037, 1076, 1077, 1078, 1079, 1080, 1081] (by decide +kernel) (by decide +kernel)
set_option maxRecDepth 20000 in
theorem gL_law_X9_piece : GoodIn wsL_law (wsV RL 156 RX9 yX9_piece wsX9_piece) := goodIn_app (goodIn_of _ (by decide +kernel)) ggL_law_X9_piece
theorem dL_law_1130 : decode cL_law 1130 = .ok (.invokevirtual 156, 3) := by decide +kernel
theorem dL_law_1133 : decode cL_law 1133 = .ok (.istore 6, 2) := by decide +kernel
theorem dL_law_1135 : decode cL_law 1135 = .ok (.aload_n 2, 1) := by decide +kernel
theorem dL_law_1136 : decode cL_law 1136 = .ok (.invokevirtual 89, 3) := by decide +kernel
theorem dL_law_1139 : decode cL_law 1139 = .ok (.iload 5, 2) := by decide +kernel
theorem dL_law_1141 : decode cL_law 1141 = .ok (.if_icmp .eq 5, 3) := by decide +kernel
theorem dL_law_1146 : decode cL_law 1146 = .ok (.iload 5, 2) := by decide +kernel
theorem dL_law_1148 : decode cL_law 1148 = .ok (.ifCond .ne 15, 3) := by decide +kernel
theorem dL_law_1163 : decode cL_law 1163 = .ok (.goto 585, 3) := by decide +kernel
theorem dL_law_1258 : decode cL_law 1258 = .ok (.aload_n 1, 1) := by decide +kernel
set_option maxRecDepth 20000 in
theorem ggL_law_X7_meanSteps : GoodIn wsL_law wsX7_meanSteps := goodIn_r _ [761, 762, 613, 614, 615, 2, 616, 25, 29, 617, 618, 619, 24, 620, 621, 622, 623, 624, 625, 66, 67, 68, 69, 626, 328, 229, 329, 65, 627, 628, 629, 15, 630, 137, 45, 631, 589, 590, 47, 591, 51, 52, 632, 633, 634, 635, 636, 637, 638, 639, 640, 641, 28, 642, 643, 644, 74, 77, 645, 347, 348, 349, 350, 351, 352, 353, 142, 646, 647, 648, 75, 78, 649, 76, 650, 651, 652, 653, 365, 331, 332, 333, 654, 655, 656, 657, 658, 659, 660, 661, 662, 663, 664, 665, 666, 763, 764, 765, 766, 1019, 1020, 1021, 1022, 1023, 1024, 1025, 1026, 1046, 1047, 1048, 1049, 1050, 1051, 1038, 1039, 1040, 1072, 1073, 1074, 1075, 1052, 1053, 1054, 1055, 1056, 1057, 1058] (by decide +kernel) (by decide +kernel)
set_option maxRecDepth 20000 in
theorem gL_law_X7_meanSteps : GoodIn wsL_law (wsV RL 160 RX7 yX7_meanSteps wsX7_meanSteps) := goodIn_app (goodIn_of _ (by decide +kernel)) ggL_law_X7_meanSteps
theorem dL_law_1259 : decode cL_law 1259 = .ok (.invokevirtual 160, 3) := by decide +kernel
theorem dL_law_1262 : decode cL_law 1262 = .ok (.dstore 5, 2) := by decide +kernel
theorem dL_law_1264 : decode cL_law 1264 = .ok (.aload_n 2, 1) := by decide +kernel
set_option maxRecDepth 20000 in
theorem ggL_law_X9_meanSteps : GoodIn wsL_law wsX9_meanSteps := goodIn_r _ [770, 156, 99, 417, 418, 419, 98, 420, 252, 382, 383, 384, 385, 111, 771, 772, 773, 774, 390, 391, 392, 393, 112, 113, 394, 395, 396, 169, 5, 170, 400, 401, 402, 403, 404, 405, 406, 407, 408, 328, 229, 329, 409, 410, 411, 412, 162, 163, 775, 440, 1027, 1028, 1029, 1030, 1031, 1032, 1033, 1034, 1035, 1036, 1037, 1076, 1077, 1078, 1079, 1080, 1081] (by decide +kernel) (by decide +kernel)
set_option maxRecDepth 20000 in
theorem gL_law_X9_meanSteps : GoodIn wsL_law (wsV RL 164 RX9 yX9_meanSteps wsX9_meanSteps) := goodIn_app (goodIn_of _ (by decide +kernel)) ggL_law_X9_meanSteps
theorem dL_law_1265 : decode cL_law 1265 = .ok (.invokevirtual 164, 3) := by decide +kernel
theorem dL_law_1268 : decode cL_law 1268 = .ok (.dstore 7, 2) := by decide +kernel
theorem dL_law_1270 : decode cL_law 1270 = .ok (.dload 5, 2) := by decide +kernel
theorem dL_law_1272 : decode cL_law 1272 = .ok (.dload 7, 2) := by decide +kernel
theorem dL_law_1274 : decode cL_law 1274 = .ok (.dcmp .l, 1) := by decide +kernel
theorem dL_law_1275 : decode cL_law 1275 = .ok (.ifCond .eq 21, 3) := by decide +kernel
theorem dL_law_1296 : decode cL_law 1296 = .ok (.goto 452, 3) := by decide +kernel
set_option maxHeartbeats 4000000 in
set_option maxRecDepth 100000 in
theorem z_case15 {p : Program} {l : Launch} {e : Env} {s : State} {m : MethodId} {below : List Frame} {meth : Method} {c : Code} {A : Nat → Prop} {H : Heap} {locs : List Loc} {ls : Array Slot} {G : zG} {b : Nat} {xs : Nat → Int32} (hx : p.tables.exec = Jvm.exec) (hb : c.code = code) (hr : meth.sig.returnType = ret) (hml : c.maxLocals = 9) (hown : s.vm.findClass RL = some m.cls) (hts : ∀ w ∈ wsL_law, w.before #[Value.ref b] s = true) (hX : va_X b 5 xs s s.heap) (hbl : b < s.heap.size) (hlocks : meth.locks = false) (hl0 : l.stackTraces = false) (hA : ∀ q : Nat, s.heap.size ≤ q → A q) (hA2 : ∀ q : Nat, A q → s.heap.size ≤ q) (hbA : ¬ A b) (hE : zZ G A s s.heap) {x : Nat} {wa : Nat} {wb : Nat} {su : Nat} {cu : Nat} {tr : Nat} {co : Nat} {lo : Nat} {pk : Nat} {ro : Nat} {ou : Nat} {fp : Nat → Int32} {mm : Nat} {nw : Nat} {cq : Nat} {hi : Nat} {ko : Nat} {se : Nat} {nf : Nat} {ns : Nat} {pi : Nat} {vd : Nat} {lw : Nat} {hg : Nat} {rk : Nat} (v1 : Int32) (e1 : xs 1 = v1) (v2 : Int32) (e2 : xs 2 = v2) (v3 : Int32) (e3 : xs 3 = v3) (v4 : Int32) (e4 : xs 4 = v4) (hP : va_P G.1 vwCl [(x, .inr (7, [.ref wa, .ref wb, .ref su, .ref cu, .ref tr, .ref co, .ref lo, .ref pk])), (pk, .inl (G.2.1, 4, .inl (fp))), (wa, .inr (6, [.ref ro, .int 0, .int 0])), (ou, .inl (G.2.2.2.1, 1, .inr (.inl (fun _ => 0)))), (mm, .inr (9, [.int 0, .ref nw, .ref cq, .ref hi, .int 0, .ref ko, .ref se, .int 0, .ref nf, .ref ns, .ref pi])), (nw, .inr (8, [.int 0, .int 0, .ref vd, .ref lw, .ref hg, .ref rk]))] H) (hD : va_D A [(x, .inr (7, [.ref wa, .ref wb, .ref su, .ref cu, .ref tr, .ref co, .ref lo, .ref pk])), (pk, .inl (G.2.1, 4, .inl (fp))), (wa, .inr (6, [.ref ro, .int 0, .int 0])), (ou, .inl (G.2.2.2.1, 1, .inr (.inl (fun _ => 0)))), (mm, .inr (9, [.int 0, .ref nw, .ref cq, .ref hi, .int 0, .ref ko, .ref se, .int 0, .ref nf, .ref ns, .ref pi])), (nw, .inr (8, [.int 0, .int 0, .ref vd, .ref lw, .ref hg, .ref rk]))]) (hS : va_S A s.heap H locs) (hl : lv_has ls 9 [(4, .int 0), (3, .ref ou), (2, .ref mm), (1, .ref x), (0, .ref b)]) : W p l e room_1 s m #[Value.ref b] below meth c H locs 89 9213 (lw_Z below #[Value.ref b] s) (F0 m 913 ls []) := by
  rcases zOk_or v1 v2 v3 v4 with h1 | h1
  · refine lv_aload_n hx hb dL_law_913 rfl (lv_at hl 3 rfl) ?_
    refine lv_aload_n hx hb dL_law_914 rfl (lv_at hl 4 rfl) ?_
    refine lv_iload hx hb dL_law_915 (lv_at hl 0 rfl) ?_
    refine lv_iconst (v := 1) hx hb dL_law_917 (by decide) ?_
    refine lv_iadd hx hb dL_law_918 ?_
    refine zti (v := 1) (by decide) ?_
    refine va_sld hx hb hX hbl hbA hS (zin (by decide +kernel)) dL_law_919 ?_
    refine zti (v := v1) e1 ?_
    refine lv_aload_n hx hb dL_law_920 rfl (lv_at hl 4 rfl) ?_
    refine lv_iload hx hb dL_law_921 (lv_at hl 0 rfl) ?_
    refine lv_iconst (v := 2) hx hb dL_law_923 (by decide) ?_
    refine lv_iadd hx hb dL_law_924 ?_
    refine zti (v := 2) (by decide) ?_
    refine va_sld hx hb hX hbl hbA hS (zin (by decide +kernel)) dL_law_925 ?_
    refine zti (v := v2) e2 ?_
    refine lv_aload_n hx hb dL_law_926 rfl (lv_at hl 4 rfl) ?_
    refine lv_iload hx hb dL_law_927 (lv_at hl 0 rfl) ?_
    refine lv_iconst (v := 3) hx hb dL_law_929 (by decide) ?_
    refine lv_iadd hx hb dL_law_930 ?_
    refine zti (v := 3) (by decide) ?_
    refine va_sld hx hb hX hbl hbA hS (zin (by decide +kernel)) dL_law_931 ?_
    refine zti (v := v3) e3 ?_
    refine lv_aload_n hx hb dL_law_932 rfl (lv_at hl 4 rfl) ?_
    refine lv_iload hx hb dL_law_933 (lv_at hl 0 rfl) ?_
    refine lv_iconst (v := 4) hx hb dL_law_935 (by decide) ?_
    refine lv_iadd hx hb dL_law_936 ?_
    refine zti (v := 4) (by decide) ?_
    refine va_sld hx hb hX hbl hbA hS (zin (by decide +kernel)) dL_law_937 ?_
    refine zti (v := v4) e4 ?_
    refine lv_aload_n hx hb dL_law_938 rfl (lv_at hl 1 rfl) ?_
    refine zcall (wr := [(mm, .inr (9, [.int 0, .ref nw, .ref cq, .ref hi, .int 0, .ref ko, .ref se, .int 0, .ref nf, .ref ns, .ref pi])), (nw, .inr (8, [.int 0, .int 0, .ref vd, .ref lw, .ref hg, .ref rk]))]) (zrunH (vx_runSX (As := [.ref x, .int v1, .int v2, .int v3, .int v4, .ref ou]) (rest := []) ⟨hx, hb, hml, hown, hts⟩ (z_L_decider l G x wa wb su cu tr co lo pk ro v1 v2 v3 v4 (fp) ou (fun _ => 0) h1 H.size) (vx_cwSW 6 hts gL_law_L_decider rfl rfl rfl (by decide +kernel) ⟨Nat.le_of_ble_eq_true rfl, Nat.le_of_ble_eq_true rfl⟩) (zPre (Wc := [(x, .inr (7, [.ref wa, .ref wb, .ref su, .ref cu, .ref tr, .ref co, .ref lo, .ref pk])), (pk, .inl (G.2.1, 4, .inl (fp))), (wa, .inr (6, [.ref ro, .int 0, .int 0])), (ou, .inl (G.2.2.2.1, 1, .inr (.inl (fun _ => 0))))]) hP hD hE hS hA [0, 1, 2, 3] rfl (by decide)) rfl rfl hl.1 rfl (lv_room (Nat.le_of_ble_eq_true rfl)) dL_law_939 ⟨Nat.le_of_ble_eq_true rfl, Nat.le_of_ble_eq_true rfl⟩)) hP hD hS hA [0, 1, 2, 3] [4, 5] rfl rfl (by decide) (by decide) (fun u1 H locs hP hD hS => ?_)
    have hP : va_P G.1 vwCl [(mm, .inr (9, [.int 0, .ref nw, .ref cq, .ref hi, .int 0, .ref ko, .ref se, .int 0, .ref nf, .ref ns, .ref pi])), (nw, .inr (8, [.int 0, .int 0, .ref vd, .ref lw, .ref hg, .ref rk])), (ou, .inl (G.2.2.2.1, 1, .inr (.inl (vp_updL (fun _ => 0) 0 (-1))))), (wa, .inr (6, [.ref ro, .int 0, .int 0])), (x, .inr (7, [.ref wa, .ref wb, .ref su, .ref cu, .ref tr, .ref co, .ref lo, .ref pk])), (pk, .inl (G.2.1, 4, .inl (upd (upd (upd (upd fp 0 v1) 1 v2) 2 v3) 3 v4)))] H := hP
    have hD : va_D A [(mm, .inr (9, [.int 0, .ref nw, .ref cq, .ref hi, .int 0, .ref ko, .ref se, .int 0, .ref nf, .ref ns, .ref pi])), (nw, .inr (8, [.int 0, .int 0, .ref vd, .ref lw, .ref hg, .ref rk])), (ou, .inl (G.2.2.2.1, 1, .inr (.inl (vp_updL (fun _ => 0) 0 (-1))))), (wa, .inr (6, [.ref ro, .int 0, .int 0])), (x, .inr (7, [.ref wa, .ref wb, .ref su, .ref cu, .ref tr, .ref co, .ref lo, .ref pk])), (pk, .inl (G.2.1, 4, .inl (upd (upd (upd (upd fp 0 v1) 1 v2) 2 v3) 3 v4)))] := hD
    refine W.eq (g2 := F0 m 942 ls [.int 0]) rfl ?_
    refine lv_istore (lv' := [(5, .int 0), (4, .int 0), (3, .ref ou), (2, .ref mm), (1, .ref x), (0, .ref b)]) hx hb dL_law_942 hl (by decide) rfl (fun ls hl => ?_)
    refine lv_aload_n hx hb dL_law_944 rfl (lv_at hl 3 rfl) ?_
    refine lv_aload_n hx hb dL_law_945 rfl (lv_at hl 5 rfl) ?_
    refine lv_iload hx hb dL_law_946 (lv_at hl 1 rfl) ?_
    refine lv_iconst (v := 1) hx hb dL_law_948 (by decide) ?_
    refine lv_iadd hx hb dL_law_949 ?_
    refine zti (v := 1) (by decide) ?_
    refine va_sld hx hb hX hbl hbA hS (zin (by decide +kernel)) dL_law_950 ?_
    refine zti (v := v1) e1 ?_
    refine lv_aload_n hx hb dL_law_951 rfl (lv_at hl 5 rfl) ?_
    refine lv_iload hx hb dL_law_952 (lv_at hl 1 rfl) ?_
    refine lv_iconst (v := 2) hx hb dL_law_954 (by decide) ?_
    refine lv_iadd hx hb dL_law_955 ?_
    refine zti (v := 2) (by decide) ?_
    refine va_sld hx hb hX hbl hbA hS (zin (by decide +kernel)) dL_law_956 ?_
    refine zti (v := v2) e2 ?_
    refine lv_aload_n hx hb dL_law_957 rfl (lv_at hl 5 rfl) ?_
    refine lv_iload hx hb dL_law_958 (lv_at hl 1 rfl) ?_
    refine lv_iconst (v := 3) hx hb dL_law_960 (by decide) ?_
    refine lv_iadd hx hb dL_law_961 ?_
    refine zti (v := 3) (by decide) ?_
    refine va_sld hx hb hX hbl hbA hS (zin (by decide +kernel)) dL_law_962 ?_
    refine zti (v := v3) e3 ?_
    refine lv_aload_n hx hb dL_law_963 rfl (lv_at hl 5 rfl) ?_
    refine lv_iload hx hb dL_law_964 (lv_at hl 1 rfl) ?_
    refine lv_iconst (v := 4) hx hb dL_law_966 (by decide) ?_
    refine lv_iadd hx hb dL_law_967 ?_
    refine zti (v := 4) (by decide) ?_
    refine va_sld hx hb hX hbl hbA hS (zin (by decide +kernel)) dL_law_968 ?_
    refine zti (v := v4) e4 ?_
    refine zcall (wr := [(ou, .inl (G.2.2.2.1, 1, .inr (.inl (vp_updL (fun _ => 0) 0 (-1))))), (wa, .inr (6, [.ref ro, .int 0, .int 0])), (x, .inr (7, [.ref wa, .ref wb, .ref su, .ref cu, .ref tr, .ref co, .ref lo, .ref pk])), (pk, .inl (G.2.1, 4, .inl (upd (upd (upd (upd fp 0 v1) 1 v2) 2 v3) 3 v4)))]) (va_runV (As := [.int v1, .int v2, .int v3, .int v4]) (rest := []) ⟨hx, hb, hml, hown, hts⟩ (z_X9_decider l G mm nw cq hi ko se nf ns pi 0 vd lw hg rk v1 v2 v3 v4 h1 H.size) (cwV 4 hts gL_law_X9_decider rfl rfl rfl (by decide +kernel) ⟨Nat.le_of_ble_eq_true rfl, Nat.le_of_ble_eq_true rfl⟩) (zPreV (Wc := [(mm, .inr (9, [.int 0, .ref nw, .ref cq, .ref hi, .int 0, .ref ko, .ref se, .int 0, .ref nf, .ref ns, .ref pi])), (nw, .inr (8, [.int 0, .int 0, .ref vd, .ref lw, .ref hg, .ref rk]))]) (q0 := 0) (ci := 9) (q := (RX9, TX9, 11)) hP hD hE hS hA [0, 1] rfl (by decide) rfl rfl) rfl rfl hl.1 rfl (lv_room (Nat.le_of_ble_eq_true rfl)) dL_law_969 ⟨Nat.le_of_ble_eq_true rfl, Nat.le_of_ble_eq_true rfl⟩) hP hD hS hA [0, 1] [2, 3, 4, 5] rfl rfl (by decide) (by decide) (fun u2 H locs hP hD hS => ?_)
    have hP : va_P G.1 vwCl [(ou, .inl (G.2.2.2.1, 1, .inr (.inl (vp_updL (fun _ => 0) 0 (-1))))), (wa, .inr (6, [.ref ro, .int 0, .int 0])), (x, .inr (7, [.ref wa, .ref wb, .ref su, .ref cu, .ref tr, .ref co, .ref lo, .ref pk])), (pk, .inl (G.2.1, 4, .inl (upd (upd (upd (upd fp 0 v1) 1 v2) 2 v3) 3 v4))), (mm, .inr (9, [.int 0, .ref nw, .ref cq, .ref hi, .int 0, .ref ko, .ref se, .int 0, .ref nf, .ref ns, .ref pi])), (nw, .inr (8, [.int 0, .int 0, .ref vd, .ref lw, .ref hg, .ref rk]))] H := hP
    have hD : va_D A [(ou, .inl (G.2.2.2.1, 1, .inr (.inl (vp_updL (fun _ => 0) 0 (-1))))), (wa, .inr (6, [.ref ro, .int 0, .int 0])), (x, .inr (7, [.ref wa, .ref wb, .ref su, .ref cu, .ref tr, .ref co, .ref lo, .ref pk])), (pk, .inl (G.2.1, 4, .inl (upd (upd (upd (upd fp 0 v1) 1 v2) 2 v3) 3 v4))), (mm, .inr (9, [.int 0, .ref nw, .ref cq, .ref hi, .int 0, .ref ko, .ref se, .int 0, .ref nf, .ref ns, .ref pi])), (nw, .inr (8, [.int 0, .int 0, .ref vd, .ref lw, .ref hg, .ref rk]))] := hD
    refine W.eq (g2 := F0 m 972 ls [.int (-1)]) rfl ?_
    refine lv_istore (lv' := [(6, .int (-1)), (5, .int 0), (4, .int 0), (3, .ref ou), (2, .ref mm), (1, .ref x), (0, .ref b)]) hx hb dL_law_972 hl (by decide) rfl (fun ls hl => ?_)
    refine lv_aload_n hx hb dL_law_974 rfl (lv_at hl 4 rfl) ?_
    refine zcall (wr := [(ou, .inl (G.2.2.2.1, 1, .inr (.inl (vp_updL (fun _ => 0) 0 (-1))))), (wa, .inr (6, [.ref ro, .int 0, .int 0])), (x, .inr (7, [.ref wa, .ref wb, .ref su, .ref cu, .ref tr, .ref co, .ref lo, .ref pk])), (pk, .inl (G.2.1, 4, .inl (upd (upd (upd (upd fp 0 v1) 1 v2) 2 v3) 3 v4))), (nw, .inr (8, [.int 0, .int 0, .ref vd, .ref lw, .ref hg, .ref rk]))]) (va_runV (As := []) (rest := []) ⟨hx, hb, hml, hown, hts⟩ (z_X9_thrown l G mm nw cq hi ko se nf ns pi 0 H.size) (cwV 0 hts gL_law_X9_thrown rfl rfl rfl (by decide +kernel) ⟨Nat.le_of_ble_eq_true rfl, Nat.le_of_ble_eq_true rfl⟩) (zPreV (Wc := [(mm, .inr (9, [.int 0, .ref nw, .ref cq, .ref hi, .int 0, .ref ko, .ref se, .int 0, .ref nf, .ref ns, .ref pi]))]) (q0 := 4) (ci := 9) (q := (RX9, TX9, 11)) hP hD hE hS hA [4] rfl (by decide) rfl rfl) rfl rfl hl.1 rfl (lv_room (Nat.le_of_ble_eq_true rfl)) dL_law_975 ⟨Nat.le_of_ble_eq_true rfl, Nat.le_of_ble_eq_true rfl⟩) hP hD hS hA [4] [0, 1, 2, 3, 5] rfl rfl (by decide) (by decide) (fun u3 H locs hP hD hS => ?_)
    have hP : va_P G.1 vwCl [(ou, .inl (G.2.2.2.1, 1, .inr (.inl (vp_updL (fun _ => 0) 0 (-1))))), (wa, .inr (6, [.ref ro, .int 0, .int 0])), (x, .inr (7, [.ref wa, .ref wb, .ref su, .ref cu, .ref tr, .ref co, .ref lo, .ref pk])), (pk, .inl (G.2.1, 4, .inl (upd (upd (upd (upd fp 0 v1) 1 v2) 2 v3) 3 v4))), (nw, .inr (8, [.int 0, .int 0, .ref vd, .ref lw, .ref hg, .ref rk])), (mm, .inr (9, [.int 0, .ref nw, .ref cq, .ref hi, .int 0, .ref ko, .ref se, .int 0, .ref nf, .ref ns, .ref pi]))] H := hP
    have hD : va_D A [(ou, .inl (G.2.2.2.1, 1, .inr (.inl (vp_updL (fun _ => 0) 0 (-1))))), (wa, .inr (6, [.ref ro, .int 0, .int 0])), (x, .inr (7, [.ref wa, .ref wb, .ref su, .ref cu, .ref tr, .ref co, .ref lo, .ref pk])), (pk, .inl (G.2.1, 4, .inl (upd (upd (upd (upd fp 0 v1) 1 v2) 2 v3) 3 v4))), (nw, .inr (8, [.int 0, .int 0, .ref vd, .ref lw, .ref hg, .ref rk])), (mm, .inr (9, [.int 0, .ref nw, .ref cq, .ref hi, .int 0, .ref ko, .ref se, .int 0, .ref nf, .ref ns, .ref pi]))] := hD
    refine W.eq (g2 := F0 m 978 ls [.int 0]) rfl ?_
    refine lv_iload hx hb dL_law_978 (lv_at hl 1 rfl) ?_
    refine lv_icmp_eq (tgt := 985) hx hb dL_law_980 (by decide) (fun _ => ?_) (fun h9 => absurd (by decide) h9)
    refine lv_iload hx hb dL_law_985 (lv_at hl 1 rfl) ?_
    refine lv_if_ne (tgt := 1002) hx hb dL_law_987 (by decide) (fun h9 => absurd (by decide) h9) (fun _ => ?_)
    refine lv_aload_n hx hb dL_law_990 rfl (lv_at hl 3 rfl) ?_
    refine lv_iconst (v := 0) hx hb dL_law_991 (by decide) ?_
    refine va_lald hx hb hE.1 hP 0 2 rfl rfl (zin (by decide +kernel)) dL_law_992 ?_
    refine ztl (v := (-1)) rfl ?_
    refine lv_iload hx hb dL_law_993 (lv_at hl 0 rfl) ?_
    refine lv_i2l (v := (-1)) hx hb dL_law_995 (by decide) ?_
    refine W.lcmp hx hb dL_law_996 ?_
    refine zti (v := 0) (by decide) ?_
    refine lv_if_eq (tgt := 1002) hx hb dL_law_997 (by decide) (fun _ => ?_) (fun h9 => absurd (by decide) h9)
    refine lv_goto (tgt := 1748) hx hb dL_law_1002 (by decide) ?_
    exact z_lawend hx hb hr hml hown hts hX hbl hlocks hl0 hA hA2 hbA hE (Nat.le_of_ble_eq_true rfl) (Nat.le_of_ble_eq_true rfl) hS (lv_sub hl [2, 6] rfl)
  · refine lv_aload_n hx hb dL_law_913 rfl (lv_at hl 3 rfl) ?_
    refine lv_aload_n hx hb dL_law_914 rfl (lv_at hl 4 rfl) ?_
    refine lv_iload hx hb dL_law_915 (lv_at hl 0 rfl) ?_
    refine lv_iconst (v := 1) hx hb dL_law_917 (by decide) ?_
    refine lv_iadd hx hb dL_law_918 ?_
    refine zti (v := 1) (by decide) ?_
    refine va_sld hx hb hX hbl hbA hS (zin (by decide +kernel)) dL_law_919 ?_
    refine zti (v := v1) e1 ?_
    refine lv_aload_n hx hb dL_law_920 rfl (lv_at hl 4 rfl) ?_
    refine lv_iload hx hb dL_law_921 (lv_at hl 0 rfl) ?_
    refine lv_iconst (v := 2) hx hb dL_law_923 (by decide) ?_
    refine lv_iadd hx hb dL_law_924 ?_
    refine zti (v := 2) (by decide) ?_
    refine va_sld hx hb hX hbl hbA hS (zin (by decide +kernel)) dL_law_925 ?_
    refine zti (v := v2) e2 ?_
    refine lv_aload_n hx hb dL_law_926 rfl (lv_at hl 4 rfl) ?_
    refine lv_iload hx hb dL_law_927 (lv_at hl 0 rfl) ?_
    refine lv_iconst (v := 3) hx hb dL_law_929 (by decide) ?_
    refine lv_iadd hx hb dL_law_930 ?_
    refine zti (v := 3) (by decide) ?_
    refine va_sld hx hb hX hbl hbA hS (zin (by decide +kernel)) dL_law_931 ?_
    refine zti (v := v3) e3 ?_
    refine lv_aload_n hx hb dL_law_932 rfl (lv_at hl 4 rfl) ?_
    refine lv_iload hx hb dL_law_933 (lv_at hl 0 rfl) ?_
    refine lv_iconst (v := 4) hx hb dL_law_935 (by decide) ?_
    refine lv_iadd hx hb dL_law_936 ?_
    refine zti (v := 4) (by decide) ?_
    refine va_sld hx hb hX hbl hbA hS (zin (by decide +kernel)) dL_law_937 ?_
    refine zti (v := v4) e4 ?_
    refine lv_aload_n hx hb dL_law_938 rfl (lv_at hl 1 rfl) ?_
    refine zcall (wr := [(pk, .inl (G.2.1, 4, .inl (fp))), (wa, .inr (6, [.ref ro, .int 0, .int 0])), (ou, .inl (G.2.2.2.1, 1, .inr (.inl (fun _ => 0)))), (mm, .inr (9, [.int 0, .ref nw, .ref cq, .ref hi, .int 0, .ref ko, .ref se, .int 0, .ref nf, .ref ns, .ref pi])), (nw, .inr (8, [.int 0, .int 0, .ref vd, .ref lw, .ref hg, .ref rk]))]) (zrunH (vx_runSX (As := [.ref x, .int v1, .int v2, .int v3, .int v4, .ref ou]) (rest := []) ⟨hx, hb, hml, hown, hts⟩ (z_L_deciderT l G x wa wb su cu tr co lo pk v1 v2 v3 v4 ou hl0 h1 H.size) (vx_cwSW 6 hts gL_law_L_decider rfl rfl rfl (by decide +kernel) ⟨Nat.le_of_ble_eq_true rfl, Nat.le_of_ble_eq_true rfl⟩) (zPre (Wc := [(x, .inr (7, [.ref wa, .ref wb, .ref su, .ref cu, .ref tr, .ref co, .ref lo, .ref pk]))]) hP hD hE hS hA [0] rfl (by decide)) rfl rfl hl.1 rfl (lv_room (Nat.le_of_ble_eq_true rfl)) dL_law_939 ⟨Nat.le_of_ble_eq_true rfl, Nat.le_of_ble_eq_true rfl⟩)) hP hD hS hA [0] [1, 2, 3, 4, 5] rfl rfl (by decide) (by decide) (fun u1 H locs hP hD hS => ?_)
    have hP : va_P G.1 vwCl [(pk, .inl (G.2.1, 4, .inl (fp))), (wa, .inr (6, [.ref ro, .int 0, .int 0])), (ou, .inl (G.2.2.2.1, 1, .inr (.inl (fun _ => 0)))), (mm, .inr (9, [.int 0, .ref nw, .ref cq, .ref hi, .int 0, .ref ko, .ref se, .int 0, .ref nf, .ref ns, .ref pi])), (nw, .inr (8, [.int 0, .int 0, .ref vd, .ref lw, .ref hg, .ref rk])), (x, .inr (7, [.ref wa, .ref wb, .ref su, .ref cu, .ref tr, .ref co, .ref lo, .ref pk]))] H := hP
    have hD : va_D A [(pk, .inl (G.2.1, 4, .inl (fp))), (wa, .inr (6, [.ref ro, .int 0, .int 0])), (ou, .inl (G.2.2.2.1, 1, .inr (.inl (fun _ => 0)))), (mm, .inr (9, [.int 0, .ref nw, .ref cq, .ref hi, .int 0, .ref ko, .ref se, .int 0, .ref nf, .ref ns, .ref pi])), (nw, .inr (8, [.int 0, .int 0, .ref vd, .ref lw, .ref hg, .ref rk])), (x, .inr (7, [.ref wa, .ref wb, .ref su, .ref cu, .ref tr, .ref co, .ref lo, .ref pk]))] := hD
    refine W.eq (g2 := F0 m 942 ls [.int 1]) rfl ?_
    refine lv_istore (lv' := [(5, .int 1), (4, .int 0), (3, .ref ou), (2, .ref mm), (1, .ref x), (0, .ref b)]) hx hb dL_law_942 hl (by decide) rfl (fun ls hl => ?_)
    refine lv_aload_n hx hb dL_law_944 rfl (lv_at hl 3 rfl) ?_
    refine lv_aload_n hx hb dL_law_945 rfl (lv_at hl 5 rfl) ?_
    refine lv_iload hx hb dL_law_946 (lv_at hl 1 rfl) ?_
    refine lv_iconst (v := 1) hx hb dL_law_948 (by decide) ?_
    refine lv_iadd hx hb dL_law_949 ?_
    refine zti (v := 1) (by decide) ?_
    refine va_sld hx hb hX hbl hbA hS (zin (by decide +kernel)) dL_law_950 ?_
    refine zti (v := v1) e1 ?_
    refine lv_aload_n hx hb dL_law_951 rfl (lv_at hl 5 rfl) ?_
    refine lv_iload hx hb dL_law_952 (lv_at hl 1 rfl) ?_
    refine lv_iconst (v := 2) hx hb dL_law_954 (by decide) ?_
    refine lv_iadd hx hb dL_law_955 ?_
    refine zti (v := 2) (by decide) ?_
    refine va_sld hx hb hX hbl hbA hS (zin (by decide +kernel)) dL_law_956 ?_
    refine zti (v := v2) e2 ?_
    refine lv_aload_n hx hb dL_law_957 rfl (lv_at hl 5 rfl) ?_
    refine lv_iload hx hb dL_law_958 (lv_at hl 1 rfl) ?_
    refine lv_iconst (v := 3) hx hb dL_law_960 (by decide) ?_
    refine lv_iadd hx hb dL_law_961 ?_
    refine zti (v := 3) (by decide) ?_
    refine va_sld hx hb hX hbl hbA hS (zin (by decide +kernel)) dL_law_962 ?_
    refine zti (v := v3) e3 ?_
    refine lv_aload_n hx hb dL_law_963 rfl (lv_at hl 5 rfl) ?_
    refine lv_iload hx hb dL_law_964 (lv_at hl 1 rfl) ?_
    refine lv_iconst (v := 4) hx hb dL_law_966 (by decide) ?_
    refine lv_iadd hx hb dL_law_967 ?_
    refine zti (v := 4) (by decide) ?_
    refine va_sld hx hb hX hbl hbA hS (zin (by decide +kernel)) dL_law_968 ?_
    refine zti (v := v4) e4 ?_
    refine zcall (wr := [(pk, .inl (G.2.1, 4, .inl (fp))), (wa, .inr (6, [.ref ro, .int 0, .int 0])), (ou, .inl (G.2.2.2.1, 1, .inr (.inl (fun _ => 0)))), (nw, .inr (8, [.int 0, .int 0, .ref vd, .ref lw, .ref hg, .ref rk])), (x, .inr (7, [.ref wa, .ref wb, .ref su, .ref cu, .ref tr, .ref co, .ref lo, .ref pk]))]) (va_runV (As := [.int v1, .int v2, .int v3, .int v4]) (rest := []) ⟨hx, hb, hml, hown, hts⟩ (z_X9_deciderT l G mm nw cq hi ko se nf ns pi 0 v1 v2 v3 v4 h1 H.size) (cwV 4 hts gL_law_X9_decider rfl rfl rfl (by decide +kernel) ⟨Nat.le_of_ble_eq_true rfl, Nat.le_of_ble_eq_true rfl⟩) (zPreV (Wc := [(mm, .inr (9, [.int 0, .ref nw, .ref cq, .ref hi, .int 0, .ref ko, .ref se, .int 0, .ref nf, .ref ns, .ref pi]))]) (q0 := 3) (ci := 9) (q := (RX9, TX9, 11)) hP hD hE hS hA [3] rfl (by decide) rfl rfl) rfl rfl hl.1 rfl (lv_room (Nat.le_of_ble_eq_true rfl)) dL_law_969 ⟨Nat.le_of_ble_eq_true rfl, Nat.le_of_ble_eq_true rfl⟩) hP hD hS hA [3] [0, 1, 2, 4, 5] rfl rfl (by decide) (by decide) (fun u2 H locs hP hD hS => ?_)
    have hP : va_P G.1 vwCl [(pk, .inl (G.2.1, 4, .inl (fp))), (wa, .inr (6, [.ref ro, .int 0, .int 0])), (ou, .inl (G.2.2.2.1, 1, .inr (.inl (fun _ => 0)))), (nw, .inr (8, [.int 0, .int 0, .ref vd, .ref lw, .ref hg, .ref rk])), (x, .inr (7, [.ref wa, .ref wb, .ref su, .ref cu, .ref tr, .ref co, .ref lo, .ref pk])), (mm, .inr (9, [.int 1, .ref nw, .ref cq, .ref hi, .int 0, .ref ko, .ref se, .int 0, .ref nf, .ref ns, .ref pi]))] H := hP
    have hD : va_D A [(pk, .inl (G.2.1, 4, .inl (fp))), (wa, .inr (6, [.ref ro, .int 0, .int 0])), (ou, .inl (G.2.2.2.1, 1, .inr (.inl (fun _ => 0)))), (nw, .inr (8, [.int 0, .int 0, .ref vd, .ref lw, .ref hg, .ref rk])), (x, .inr (7, [.ref wa, .ref wb, .ref su, .ref cu, .ref tr, .ref co, .ref lo, .ref pk])), (mm, .inr (9, [.int 1, .ref nw, .ref cq, .ref hi, .int 0, .ref ko, .ref se, .int 0, .ref nf, .ref ns, .ref pi]))] := hD
    refine W.eq (g2 := F0 m 972 ls [.int 0]) rfl ?_
    refine lv_istore (lv' := [(6, .int 0), (5, .int 1), (4, .int 0), (3, .ref ou), (2, .ref mm), (1, .ref x), (0, .ref b)]) hx hb dL_law_972 hl (by decide) rfl (fun ls hl => ?_)
    refine lv_aload_n hx hb dL_law_974 rfl (lv_at hl 4 rfl) ?_
    refine zcall (wr := [(pk, .inl (G.2.1, 4, .inl (fp))), (wa, .inr (6, [.ref ro, .int 0, .int 0])), (ou, .inl (G.2.2.2.1, 1, .inr (.inl (fun _ => 0)))), (nw, .inr (8, [.int 0, .int 0, .ref vd, .ref lw, .ref hg, .ref rk])), (x, .inr (7, [.ref wa, .ref wb, .ref su, .ref cu, .ref tr, .ref co, .ref lo, .ref pk]))]) (va_runV (As := []) (rest := []) ⟨hx, hb, hml, hown, hts⟩ (z_X9_thrown l G mm nw cq hi ko se nf ns pi 1 H.size) (cwV 0 hts gL_law_X9_thrown rfl rfl rfl (by decide +kernel) ⟨Nat.le_of_ble_eq_true rfl, Nat.le_of_ble_eq_true rfl⟩) (zPreV (Wc := [(mm, .inr (9, [.int 1, .ref nw, .ref cq, .ref hi, .int 0, .ref ko, .ref se, .int 0, .ref nf, .ref ns, .ref pi]))]) (q0 := 5) (ci := 9) (q := (RX9, TX9, 11)) hP hD hE hS hA [5] rfl (by decide) rfl rfl) rfl rfl hl.1 rfl (lv_room (Nat.le_of_ble_eq_true rfl)) dL_law_975 ⟨Nat.le_of_ble_eq_true rfl, Nat.le_of_ble_eq_true rfl⟩) hP hD hS hA [5] [0, 1, 2, 3, 4] rfl rfl (by decide) (by decide) (fun u3 H locs hP hD hS => ?_)
    have hP : va_P G.1 vwCl [(pk, .inl (G.2.1, 4, .inl (fp))), (wa, .inr (6, [.ref ro, .int 0, .int 0])), (ou, .inl (G.2.2.2.1, 1, .inr (.inl (fun _ => 0)))), (nw, .inr (8, [.int 0, .int 0, .ref vd, .ref lw, .ref hg, .ref rk])), (x, .inr (7, [.ref wa, .ref wb, .ref su, .ref cu, .ref tr, .ref co, .ref lo, .ref pk])), (mm, .inr (9, [.int 1, .ref nw, .ref cq, .ref hi, .int 0, .ref ko, .ref se, .int 0, .ref nf, .ref ns, .ref pi]))] H := hP
    have hD : va_D A [(pk, .inl (G.2.1, 4, .inl (fp))), (wa, .inr (6, [.ref ro, .int 0, .int 0])), (ou, .inl (G.2.2.2.1, 1, .inr (.inl (fun _ => 0)))), (nw, .inr (8, [.int 0, .int 0, .ref vd, .ref lw, .ref hg, .ref rk])), (x, .inr (7, [.ref wa, .ref wb, .ref su, .ref cu, .ref tr, .ref co, .ref lo, .ref pk])), (mm, .inr (9, [.int 1, .ref nw, .ref cq, .ref hi, .int 0, .ref ko, .ref se, .int 0, .ref nf, .ref ns, .ref pi]))] := hD
    refine W.eq (g2 := F0 m 978 ls [.int 1]) rfl ?_
    refine lv_iload hx hb dL_law_978 (lv_at hl 1 rfl) ?_
    refine lv_icmp_eq (tgt := 985) hx hb dL_law_980 (by decide) (fun _ => ?_) (fun h9 => absurd (by decide) h9)
    refine lv_iload hx hb dL_law_985 (lv_at hl 1 rfl) ?_
    refine lv_if_ne (tgt := 1002) hx hb dL_law_987 (by decide) (fun _ => ?_) (fun h9 => absurd h9 (by decide))
    refine lv_goto (tgt := 1748) hx hb dL_law_1002 (by decide) ?_
    exact z_lawend hx hb hr hml hown hts hX hbl hlocks hl0 hA hA2 hbA hE (Nat.le_of_ble_eq_true rfl) (Nat.le_of_ble_eq_true rfl) hS (lv_sub hl [2, 6] rfl)

set_option maxHeartbeats 4000000 in
set_option maxRecDepth 100000 in
theorem z_case19 {p : Program} {l : Launch} {e : Env} {s : State} {m : MethodId} {below : List Frame} {meth : Method} {c : Code} {A : Nat → Prop} {H : Heap} {locs : List Loc} {ls : Array Slot} {G : zG} {b : Nat} {xs : Nat → Int32} (hx : p.tables.exec = Jvm.exec) (hb : c.code = code) (hr : meth.sig.returnType = ret) (hml : c.maxLocals = 9) (hown : s.vm.findClass RL = some m.cls) (hts : ∀ w ∈ wsL_law, w.before #[Value.ref b] s = true) (hX : va_X b 5 xs s s.heap) (hbl : b < s.heap.size) (hlocks : meth.locks = false) (hl0 : l.stackTraces = false) (hA : ∀ q : Nat, s.heap.size ≤ q → A q) (hA2 : ∀ q : Nat, A q → s.heap.size ≤ q) (hbA : ¬ A b) (hE : zZ G A s s.heap) {x : Nat} {wa : Nat} {wb : Nat} {su : Nat} {cu : Nat} {tr : Nat} {co : Nat} {lo : Nat} {pk : Nat} {ro : Nat} {ou : Nat} {fp : Nat → Int32} {mm : Nat} {nw : Nat} {cq : Nat} {hi : Nat} {ko : Nat} {se : Nat} {nf : Nat} {ns : Nat} {pi : Nat} {vd : Nat} {lw : Nat} {hg : Nat} {rk : Nat} (v1 : Int32) (e1 : xs 1 = v1) (v2 : Int32) (e2 : xs 2 = v2) (v3 : Int32) (e3 : xs 3 = v3) (v4 : Int32) (e4 : xs 4 = v4) (hP : va_P G.1 vwCl [(x, .inr (7, [.ref wa, .ref wb, .ref su, .ref cu, .ref tr, .ref co, .ref lo, .ref pk])), (pk, .inl (G.2.1, 4, .inl (fp))), (wa, .inr (6, [.ref ro, .int 0, .int 0])), (ou, .inl (G.2.2.2.1, 1, .inr (.inl (fun _ => 0)))), (mm, .inr (9, [.int 0, .ref nw, .ref cq, .ref hi, .int 0, .ref ko, .ref se, .int 0, .ref nf, .ref ns, .ref pi])), (nw, .inr (8, [.int 0, .int 0, .ref vd, .ref lw, .ref hg, .ref rk]))] H) (hD : va_D A [(x, .inr (7, [.ref wa, .ref wb, .ref su, .ref cu, .ref tr, .ref co, .ref lo, .ref pk])), (pk, .inl (G.2.1, 4, .inl (fp))), (wa, .inr (6, [.ref ro, .int 0, .int 0])), (ou, .inl (G.2.2.2.1, 1, .inr (.inl (fun _ => 0)))), (mm, .inr (9, [.int 0, .ref nw, .ref cq, .ref hi, .int 0, .ref ko, .ref se, .int 0, .ref nf, .ref ns, .ref pi])), (nw, .inr (8, [.int 0, .int 0, .ref vd, .ref lw, .ref hg, .ref rk]))]) (hS : va_S A s.heap H locs) (hl : lv_has ls 9 [(4, .int 0), (3, .ref ou), (2, .ref mm), (1, .ref x), (0, .ref b)]) : W p l e room_1 s m #[Value.ref b] below meth c H locs 89 9213 (lw_Z below #[Value.ref b] s) (F0 m 1166 ls []) := by
  rcases zOk_or v1 v2 v3 v4 with h1 | h1
  · refine lv_aload_n hx hb dL_law_1166 rfl (lv_at hl 3 rfl) ?_
    refine lv_aload_n hx hb dL_law_1167 rfl (lv_at hl 4 rfl) ?_
    refine lv_iload hx hb dL_law_1168 (lv_at hl 0 rfl) ?_
    refine lv_iconst (v := 1) hx hb dL_law_1170 (by decide) ?_
    refine lv_iadd hx hb dL_law_1171 ?_
    refine zti (v := 1) (by decide) ?_
    refine va_sld hx hb hX hbl hbA hS (zin (by decide +kernel)) dL_law_1172 ?_
    refine zti (v := v1) e1 ?_
    refine lv_aload_n hx hb dL_law_1173 rfl (lv_at hl 4 rfl) ?_
    refine lv_iload hx hb dL_law_1174 (lv_at hl 0 rfl) ?_
    refine lv_iconst (v := 2) hx hb dL_law_1176 (by decide) ?_
    refine lv_iadd hx hb dL_law_1177 ?_
    refine zti (v := 2) (by decide) ?_
    refine va_sld hx hb hX hbl hbA hS (zin (by decide +kernel)) dL_law_1178 ?_
    refine zti (v := v2) e2 ?_
    refine lv_aload_n hx hb dL_law_1179 rfl (lv_at hl 4 rfl) ?_
    refine lv_iload hx hb dL_law_1180 (lv_at hl 0 rfl) ?_
    refine lv_iconst (v := 3) hx hb dL_law_1182 (by decide) ?_
    refine lv_iadd hx hb dL_law_1183 ?_
    refine zti (v := 3) (by decide) ?_
    refine va_sld hx hb hX hbl hbA hS (zin (by decide +kernel)) dL_law_1184 ?_
    refine zti (v := v3) e3 ?_
    refine lv_aload_n hx hb dL_law_1185 rfl (lv_at hl 4 rfl) ?_
    refine lv_iload hx hb dL_law_1186 (lv_at hl 0 rfl) ?_
    refine lv_iconst (v := 4) hx hb dL_law_1188 (by decide) ?_
    refine lv_iadd hx hb dL_law_1189 ?_
    refine zti (v := 4) (by decide) ?_
    refine va_sld hx hb hX hbl hbA hS (zin (by decide +kernel)) dL_law_1190 ?_
    refine zti (v := v4) e4 ?_
    refine lv_aload_n hx hb dL_law_1191 rfl (lv_at hl 1 rfl) ?_
    refine zcall (wr := [(mm, .inr (9, [.int 0, .ref nw, .ref cq, .ref hi, .int 0, .ref ko, .ref se, .int 0, .ref nf, .ref ns, .ref pi])), (nw, .inr (8, [.int 0, .int 0, .ref vd, .ref lw, .ref hg, .ref rk]))]) (zrunH (vx_runSX (As := [.ref x, .int v1, .int v2, .int v3, .int v4, .ref ou]) (rest := []) ⟨hx, hb, hml, hown, hts⟩ (z_L_steps l G x wa wb su cu tr co lo pk ro v1 v2 v3 v4 (fp) ou (fun _ => 0) h1 H.size) (vx_cwSW 6 hts gL_law_L_steps rfl rfl rfl (by decide +kernel) ⟨Nat.le_of_ble_eq_true rfl, Nat.le_of_ble_eq_true rfl⟩) (zPre (Wc := [(x, .inr (7, [.ref wa, .ref wb, .ref su, .ref cu, .ref tr, .ref co, .ref lo, .ref pk])), (pk, .inl (G.2.1, 4, .inl (fp))), (wa, .inr (6, [.ref ro, .int 0, .int 0])), (ou, .inl (G.2.2.2.1, 1, .inr (.inl (fun _ => 0))))]) hP hD hE hS hA [0, 1, 2, 3] rfl (by decide)) rfl rfl hl.1 rfl (lv_room (Nat.le_of_ble_eq_true rfl)) dL_law_1192 ⟨Nat.le_of_ble_eq_true rfl, Nat.le_of_ble_eq_true rfl⟩)) hP hD hS hA [0, 1, 2, 3] [4, 5] rfl rfl (by decide) (by decide) (fun u1 H locs hP hD hS => ?_)
    have hP : va_P G.1 vwCl [(mm, .inr (9, [.int 0, .ref nw, .ref cq, .ref hi, .int 0, .ref ko, .ref se, .int 0, .ref nf, .ref ns, .ref pi])), (nw, .inr (8, [.int 0, .int 0, .ref vd, .ref lw, .ref hg, .ref rk])), (ou, .inl (G.2.2.2.1, 1, .inr (.inl (vp_updL (fun _ => 0) 0 0)))), (x, .inr (7, [.ref wa, .ref wb, .ref su, .ref cu, .ref tr, .ref co, .ref lo, .ref pk])), (pk, .inl (G.2.1, 4, .inl (upd (upd (upd (upd fp 0 v1) 1 v2) 2 v3) 3 v4))), (wa, .inr (6, [.ref ro, .int 0, .int 0]))] H := hP
    have hD : va_D A [(mm, .inr (9, [.int 0, .ref nw, .ref cq, .ref hi, .int 0, .ref ko, .ref se, .int 0, .ref nf, .ref ns, .ref pi])), (nw, .inr (8, [.int 0, .int 0, .ref vd, .ref lw, .ref hg, .ref rk])), (ou, .inl (G.2.2.2.1, 1, .inr (.inl (vp_updL (fun _ => 0) 0 0)))), (x, .inr (7, [.ref wa, .ref wb, .ref su, .ref cu, .ref tr, .ref co, .ref lo, .ref pk])), (pk, .inl (G.2.1, 4, .inl (upd (upd (upd (upd fp 0 v1) 1 v2) 2 v3) 3 v4))), (wa, .inr (6, [.ref ro, .int 0, .int 0]))] := hD
    refine W.eq (g2 := F0 m 1195 ls [.int 0]) rfl ?_
    refine lv_istore (lv' := [(5, .int 0), (4, .int 0), (3, .ref ou), (2, .ref mm), (1, .ref x), (0, .ref b)]) hx hb dL_law_1195 hl (by decide) rfl (fun ls hl => ?_)
    refine lv_aload_n hx hb dL_law_1197 rfl (lv_at hl 3 rfl) ?_
    refine lv_aload_n hx hb dL_law_1198 rfl (lv_at hl 5 rfl) ?_
    refine lv_iload hx hb dL_law_1199 (lv_at hl 1 rfl) ?_
    refine lv_iconst (v := 1) hx hb dL_law_1201 (by decide) ?_
    refine lv_iadd hx hb dL_law_1202 ?_
    refine zti (v := 1) (by decide) ?_
    refine va_sld hx hb hX hbl hbA hS (zin (by decide +kernel)) dL_law_1203 ?_
    refine zti (v := v1) e1 ?_
    refine lv_aload_n hx hb dL_law_1204 rfl (lv_at hl 5 rfl) ?_
    refine lv_iload hx hb dL_law_1205 (lv_at hl 1 rfl) ?_
    refine lv_iconst (v := 2) hx hb dL_law_1207 (by decide) ?_
    refine lv_iadd hx hb dL_law_1208 ?_
    refine zti (v := 2) (by decide) ?_
    refine va_sld hx hb hX hbl hbA hS (zin (by decide +kernel)) dL_law_1209 ?_
    refine zti (v := v2) e2 ?_
    refine lv_aload_n hx hb dL_law_1210 rfl (lv_at hl 5 rfl) ?_
    refine lv_iload hx hb dL_law_1211 (lv_at hl 1 rfl) ?_
    refine lv_iconst (v := 3) hx hb dL_law_1213 (by decide) ?_
    refine lv_iadd hx hb dL_law_1214 ?_
    refine zti (v := 3) (by decide) ?_
    refine va_sld hx hb hX hbl hbA hS (zin (by decide +kernel)) dL_law_1215 ?_
    refine zti (v := v3) e3 ?_
    refine lv_aload_n hx hb dL_law_1216 rfl (lv_at hl 5 rfl) ?_
    refine lv_iload hx hb dL_law_1217 (lv_at hl 1 rfl) ?_
    refine lv_iconst (v := 4) hx hb dL_law_1219 (by decide) ?_
    refine lv_iadd hx hb dL_law_1220 ?_
    refine zti (v := 4) (by decide) ?_
    refine va_sld hx hb hX hbl hbA hS (zin (by decide +kernel)) dL_law_1221 ?_
    refine zti (v := v4) e4 ?_
    refine zcall (wr := [(ou, .inl (G.2.2.2.1, 1, .inr (.inl (vp_updL (fun _ => 0) 0 0)))), (x, .inr (7, [.ref wa, .ref wb, .ref su, .ref cu, .ref tr, .ref co, .ref lo, .ref pk])), (pk, .inl (G.2.1, 4, .inl (upd (upd (upd (upd fp 0 v1) 1 v2) 2 v3) 3 v4))), (wa, .inr (6, [.ref ro, .int 0, .int 0]))]) (va_runV (As := [.int v1, .int v2, .int v3, .int v4]) (rest := []) ⟨hx, hb, hml, hown, hts⟩ (z_X9_steps l G mm nw cq hi ko se nf ns pi 0 vd lw hg rk v1 v2 v3 v4 h1 H.size) (cwV 4 hts gL_law_X9_steps rfl rfl rfl (by decide +kernel) ⟨Nat.le_of_ble_eq_true rfl, Nat.le_of_ble_eq_true rfl⟩) (zPreV (Wc := [(mm, .inr (9, [.int 0, .ref nw, .ref cq, .ref hi, .int 0, .ref ko, .ref se, .int 0, .ref nf, .ref ns, .ref pi])), (nw, .inr (8, [.int 0, .int 0, .ref vd, .ref lw, .ref hg, .ref rk]))]) (q0 := 0) (ci := 9) (q := (RX9, TX9, 11)) hP hD hE hS hA [0, 1] rfl (by decide) rfl rfl) rfl rfl hl.1 rfl (lv_room (Nat.le_of_ble_eq_true rfl)) dL_law_1222 ⟨Nat.le_of_ble_eq_true rfl, Nat.le_of_ble_eq_true rfl⟩) hP hD hS hA [0, 1] [2, 3, 4, 5] rfl rfl (by decide) (by decide) (fun u2 H locs hP hD hS => ?_)
    have hP : va_P G.1 vwCl [(ou, .inl (G.2.2.2.1, 1, .inr (.inl (vp_updL (fun _ => 0) 0 0)))), (x, .inr (7, [.ref wa, .ref wb, .ref su, .ref cu, .ref tr, .ref co, .ref lo, .ref pk])), (pk, .inl (G.2.1, 4, .inl (upd (upd (upd (upd fp 0 v1) 1 v2) 2 v3) 3 v4))), (wa, .inr (6, [.ref ro, .int 0, .int 0])), (mm, .inr (9, [.int 0, .ref nw, .ref cq, .ref hi, .int 0, .ref ko, .ref se, .int 0, .ref nf, .ref ns, .ref pi])), (nw, .inr (8, [.int 0, .int 0, .ref vd, .ref lw, .ref hg, .ref rk]))] H := hP
    have hD : va_D A [(ou, .inl (G.2.2.2.1, 1, .inr (.inl (vp_updL (fun _ => 0) 0 0)))), (x, .inr (7, [.ref wa, .ref wb, .ref su, .ref cu, .ref tr, .ref co, .ref lo, .ref pk])), (pk, .inl (G.2.1, 4, .inl (upd (upd (upd (upd fp 0 v1) 1 v2) 2 v3) 3 v4))), (wa, .inr (6, [.ref ro, .int 0, .int 0])), (mm, .inr (9, [.int 0, .ref nw, .ref cq, .ref hi, .int 0, .ref ko, .ref se, .int 0, .ref nf, .ref ns, .ref pi])), (nw, .inr (8, [.int 0, .int 0, .ref vd, .ref lw, .ref hg, .ref rk]))] := hD
    refine W.eq (g2 := F0 m 1225 ls [.int 0]) rfl ?_
    refine lv_istore (lv' := [(6, .int 0), (5, .int 0), (4, .int 0), (3, .ref ou), (2, .ref mm), (1, .ref x), (0, .ref b)]) hx hb dL_law_1225 hl (by decide) rfl (fun ls hl => ?_)
    refine lv_aload_n hx hb dL_law_1227 rfl (lv_at hl 4 rfl) ?_
    refine zcall (wr := [(ou, .inl (G.2.2.2.1, 1, .inr (.inl (vp_updL (fun _ => 0) 0 0)))), (x, .inr (7, [.ref wa, .ref wb, .ref su, .ref cu, .ref tr, .ref co, .ref lo, .ref pk])), (pk, .inl (G.2.1, 4, .inl (upd (upd (upd (upd fp 0 v1) 1 v2) 2 v3) 3 v4))), (wa, .inr (6, [.ref ro, .int 0, .int 0])), (nw, .inr (8, [.int 0, .int 0, .ref vd, .ref lw, .ref hg, .ref rk]))]) (va_runV (As := []) (rest := []) ⟨hx, hb, hml, hown, hts⟩ (z_X9_thrown l G mm nw cq hi ko se nf ns pi 0 H.size) (cwV 0 hts gL_law_X9_thrown rfl rfl rfl (by decide +kernel) ⟨Nat.le_of_ble_eq_true rfl, Nat.le_of_ble_eq_true rfl⟩) (zPreV (Wc := [(mm, .inr (9, [.int 0, .ref nw, .ref cq, .ref hi, .int 0, .ref ko, .ref se, .int 0, .ref nf, .ref ns, .ref pi]))]) (q0 := 4) (ci := 9) (q := (RX9, TX9, 11)) hP hD hE hS hA [4] rfl (by decide) rfl rfl) rfl rfl hl.1 rfl (lv_room (Nat.le_of_ble_eq_true rfl)) dL_law_1228 ⟨Nat.le_of_ble_eq_true rfl, Nat.le_of_ble_eq_true rfl⟩) hP hD hS hA [4] [0, 1, 2, 3, 5] rfl rfl (by decide) (by decide) (fun u3 H locs hP hD hS => ?_)
    have hP : va_P G.1 vwCl [(ou, .inl (G.2.2.2.1, 1, .inr (.inl (vp_updL (fun _ => 0) 0 0)))), (x, .inr (7, [.ref wa, .ref wb, .ref su, .ref cu, .ref tr, .ref co, .ref lo, .ref pk])), (pk, .inl (G.2.1, 4, .inl (upd (upd (upd (upd fp 0 v1) 1 v2) 2 v3) 3 v4))), (wa, .inr (6, [.ref ro, .int 0, .int 0])), (nw, .inr (8, [.int 0, .int 0, .ref vd, .ref lw, .ref hg, .ref rk])), (mm, .inr (9, [.int 0, .ref nw, .ref cq, .ref hi, .int 0, .ref ko, .ref se, .int 0, .ref nf, .ref ns, .ref pi]))] H := hP
    have hD : va_D A [(ou, .inl (G.2.2.2.1, 1, .inr (.inl (vp_updL (fun _ => 0) 0 0)))), (x, .inr (7, [.ref wa, .ref wb, .ref su, .ref cu, .ref tr, .ref co, .ref lo, .ref pk])), (pk, .inl (G.2.1, 4, .inl (upd (upd (upd (upd fp 0 v1) 1 v2) 2 v3) 3 v4))), (wa, .inr (6, [.ref ro, .int 0, .int 0])), (nw, .inr (8, [.int 0, .int 0, .ref vd, .ref lw, .ref hg, .ref rk])), (mm, .inr (9, [.int 0, .ref nw, .ref cq, .ref hi, .int 0, .ref ko, .ref se, .int 0, .ref nf, .ref ns, .ref pi]))] := hD
    refine W.eq (g2 := F0 m 1231 ls [.int 0]) rfl ?_
    refine lv_iload hx hb dL_law_1231 (lv_at hl 1 rfl) ?_
    refine lv_icmp_eq (tgt := 1238) hx hb dL_law_1233 (by decide) (fun _ => ?_) (fun h9 => absurd (by decide) h9)
    refine lv_iload hx hb dL_law_1238 (lv_at hl 1 rfl) ?_
    refine lv_if_ne (tgt := 1255) hx hb dL_law_1240 (by decide) (fun h9 => absurd (by decide) h9) (fun _ => ?_)
    refine lv_aload_n hx hb dL_law_1243 rfl (lv_at hl 3 rfl) ?_
    refine lv_iconst (v := 0) hx hb dL_law_1244 (by decide) ?_
    refine va_lald hx hb hE.1 hP 0 2 rfl rfl (zin (by decide +kernel)) dL_law_1245 ?_
    refine ztl (v := 0) rfl ?_
    refine lv_iload hx hb dL_law_1246 (lv_at hl 0 rfl) ?_
    refine lv_i2l (v := 0) hx hb dL_law_1248 (by decide) ?_
    refine W.lcmp hx hb dL_law_1249 ?_
    refine zti (v := 0) (by decide) ?_
    refine lv_if_eq (tgt := 1255) hx hb dL_law_1250 (by decide) (fun _ => ?_) (fun h9 => absurd (by decide) h9)
    refine lv_goto (tgt := 1748) hx hb dL_law_1255 (by decide) ?_
    exact z_lawend hx hb hr hml hown hts hX hbl hlocks hl0 hA hA2 hbA hE (Nat.le_of_ble_eq_true rfl) (Nat.le_of_ble_eq_true rfl) hS (lv_sub hl [2, 6] rfl)
  · refine lv_aload_n hx hb dL_law_1166 rfl (lv_at hl 3 rfl) ?_
    refine lv_aload_n hx hb dL_law_1167 rfl (lv_at hl 4 rfl) ?_
    refine lv_iload hx hb dL_law_1168 (lv_at hl 0 rfl) ?_
    refine lv_iconst (v := 1) hx hb dL_law_1170 (by decide) ?_
    refine lv_iadd hx hb dL_law_1171 ?_
    refine zti (v := 1) (by decide) ?_
    refine va_sld hx hb hX hbl hbA hS (zin (by decide +kernel)) dL_law_1172 ?_
    refine zti (v := v1) e1 ?_
    refine lv_aload_n hx hb dL_law_1173 rfl (lv_at hl 4 rfl) ?_
    refine lv_iload hx hb dL_law_1174 (lv_at hl 0 rfl) ?_
    refine lv_iconst (v := 2) hx hb dL_law_1176 (by decide) ?_
    refine lv_iadd hx hb dL_law_1177 ?_
    refine zti (v := 2) (by decide) ?_
    refine va_sld hx hb hX hbl hbA hS (zin (by decide +kernel)) dL_law_1178 ?_
    refine zti (v := v2) e2 ?_
    refine lv_aload_n hx hb dL_law_1179 rfl (lv_at hl 4 rfl) ?_
    refine lv_iload hx hb dL_law_1180 (lv_at hl 0 rfl) ?_
    refine lv_iconst (v := 3) hx hb dL_law_1182 (by decide) ?_
    refine lv_iadd hx hb dL_law_1183 ?_
    refine zti (v := 3) (by decide) ?_
    refine va_sld hx hb hX hbl hbA hS (zin (by decide +kernel)) dL_law_1184 ?_
    refine zti (v := v3) e3 ?_
    refine lv_aload_n hx hb dL_law_1185 rfl (lv_at hl 4 rfl) ?_
    refine lv_iload hx hb dL_law_1186 (lv_at hl 0 rfl) ?_
    refine lv_iconst (v := 4) hx hb dL_law_1188 (by decide) ?_
    refine lv_iadd hx hb dL_law_1189 ?_
    refine zti (v := 4) (by decide) ?_
    refine va_sld hx hb hX hbl hbA hS (zin (by decide +kernel)) dL_law_1190 ?_
    refine zti (v := v4) e4 ?_
    refine lv_aload_n hx hb dL_law_1191 rfl (lv_at hl 1 rfl) ?_
    refine zcall (wr := [(pk, .inl (G.2.1, 4, .inl (fp))), (wa, .inr (6, [.ref ro, .int 0, .int 0])), (ou, .inl (G.2.2.2.1, 1, .inr (.inl (fun _ => 0)))), (mm, .inr (9, [.int 0, .ref nw, .ref cq, .ref hi, .int 0, .ref ko, .ref se, .int 0, .ref nf, .ref ns, .ref pi])), (nw, .inr (8, [.int 0, .int 0, .ref vd, .ref lw, .ref hg, .ref rk]))]) (zrunH (vx_runSX (As := [.ref x, .int v1, .int v2, .int v3, .int v4, .ref ou]) (rest := []) ⟨hx, hb, hml, hown, hts⟩ (z_L_stepsT l G x wa wb su cu tr co lo pk v1 v2 v3 v4 ou hl0 h1 H.size) (vx_cwSW 6 hts gL_law_L_steps rfl rfl rfl (by decide +kernel) ⟨Nat.le_of_ble_eq_true rfl, Nat.le_of_ble_eq_true rfl⟩) (zPre (Wc := [(x, .inr (7, [.ref wa, .ref wb, .ref su, .ref cu, .ref tr, .ref co, .ref lo, .ref pk]))]) hP hD hE hS hA [0] rfl (by decide)) rfl rfl hl.1 rfl (lv_room (Nat.le_of_ble_eq_true rfl)) dL_law_1192 ⟨Nat.le_of_ble_eq_true rfl, Nat.le_of_ble_eq_true rfl⟩)) hP hD hS hA [0] [1, 2, 3, 4, 5] rfl rfl (by decide) (by decide) (fun u1 H locs hP hD hS => ?_)
    have hP : va_P G.1 vwCl [(pk, .inl (G.2.1, 4, .inl (fp))), (wa, .inr (6, [.ref ro, .int 0, .int 0])), (ou, .inl (G.2.2.2.1, 1, .inr (.inl (fun _ => 0)))), (mm, .inr (9, [.int 0, .ref nw, .ref cq, .ref hi, .int 0, .ref ko, .ref se, .int 0, .ref nf, .ref ns, .ref pi])), (nw, .inr (8, [.int 0, .int 0, .ref vd, .ref lw, .ref hg, .ref rk])), (x, .inr (7, [.ref wa, .ref wb, .ref su, .ref cu, .ref tr, .ref co, .ref lo, .ref pk]))] H := hP
    have hD : va_D A [(pk, .inl (G.2.1, 4, .inl (fp))), (wa, .inr (6, [.ref ro, .int 0, .int 0])), (ou, .inl (G.2.2.2.1, 1, .inr (.inl (fun _ => 0)))), (mm, .inr (9, [.int 0, .ref nw, .ref cq, .ref hi, .int 0, .ref ko, .ref se, .int 0, .ref nf, .ref ns, .ref pi])), (nw, .inr (8, [.int 0, .int 0, .ref vd, .ref lw, .ref hg, .ref rk])), (x, .inr (7, [.ref wa, .ref wb, .ref su, .ref cu, .ref tr, .ref co, .ref lo, .ref pk]))] := hD
    refine W.eq (g2 := F0 m 1195 ls [.int 1]) rfl ?_
    refine lv_istore (lv' := [(5, .int 1), (4, .int 0), (3, .ref ou), (2, .ref mm), (1, .ref x), (0, .ref b)]) hx hb dL_law_1195 hl (by decide) rfl (fun ls hl => ?_)
    refine lv_aload_n hx hb dL_law_1197 rfl (lv_at hl 3 rfl) ?_
    refine lv_aload_n hx hb dL_law_1198 rfl (lv_at hl 5 rfl) ?_
    refine lv_iload hx hb dL_law_1199 (lv_at hl 1 rfl) ?_
    refine lv_iconst (v := 1) hx hb dL_law_1201 (by decide) ?_
    refine lv_iadd hx hb dL_law_1202 ?_
    refine zti (v := 1) (by decide) ?_
    refine va_sld hx hb hX hbl hbA hS (zin (by decide +kernel)) dL_law_1203 ?_
    refine zti (v := v1) e1 ?_
    refine lv_aload_n hx hb dL_law_1204 rfl (lv_at hl 5 rfl) ?_
    refine lv_iload hx hb dL_law_1205 (lv_at hl 1 rfl) ?_
    refine lv_iconst (v := 2) hx hb dL_law_1207 (by decide) ?_
    refine lv_iadd hx hb dL_law_1208 ?_
    refine zti (v := 2) (by decide) ?_
    refine va_sld hx hb hX hbl hbA hS (zin (by decide +kernel)) dL_law_1209 ?_
    refine zti (v := v2) e2 ?_
    refine lv_aload_n hx hb dL_law_1210 rfl (lv_at hl 5 rfl) ?_
    refine lv_iload hx hb dL_law_1211 (lv_at hl 1 rfl) ?_
    refine lv_iconst (v := 3) hx hb dL_law_1213 (by decide) ?_
    refine lv_iadd hx hb dL_law_1214 ?_
    refine zti (v := 3) (by decide) ?_
    refine va_sld hx hb hX hbl hbA hS (zin (by decide +kernel)) dL_law_1215 ?_
    refine zti (v := v3) e3 ?_
    refine lv_aload_n hx hb dL_law_1216 rfl (lv_at hl 5 rfl) ?_
    refine lv_iload hx hb dL_law_1217 (lv_at hl 1 rfl) ?_
    refine lv_iconst (v := 4) hx hb dL_law_1219 (by decide) ?_
    refine lv_iadd hx hb dL_law_1220 ?_
    refine zti (v := 4) (by decide) ?_
    refine va_sld hx hb hX hbl hbA hS (zin (by decide +kernel)) dL_law_1221 ?_
    refine zti (v := v4) e4 ?_
    refine zcall (wr := [(pk, .inl (G.2.1, 4, .inl (fp))), (wa, .inr (6, [.ref ro, .int 0, .int 0])), (ou, .inl (G.2.2.2.1, 1, .inr (.inl (fun _ => 0)))), (nw, .inr (8, [.int 0, .int 0, .ref vd, .ref lw, .ref hg, .ref rk])), (x, .inr (7, [.ref wa, .ref wb, .ref su, .ref cu, .ref tr, .ref co, .ref lo, .ref pk]))]) (va_runV (As := [.int v1, .int v2, .int v3, .int v4]) (rest := []) ⟨hx, hb, hml, hown, hts⟩ (z_X9_stepsT l G mm nw cq hi ko se nf ns pi 0 v1 v2 v3 v4 h1 H.size) (cwV 4 hts gL_law_X9_steps rfl rfl rfl (by decide +kernel) ⟨Nat.le_of_ble_eq_true rfl, Nat.le_of_ble_eq_true rfl⟩) (zPreV (Wc := [(mm, .inr (9, [.int 0, .ref nw, .ref cq, .ref hi, .int 0, .ref ko, .ref se, .int 0, .ref nf, .ref ns, .ref pi]))]) (q0 := 3) (ci := 9) (q := (RX9, TX9, 11)) hP hD hE hS hA [3] rfl (by decide) rfl rfl) rfl rfl hl.1 rfl (lv_room (Nat.le_of_ble_eq_true rfl)) dL_law_1222 ⟨Nat.le_of_ble_eq_true rfl, Nat.le_of_ble_eq_true rfl⟩) hP hD hS hA [3] [0, 1, 2, 4, 5] rfl rfl (by decide) (by decide) (fun u2 H locs hP hD hS => ?_)
    have hP : va_P G.1 vwCl [(pk, .inl (G.2.1, 4, .inl (fp))), (wa, .inr (6, [.ref ro, .int 0, .int 0])), (ou, .inl (G.2.2.2.1, 1, .inr (.inl (fun _ => 0)))), (nw, .inr (8, [.int 0, .int 0, .ref vd, .ref lw, .ref hg, .ref rk])), (x, .inr (7, [.ref wa, .ref wb, .ref su, .ref cu, .ref tr, .ref co, .ref lo, .ref pk])), (mm, .inr (9, [.int 1, .ref nw, .ref cq, .ref hi, .int 0, .ref ko, .ref se, .int 0, .ref nf, .ref ns, .ref pi]))] H := hP
    have hD : va_D A [(pk, .inl (G.2.1, 4, .inl (fp))), (wa, .inr (6, [.ref ro, .int 0, .int 0])), (ou, .inl (G.2.2.2.1, 1, .inr (.inl (fun _ => 0)))), (nw, .inr (8, [.int 0, .int 0, .ref vd, .ref lw, .ref hg, .ref rk])), (x, .inr (7, [.ref wa, .ref wb, .ref su, .ref cu, .ref tr, .ref co, .ref lo, .ref pk])), (mm, .inr (9, [.int 1, .ref nw, .ref cq, .ref hi, .int 0, .ref ko, .ref se, .int 0, .ref nf, .ref ns, .ref pi]))] := hD
    refine W.eq (g2 := F0 m 1225 ls [.int 0]) rfl ?_
    refine lv_istore (lv' := [(6, .int 0), (5, .int 1), (4, .int 0), (3, .ref ou), (2, .ref mm), (1, .ref x), (0, .ref b)]) hx hb dL_law_1225 hl (by decide) rfl (fun ls hl => ?_)
    refine lv_aload_n hx hb dL_law_1227 rfl (lv_at hl 4 rfl) ?_
    refine zcall (wr := [(pk, .inl (G.2.1, 4, .inl (fp))), (wa, .inr (6, [.ref ro, .int 0, .int 0])), (ou, .inl (G.2.2.2.1, 1, .inr (.inl (fun _ => 0)))), (nw, .inr (8, [.int 0, .int 0, .ref vd, .ref lw, .ref hg, .ref rk])), (x, .inr (7, [.ref wa, .ref wb, .ref su, .ref cu, .ref tr, .ref co, .ref lo, .ref pk]))]) (va_runV (As := []) (rest := []) ⟨hx, hb, hml, hown, hts⟩ (z_X9_thrown l G mm nw cq hi ko se nf ns pi 1 H.size) (cwV 0 hts gL_law_X9_thrown rfl rfl rfl (by decide +kernel) ⟨Nat.le_of_ble_eq_true rfl, Nat.le_of_ble_eq_true rfl⟩) (zPreV (Wc := [(mm, .inr (9, [.int 1, .ref nw, .ref cq, .ref hi, .int 0, .ref ko, .ref se, .int 0, .ref nf, .ref ns, .ref pi]))]) (q0 := 5) (ci := 9) (q := (RX9, TX9, 11)) hP hD hE hS hA [5] rfl (by decide) rfl rfl) rfl rfl hl.1 rfl (lv_room (Nat.le_of_ble_eq_true rfl)) dL_law_1228 ⟨Nat.le_of_ble_eq_true rfl, Nat.le_of_ble_eq_true rfl⟩) hP hD hS hA [5] [0, 1, 2, 3, 4] rfl rfl (by decide) (by decide) (fun u3 H locs hP hD hS => ?_)
    have hP : va_P G.1 vwCl [(pk, .inl (G.2.1, 4, .inl (fp))), (wa, .inr (6, [.ref ro, .int 0, .int 0])), (ou, .inl (G.2.2.2.1, 1, .inr (.inl (fun _ => 0)))), (nw, .inr (8, [.int 0, .int 0, .ref vd, .ref lw, .ref hg, .ref rk])), (x, .inr (7, [.ref wa, .ref wb, .ref su, .ref cu, .ref tr, .ref co, .ref lo, .ref pk])), (mm, .inr (9, [.int 1, .ref nw, .ref cq, .ref hi, .int 0, .ref ko, .ref se, .int 0, .ref nf, .ref ns, .ref pi]))] H := hP
    have hD : va_D A [(pk, .inl (G.2.1, 4, .inl (fp))), (wa, .inr (6, [.ref ro, .int 0, .int 0])), (ou, .inl (G.2.2.2.1, 1, .inr (.inl (fun _ => 0)))), (nw, .inr (8, [.int 0, .int 0, .ref vd, .ref lw, .ref hg, .ref rk])), (x, .inr (7, [.ref wa, .ref wb, .ref su, .ref cu, .ref tr, .ref co, .ref lo, .ref pk])), (mm, .inr (9, [.int 1, .ref nw, .ref cq, .ref hi, .int 0, .ref ko, .ref se, .int 0, .ref nf, .ref ns, .ref pi]))] := hD
    refine W.eq (g2 := F0 m 1231 ls [.int 1]) rfl ?_
    refine lv_iload hx hb dL_law_1231 (lv_at hl 1 rfl) ?_
    refine lv_icmp_eq (tgt := 1238) hx hb dL_law_1233 (by decide) (fun _ => ?_) (fun h9 => absurd (by decide) h9)
    refine lv_iload hx hb dL_law_1238 (lv_at hl 1 rfl) ?_
    refine lv_if_ne (tgt := 1255) hx hb dL_law_1240 (by decide) (fun _ => ?_) (fun h9 => absurd h9 (by decide))
    refine lv_goto (tgt := 1748) hx hb dL_law_1255 (by decide) ?_
    exact z_lawend hx hb hr hml hown hts hX hbl hlocks hl0 hA hA2 hbA hE (Nat.le_of_ble_eq_true rfl) (Nat.le_of_ble_eq_true rfl) hS (lv_sub hl [2, 6] rfl)

set_option maxHeartbeats 4000000 in
set_option maxRecDepth 100000 in
theorem z_case21 {p : Program} {l : Launch} {e : Env} {s : State} {m : MethodId} {below : List Frame} {meth : Method} {c : Code} {A : Nat → Prop} {H : Heap} {locs : List Loc} {ls : Array Slot} {G : zG} {b : Nat} {xs : Nat → Int32} (hx : p.tables.exec = Jvm.exec) (hb : c.code = code) (hr : meth.sig.returnType = ret) (hml : c.maxLocals = 9) (hown : s.vm.findClass RL = some m.cls) (hts : ∀ w ∈ wsL_law, w.before #[Value.ref b] s = true) (hX : va_X b 5 xs s s.heap) (hbl : b < s.heap.size) (hlocks : meth.locks = false) (hl0 : l.stackTraces = false) (hA : ∀ q : Nat, s.heap.size ≤ q → A q) (hA2 : ∀ q : Nat, A q → s.heap.size ≤ q) (hbA : ¬ A b) (hE : zZ G A s s.heap) {x : Nat} {wa : Nat} {wb : Nat} {su : Nat} {cu : Nat} {tr : Nat} {co : Nat} {lo : Nat} {pk : Nat} {ro : Nat} {ou : Nat} {fp : Nat → Int32} {lr : Nat} {mm : Nat} {nw : Nat} {cq : Nat} {hi : Nat} {ko : Nat} {se : Nat} {nf : Nat} {ns : Nat} {pi : Nat} {vd : Nat} {lw : Nat} {hg : Nat} {rk : Nat} (v1 : Int32) (e1 : xs 1 = v1) (v2 : Int32) (e2 : xs 2 = v2) (v3 : Int32) (e3 : xs 3 = v3) (v4 : Int32) (e4 : xs 4 = v4) (hP : va_P G.1 vwCl [(x, .inr (7, [.ref wa, .ref wb, .ref su, .ref cu, .ref tr, .ref co, .ref lo, .ref pk])), (pk, .inl (G.2.1, 4, .inl (fp))), (wa, .inr (6, [.ref ro, .int 0, .int 0])), (lo, .inr (2, [.ref lr, .int 0, .int 0, .int 0, .int 0, .int 0])), (ou, .inl (G.2.2.2.1, 1, .inr (.inl (fun _ => 0)))), (mm, .inr (9, [.int 0, .ref nw, .ref cq, .ref hi, .int 0, .ref ko, .ref se, .int 0, .ref nf, .ref ns, .ref pi])), (nw, .inr (8, [.int 0, .int 0, .ref vd, .ref lw, .ref hg, .ref rk])), (se, .inl (G.2.1, 5, .inl (fun _ => 0)))] H) (hD : va_D A [(x, .inr (7, [.ref wa, .ref wb, .ref su, .ref cu, .ref tr, .ref co, .ref lo, .ref pk])), (pk, .inl (G.2.1, 4, .inl (fp))), (wa, .inr (6, [.ref ro, .int 0, .int 0])), (lo, .inr (2, [.ref lr, .int 0, .int 0, .int 0, .int 0, .int 0])), (ou, .inl (G.2.2.2.1, 1, .inr (.inl (fun _ => 0)))), (mm, .inr (9, [.int 0, .ref nw, .ref cq, .ref hi, .int 0, .ref ko, .ref se, .int 0, .ref nf, .ref ns, .ref pi])), (nw, .inr (8, [.int 0, .int 0, .ref vd, .ref lw, .ref hg, .ref rk])), (se, .inl (G.2.1, 5, .inl (fun _ => 0)))]) (hS : va_S A s.heap H locs) (hl : lv_has ls 9 [(4, .int 0), (3, .ref ou), (2, .ref mm), (1, .ref x), (0, .ref b)]) : W p l e room_1 s m #[Value.ref b] below meth c H locs 89 9213 (lw_Z below #[Value.ref b] s) (F0 m 1299 ls []) := by
  rcases zOk_or v1 v2 v3 v4 with h1 | h1
  · refine lv_aload_n hx hb dL_law_1299 rfl (lv_at hl 3 rfl) ?_
    refine lv_aload_n hx hb dL_law_1300 rfl (lv_at hl 4 rfl) ?_
    refine lv_iload hx hb dL_law_1301 (lv_at hl 0 rfl) ?_
    refine lv_iconst (v := 1) hx hb dL_law_1303 (by decide) ?_
    refine lv_iadd hx hb dL_law_1304 ?_
    refine zti (v := 1) (by decide) ?_
    refine va_sld hx hb hX hbl hbA hS (zin (by decide +kernel)) dL_law_1305 ?_
    refine zti (v := v1) e1 ?_
    refine lv_aload_n hx hb dL_law_1306 rfl (lv_at hl 4 rfl) ?_
    refine lv_iload hx hb dL_law_1307 (lv_at hl 0 rfl) ?_
    refine lv_iconst (v := 2) hx hb dL_law_1309 (by decide) ?_
    refine lv_iadd hx hb dL_law_1310 ?_
    refine zti (v := 2) (by decide) ?_
    refine va_sld hx hb hX hbl hbA hS (zin (by decide +kernel)) dL_law_1311 ?_
    refine zti (v := v2) e2 ?_
    refine lv_aload_n hx hb dL_law_1312 rfl (lv_at hl 4 rfl) ?_
    refine lv_iload hx hb dL_law_1313 (lv_at hl 0 rfl) ?_
    refine lv_iconst (v := 3) hx hb dL_law_1315 (by decide) ?_
    refine lv_iadd hx hb dL_law_1316 ?_
    refine zti (v := 3) (by decide) ?_
    refine va_sld hx hb hX hbl hbA hS (zin (by decide +kernel)) dL_law_1317 ?_
    refine zti (v := v3) e3 ?_
    refine lv_aload_n hx hb dL_law_1318 rfl (lv_at hl 4 rfl) ?_
    refine lv_iload hx hb dL_law_1319 (lv_at hl 0 rfl) ?_
    refine lv_iconst (v := 4) hx hb dL_law_1321 (by decide) ?_
    refine lv_iadd hx hb dL_law_1322 ?_
    refine zti (v := 4) (by decide) ?_
    refine va_sld hx hb hX hbl hbA hS (zin (by decide +kernel)) dL_law_1323 ?_
    refine zti (v := v4) e4 ?_
    refine lv_aload_n hx hb dL_law_1324 rfl (lv_at hl 1 rfl) ?_
    refine zcall (wr := [(mm, .inr (9, [.int 0, .ref nw, .ref cq, .ref hi, .int 0, .ref ko, .ref se, .int 0, .ref nf, .ref ns, .ref pi])), (nw, .inr (8, [.int 0, .int 0, .ref vd, .ref lw, .ref hg, .ref rk])), (se, .inl (G.2.1, 5, .inl (fun _ => 0)))]) (zrunH (vx_runSX (As := [.ref x, .int v1, .int v2, .int v3, .int v4, .ref ou]) (rest := []) ⟨hx, hb, hml, hown, hts⟩ (z_L_send l G x wa wb su cu tr co lo pk ro v1 v2 v3 v4 (fp) lr ou (fun _ => 0) h1 H.size) (vx_cwSW 6 hts gL_law_L_send rfl rfl rfl (by decide +kernel) ⟨Nat.le_of_ble_eq_true rfl, Nat.le_of_ble_eq_true rfl⟩) (zPre (Wc := [(x, .inr (7, [.ref wa, .ref wb, .ref su, .ref cu, .ref tr, .ref co, .ref lo, .ref pk])), (pk, .inl (G.2.1, 4, .inl (fp))), (wa, .inr (6, [.ref ro, .int 0, .int 0])), (lo, .inr (2, [.ref lr, .int 0, .int 0, .int 0, .int 0, .int 0])), (ou, .inl (G.2.2.2.1, 1, .inr (.inl (fun _ => 0))))]) hP hD hE hS hA [0, 1, 2, 3, 4] rfl (by decide)) rfl rfl hl.1 rfl (lv_room (Nat.le_of_ble_eq_true rfl)) dL_law_1325 ⟨Nat.le_of_ble_eq_true rfl, Nat.le_of_ble_eq_true rfl⟩)) hP hD hS hA [0, 1, 2, 3, 4] [5, 6, 7] rfl rfl (by decide) (by decide) (fun u1 H locs hP hD hS => ?_)
    have hP : va_P G.1 vwCl [(mm, .inr (9, [.int 0, .ref nw, .ref cq, .ref hi, .int 0, .ref ko, .ref se, .int 0, .ref nf, .ref ns, .ref pi])), (nw, .inr (8, [.int 0, .int 0, .ref vd, .ref lw, .ref hg, .ref rk])), (se, .inl (G.2.1, 5, .inl (fun _ => 0))), (ou, .inl (G.2.2.2.1, 1, .inr (.inl (vp_updL (fun _ => 0) 0 0)))), (x, .inr (7, [.ref wa, .ref wb, .ref su, .ref cu, .ref tr, .ref co, .ref lo, .ref pk])), (pk, .inl (G.2.1, 4, .inl (upd (upd (upd (upd fp 0 v1) 1 v2) 2 v3) 3 v4))), (wa, .inr (6, [.ref ro, .int 0, .int 0])), (lo, .inr (2, [.ref lr, .int 0, .int 1, .int 0, .int 0, .int 1]))] H := hP
    have hD : va_D A [(mm, .inr (9, [.int 0, .ref nw, .ref cq, .ref hi, .int 0, .ref ko, .ref se, .int 0, .ref nf, .ref ns, .ref pi])), (nw, .inr (8, [.int 0, .int 0, .ref vd, .ref lw, .ref hg, .ref rk])), (se, .inl (G.2.1, 5, .inl (fun _ => 0))), (ou, .inl (G.2.2.2.1, 1, .inr (.inl (vp_updL (fun _ => 0) 0 0)))), (x, .inr (7, [.ref wa, .ref wb, .ref su, .ref cu, .ref tr, .ref co, .ref lo, .ref pk])), (pk, .inl (G.2.1, 4, .inl (upd (upd (upd (upd fp 0 v1) 1 v2) 2 v3) 3 v4))), (wa, .inr (6, [.ref ro, .int 0, .int 0])), (lo, .inr (2, [.ref lr, .int 0, .int 1, .int 0, .int 0, .int 1]))] := hD
    refine W.eq (g2 := F0 m 1328 ls [.int 0]) rfl ?_
    refine lv_istore (lv' := [(5, .int 0), (4, .int 0), (3, .ref ou), (2, .ref mm), (1, .ref x), (0, .ref b)]) hx hb dL_law_1328 hl (by decide) rfl (fun ls hl => ?_)
    refine lv_aload_n hx hb dL_law_1330 rfl (lv_at hl 3 rfl) ?_
    refine lv_aload_n hx hb dL_law_1331 rfl (lv_at hl 5 rfl) ?_
    refine lv_iload hx hb dL_law_1332 (lv_at hl 1 rfl) ?_
    refine lv_iconst (v := 1) hx hb dL_law_1334 (by decide) ?_
    refine lv_iadd hx hb dL_law_1335 ?_
    refine zti (v := 1) (by decide) ?_
    refine va_sld hx hb hX hbl hbA hS (zin (by decide +kernel)) dL_law_1336 ?_
    refine zti (v := v1) e1 ?_
    refine lv_aload_n hx hb dL_law_1337 rfl (lv_at hl 5 rfl) ?_
    refine lv_iload hx hb dL_law_1338 (lv_at hl 1 rfl) ?_
    refine lv_iconst (v := 2) hx hb dL_law_1340 (by decide) ?_
    refine lv_iadd hx hb dL_law_1341 ?_
    refine zti (v := 2) (by decide) ?_
    refine va_sld hx hb hX hbl hbA hS (zin (by decide +kernel)) dL_law_1342 ?_
    refine zti (v := v2) e2 ?_
    refine lv_aload_n hx hb dL_law_1343 rfl (lv_at hl 5 rfl) ?_
    refine lv_iload hx hb dL_law_1344 (lv_at hl 1 rfl) ?_
    refine lv_iconst (v := 3) hx hb dL_law_1346 (by decide) ?_
    refine lv_iadd hx hb dL_law_1347 ?_
    refine zti (v := 3) (by decide) ?_
    refine va_sld hx hb hX hbl hbA hS (zin (by decide +kernel)) dL_law_1348 ?_
    refine zti (v := v3) e3 ?_
    refine lv_aload_n hx hb dL_law_1349 rfl (lv_at hl 5 rfl) ?_
    refine lv_iload hx hb dL_law_1350 (lv_at hl 1 rfl) ?_
    refine lv_iconst (v := 4) hx hb dL_law_1352 (by decide) ?_
    refine lv_iadd hx hb dL_law_1353 ?_
    refine zti (v := 4) (by decide) ?_
    refine va_sld hx hb hX hbl hbA hS (zin (by decide +kernel)) dL_law_1354 ?_
    refine zti (v := v4) e4 ?_
    refine zcall (wr := [(ou, .inl (G.2.2.2.1, 1, .inr (.inl (vp_updL (fun _ => 0) 0 0)))), (x, .inr (7, [.ref wa, .ref wb, .ref su, .ref cu, .ref tr, .ref co, .ref lo, .ref pk])), (pk, .inl (G.2.1, 4, .inl (upd (upd (upd (upd fp 0 v1) 1 v2) 2 v3) 3 v4))), (wa, .inr (6, [.ref ro, .int 0, .int 0])), (lo, .inr (2, [.ref lr, .int 0, .int 1, .int 0, .int 0, .int 1]))]) (va_runV (As := [.int v1, .int v2, .int v3, .int v4]) (rest := []) ⟨hx, hb, hml, hown, hts⟩ (z_X9_send l G mm nw cq hi ko se nf ns pi 0 vd lw hg rk v1 v2 v3 v4 h1 H.size) (cwV 4 hts gL_law_X9_send rfl rfl rfl (by decide +kernel) ⟨Nat.le_of_ble_eq_true rfl, Nat.le_of_ble_eq_true rfl⟩) (zPreV (Wc := [(mm, .inr (9, [.int 0, .ref nw, .ref cq, .ref hi, .int 0, .ref ko, .ref se, .int 0, .ref nf, .ref ns, .ref pi])), (nw, .inr (8, [.int 0, .int 0, .ref vd, .ref lw, .ref hg, .ref rk])), (se, .inl (G.2.1, 5, .inl (fun _ => 0)))]) (q0 := 0) (ci := 9) (q := (RX9, TX9, 11)) hP hD hE hS hA [0, 1, 2] rfl (by decide) rfl rfl) rfl rfl hl.1 rfl (lv_room (Nat.le_of_ble_eq_true rfl)) dL_law_1355 ⟨Nat.le_of_ble_eq_true rfl, Nat.le_of_ble_eq_true rfl⟩) hP hD hS hA [0, 1, 2] [3, 4, 5, 6, 7] rfl rfl (by decide) (by decide) (fun u2 H locs hP hD hS => ?_)
    have hP : va_P G.1 vwCl [(ou, .inl (G.2.2.2.1, 1, .inr (.inl (vp_updL (fun _ => 0) 0 0)))), (x, .inr (7, [.ref wa, .ref wb, .ref su, .ref cu, .ref tr, .ref co, .ref lo, .ref pk])), (pk, .inl (G.2.1, 4, .inl (upd (upd (upd (upd fp 0 v1) 1 v2) 2 v3) 3 v4))), (wa, .inr (6, [.ref ro, .int 0, .int 0])), (lo, .inr (2, [.ref lr, .int 0, .int 1, .int 0, .int 0, .int 1])), (mm, .inr (9, [.int 0, .ref nw, .ref cq, .ref hi, .int 0, .ref ko, .ref se, .int 0, .ref nf, .ref ns, .ref pi])), (nw, .inr (8, [.int 0, .int 0, .ref vd, .ref lw, .ref hg, .ref rk])), (se, .inl (G.2.1, 5, .inl (upd (upd (fun _ => 0) 0 1) 4 1)))] H := hP
    have hD : va_D A [(ou, .inl (G.2.2.2.1, 1, .inr (.inl (vp_updL (fun _ => 0) 0 0)))), (x, .inr (7, [.ref wa, .ref wb, .ref su, .ref cu, .ref tr, .ref co, .ref lo, .ref pk])), (pk, .inl (G.2.1, 4, .inl (upd (upd (upd (upd fp 0 v1) 1 v2) 2 v3) 3 v4))), (wa, .inr (6, [.ref ro, .int 0, .int 0])), (lo, .inr (2, [.ref lr, .int 0, .int 1, .int 0, .int 0, .int 1])), (mm, .inr (9, [.int 0, .ref nw, .ref cq, .ref hi, .int 0, .ref ko, .ref se, .int 0, .ref nf, .ref ns, .ref pi])), (nw, .inr (8, [.int 0, .int 0, .ref vd, .ref lw, .ref hg, .ref rk])), (se, .inl (G.2.1, 5, .inl (upd (upd (fun _ => 0) 0 1) 4 1)))] := hD
    refine W.eq (g2 := F0 m 1358 ls [.int 0]) rfl ?_
    refine lv_istore (lv' := [(6, .int 0), (5, .int 0), (4, .int 0), (3, .ref ou), (2, .ref mm), (1, .ref x), (0, .ref b)]) hx hb dL_law_1358 hl (by decide) rfl (fun ls hl => ?_)
    refine lv_aload_n hx hb dL_law_1360 rfl (lv_at hl 4 rfl) ?_
    refine zcall (wr := [(ou, .inl (G.2.2.2.1, 1, .inr (.inl (vp_updL (fun _ => 0) 0 0)))), (x, .inr (7, [.ref wa, .ref wb, .ref su, .ref cu, .ref tr, .ref co, .ref lo, .ref pk])), (pk, .inl (G.2.1, 4, .inl (upd (upd (upd (upd fp 0 v1) 1 v2) 2 v3) 3 v4))), (wa, .inr (6, [.ref ro, .int 0, .int 0])), (lo, .inr (2, [.ref lr, .int 0, .int 1, .int 0, .int 0, .int 1])), (nw, .inr (8, [.int 0, .int 0, .ref vd, .ref lw, .ref hg, .ref rk])), (se, .inl (G.2.1, 5, .inl (upd (upd (fun _ => 0) 0 1) 4 1)))]) (va_runV (As := []) (rest := []) ⟨hx, hb, hml, hown, hts⟩ (z_X9_thrown l G mm nw cq hi ko se nf ns pi 0 H.size) (cwV 0 hts gL_law_X9_thrown rfl rfl rfl (by decide +kernel) ⟨Nat.le_of_ble_eq_true rfl, Nat.le_of_ble_eq_true rfl⟩) (zPreV (Wc := [(mm, .inr (9, [.int 0, .ref nw, .ref cq, .ref hi, .int 0, .ref ko, .ref se, .int 0, .ref nf, .ref ns, .ref pi]))]) (q0 := 5) (ci := 9) (q := (RX9, TX9, 11)) hP hD hE hS hA [5] rfl (by decide) rfl rfl) rfl rfl hl.1 rfl (lv_room (Nat.le_of_ble_eq_true rfl)) dL_law_1361 ⟨Nat.le_of_ble_eq_true rfl, Nat.le_of_ble_eq_true rfl⟩) hP hD hS hA [5] [0, 1, 2, 3, 4, 6, 7] rfl rfl (by decide) (by decide) (fun u3 H locs hP hD hS => ?_)
    have hP : va_P G.1 vwCl [(ou, .inl (G.2.2.2.1, 1, .inr (.inl (vp_updL (fun _ => 0) 0 0)))), (x, .inr (7, [.ref wa, .ref wb, .ref su, .ref cu, .ref tr, .ref co, .ref lo, .ref pk])), (pk, .inl (G.2.1, 4, .inl (upd (upd (upd (upd fp 0 v1) 1 v2) 2 v3) 3 v4))), (wa, .inr (6, [.ref ro, .int 0, .int 0])), (lo, .inr (2, [.ref lr, .int 0, .int 1, .int 0, .int 0, .int 1])), (nw, .inr (8, [.int 0, .int 0, .ref vd, .ref lw, .ref hg, .ref rk])), (se, .inl (G.2.1, 5, .inl (upd (upd (fun _ => 0) 0 1) 4 1))), (mm, .inr (9, [.int 0, .ref nw, .ref cq, .ref hi, .int 0, .ref ko, .ref se, .int 0, .ref nf, .ref ns, .ref pi]))] H := hP
    have hD : va_D A [(ou, .inl (G.2.2.2.1, 1, .inr (.inl (vp_updL (fun _ => 0) 0 0)))), (x, .inr (7, [.ref wa, .ref wb, .ref su, .ref cu, .ref tr, .ref co, .ref lo, .ref pk])), (pk, .inl (G.2.1, 4, .inl (upd (upd (upd (upd fp 0 v1) 1 v2) 2 v3) 3 v4))), (wa, .inr (6, [.ref ro, .int 0, .int 0])), (lo, .inr (2, [.ref lr, .int 0, .int 1, .int 0, .int 0, .int 1])), (nw, .inr (8, [.int 0, .int 0, .ref vd, .ref lw, .ref hg, .ref rk])), (se, .inl (G.2.1, 5, .inl (upd (upd (fun _ => 0) 0 1) 4 1))), (mm, .inr (9, [.int 0, .ref nw, .ref cq, .ref hi, .int 0, .ref ko, .ref se, .int 0, .ref nf, .ref ns, .ref pi]))] := hD
    refine W.eq (g2 := F0 m 1364 ls [.int 0]) rfl ?_
    refine lv_iload hx hb dL_law_1364 (lv_at hl 1 rfl) ?_
    refine lv_icmp_eq (tgt := 1371) hx hb dL_law_1366 (by decide) (fun _ => ?_) (fun h9 => absurd (by decide) h9)
    refine lv_iload hx hb dL_law_1371 (lv_at hl 1 rfl) ?_
    refine lv_if_ne (tgt := 1388) hx hb dL_law_1373 (by decide) (fun h9 => absurd (by decide) h9) (fun _ => ?_)
    refine lv_aload_n hx hb dL_law_1376 rfl (lv_at hl 3 rfl) ?_
    refine lv_iconst (v := 0) hx hb dL_law_1377 (by decide) ?_
    refine va_lald hx hb hE.1 hP 0 2 rfl rfl (zin (by decide +kernel)) dL_law_1378 ?_
    refine ztl (v := 0) rfl ?_
    refine lv_iload hx hb dL_law_1379 (lv_at hl 0 rfl) ?_
    refine lv_i2l (v := 0) hx hb dL_law_1381 (by decide) ?_
    refine W.lcmp hx hb dL_law_1382 ?_
    refine zti (v := 0) (by decide) ?_
    refine lv_if_eq (tgt := 1388) hx hb dL_law_1383 (by decide) (fun _ => ?_) (fun h9 => absurd (by decide) h9)
    refine lv_goto (tgt := 1748) hx hb dL_law_1388 (by decide) ?_
    exact z_lawend hx hb hr hml hown hts hX hbl hlocks hl0 hA hA2 hbA hE (Nat.le_of_ble_eq_true rfl) (Nat.le_of_ble_eq_true rfl) hS (lv_sub hl [2, 6] rfl)
  · refine lv_aload_n hx hb dL_law_1299 rfl (lv_at hl 3 rfl) ?_
    refine lv_aload_n hx hb dL_law_1300 rfl (lv_at hl 4 rfl) ?_
    refine lv_iload hx hb dL_law_1301 (lv_at hl 0 rfl) ?_
    refine lv_iconst (v := 1) hx hb dL_law_1303 (by decide) ?_
    refine lv_iadd hx hb dL_law_1304 ?_
    refine zti (v := 1) (by decide) ?_
    refine va_sld hx hb hX hbl hbA hS (zin (by decide +kernel)) dL_law_1305 ?_
    refine zti (v := v1) e1 ?_
    refine lv_aload_n hx hb dL_law_1306 rfl (lv_at hl 4 rfl) ?_
    refine lv_iload hx hb dL_law_1307 (lv_at hl 0 rfl) ?_
    refine lv_iconst (v := 2) hx hb dL_law_1309 (by decide) ?_
    refine lv_iadd hx hb dL_law_1310 ?_
    refine zti (v := 2) (by decide) ?_
    refine va_sld hx hb hX hbl hbA hS (zin (by decide +kernel)) dL_law_1311 ?_
    refine zti (v := v2) e2 ?_
    refine lv_aload_n hx hb dL_law_1312 rfl (lv_at hl 4 rfl) ?_
    refine lv_iload hx hb dL_law_1313 (lv_at hl 0 rfl) ?_
    refine lv_iconst (v := 3) hx hb dL_law_1315 (by decide) ?_
    refine lv_iadd hx hb dL_law_1316 ?_
    refine zti (v := 3) (by decide) ?_
    refine va_sld hx hb hX hbl hbA hS (zin (by decide +kernel)) dL_law_1317 ?_
    refine zti (v := v3) e3 ?_
    refine lv_aload_n hx hb dL_law_1318 rfl (lv_at hl 4 rfl) ?_
    refine lv_iload hx hb dL_law_1319 (lv_at hl 0 rfl) ?_
    refine lv_iconst (v := 4) hx hb dL_law_1321 (by decide) ?_
    refine lv_iadd hx hb dL_law_1322 ?_
    refine zti (v := 4) (by decide) ?_
    refine va_sld hx hb hX hbl hbA hS (zin (by decide +kernel)) dL_law_1323 ?_
    refine zti (v := v4) e4 ?_
    refine lv_aload_n hx hb dL_law_1324 rfl (lv_at hl 1 rfl) ?_
    refine zcall (wr := [(pk, .inl (G.2.1, 4, .inl (fp))), (wa, .inr (6, [.ref ro, .int 0, .int 0])), (lo, .inr (2, [.ref lr, .int 0, .int 0, .int 0, .int 0, .int 0])), (ou, .inl (G.2.2.2.1, 1, .inr (.inl (fun _ => 0)))), (mm, .inr (9, [.int 0, .ref nw, .ref cq, .ref hi, .int 0, .ref ko, .ref se, .int 0, .ref nf, .ref ns, .ref pi])), (nw, .inr (8, [.int 0, .int 0, .ref vd, .ref lw, .ref hg, .ref rk])), (se, .inl (G.2.1, 5, .inl (fun _ => 0)))]) (zrunH (vx_runSX (As := [.ref x, .int v1, .int v2, .int v3, .int v4, .ref ou]) (rest := []) ⟨hx, hb, hml, hown, hts⟩ (z_L_sendT l G x wa wb su cu tr co lo pk v1 v2 v3 v4 ou hl0 h1 H.size) (vx_cwSW 6 hts gL_law_L_send rfl rfl rfl (by decide +kernel) ⟨Nat.le_of_ble_eq_true rfl, Nat.le_of_ble_eq_true rfl⟩) (zPre (Wc := [(x, .inr (7, [.ref wa, .ref wb, .ref su, .ref cu, .ref tr, .ref co, .ref lo, .ref pk]))]) hP hD hE hS hA [0] rfl (by decide)) rfl rfl hl.1 rfl (lv_room (Nat.le_of_ble_eq_true rfl)) dL_law_1325 ⟨Nat.le_of_ble_eq_true rfl, Nat.le_of_ble_eq_true rfl⟩)) hP hD hS hA [0] [1, 2, 3, 4, 5, 6, 7] rfl rfl (by decide) (by decide) (fun u1 H locs hP hD hS => ?_)
    have hP : va_P G.1 vwCl [(pk, .inl (G.2.1, 4, .inl (fp))), (wa, .inr (6, [.ref ro, .int 0, .int 0])), (lo, .inr (2, [.ref lr, .int 0, .int 0, .int 0, .int 0, .int 0])), (ou, .inl (G.2.2.2.1, 1, .inr (.inl (fun _ => 0)))), (mm, .inr (9, [.int 0, .ref nw, .ref cq, .ref hi, .int 0, .ref ko, .ref se, .int 0, .ref nf, .ref ns, .ref pi])), (nw, .inr (8, [.int 0, .int 0, .ref vd, .ref lw, .ref hg, .ref rk])), (se, .inl (G.2.1, 5, .inl (fun _ => 0))), (x, .inr (7, [.ref wa, .ref wb, .ref su, .ref cu, .ref tr, .ref co, .ref lo, .ref pk]))] H := hP
    have hD : va_D A [(pk, .inl (G.2.1, 4, .inl (fp))), (wa, .inr (6, [.ref ro, .int 0, .int 0])), (lo, .inr (2, [.ref lr, .int 0, .int 0, .int 0, .int 0, .int 0])), (ou, .inl (G.2.2.2.1, 1, .inr (.inl (fun _ => 0)))), (mm, .inr (9, [.int 0, .ref nw, .ref cq, .ref hi, .int 0, .ref ko, .ref se, .int 0, .ref nf, .ref ns, .ref pi])), (nw, .inr (8, [.int 0, .int 0, .ref vd, .ref lw, .ref hg, .ref rk])), (se, .inl (G.2.1, 5, .inl (fun _ => 0))), (x, .inr (7, [.ref wa, .ref wb, .ref su, .ref cu, .ref tr, .ref co, .ref lo, .ref pk]))] := hD
    refine W.eq (g2 := F0 m 1328 ls [.int 1]) rfl ?_
    refine lv_istore (lv' := [(5, .int 1), (4, .int 0), (3, .ref ou), (2, .ref mm), (1, .ref x), (0, .ref b)]) hx hb dL_law_1328 hl (by decide) rfl (fun ls hl => ?_)
    refine lv_aload_n hx hb dL_law_1330 rfl (lv_at hl 3 rfl) ?_
    refine lv_aload_n hx hb dL_law_1331 rfl (lv_at hl 5 rfl) ?_
    refine lv_iload hx hb dL_law_1332 (lv_at hl 1 rfl) ?_
    refine lv_iconst (v := 1) hx hb dL_law_1334 (by decide) ?_
    refine lv_iadd hx hb dL_law_1335 ?_
    refine zti (v := 1) (by decide) ?_
    refine va_sld hx hb hX hbl hbA hS (zin (by decide +kernel)) dL_law_1336 ?_
    refine zti (v := v1) e1 ?_
    refine lv_aload_n hx hb dL_law_1337 rfl (lv_at hl 5 rfl) ?_
    refine lv_iload hx hb dL_law_1338 (lv_at hl 1 rfl) ?_
    refine lv_iconst (v := 2) hx hb dL_law_1340 (by decide) ?_
    refine lv_iadd hx hb dL_law_1341 ?_
    refine zti (v := 2) (by decide) ?_
    refine va_sld hx hb hX hbl hbA hS (zin (by decide +kernel)) dL_law_1342 ?_
    refine zti (v := v2) e2 ?_
    refine lv_aload_n hx hb dL_law_1343 rfl (lv_at hl 5 rfl) ?_
    refine lv_iload hx hb dL_law_1344 (lv_at hl 1 rfl) ?_
    refine lv_iconst (v := 3) hx hb dL_law_1346 (by decide) ?_
    refine lv_iadd hx hb dL_law_1347 ?_
    refine zti (v := 3) (by decide) ?_
    refine va_sld hx hb hX hbl hbA hS (zin (by decide +kernel)) dL_law_1348 ?_
    refine zti (v := v3) e3 ?_
    refine lv_aload_n hx hb dL_law_1349 rfl (lv_at hl 5 rfl) ?_
    refine lv_iload hx hb dL_law_1350 (lv_at hl 1 rfl) ?_
    refine lv_iconst (v := 4) hx hb dL_law_1352 (by decide) ?_
    refine lv_iadd hx hb dL_law_1353 ?_
    refine zti (v := 4) (by decide) ?_
    refine va_sld hx hb hX hbl hbA hS (zin (by decide +kernel)) dL_law_1354 ?_
    refine zti (v := v4) e4 ?_
    refine zcall (wr := [(pk, .inl (G.2.1, 4, .inl (fp))), (wa, .inr (6, [.ref ro, .int 0, .int 0])), (lo, .inr (2, [.ref lr, .int 0, .int 0, .int 0, .int 0, .int 0])), (ou, .inl (G.2.2.2.1, 1, .inr (.inl (fun _ => 0)))), (nw, .inr (8, [.int 0, .int 0, .ref vd, .ref lw, .ref hg, .ref rk])), (se, .inl (G.2.1, 5, .inl (fun _ => 0))), (x, .inr (7, [.ref wa, .ref wb, .ref su, .ref cu, .ref tr, .ref co, .ref lo, .ref pk]))]) (va_runV (As := [.int v1, .int v2, .int v3, .int v4]) (rest := []) ⟨hx, hb, hml, hown, hts⟩ (z_X9_sendT l G mm nw cq hi ko se nf ns pi 0 v1 v2 v3 v4 h1 H.size) (cwV 4 hts gL_law_X9_send rfl rfl rfl (by decide +kernel) ⟨Nat.le_of_ble_eq_true rfl, Nat.le_of_ble_eq_true rfl⟩) (zPreV (Wc := [(mm, .inr (9, [.int 0, .ref nw, .ref cq, .ref hi, .int 0, .ref ko, .ref se, .int 0, .ref nf, .ref ns, .ref pi]))]) (q0 := 4) (ci := 9) (q := (RX9, TX9, 11)) hP hD hE hS hA [4] rfl (by decide) rfl rfl) rfl rfl hl.1 rfl (lv_room (Nat.le_of_ble_eq_true rfl)) dL_law_1355 ⟨Nat.le_of_ble_eq_true rfl, Nat.le_of_ble_eq_true rfl⟩) hP hD hS hA [4] [0, 1, 2, 3, 5, 6, 7] rfl rfl (by decide) (by decide) (fun u2 H locs hP hD hS => ?_)
    have hP : va_P G.1 vwCl [(pk, .inl (G.2.1, 4, .inl (fp))), (wa, .inr (6, [.ref ro, .int 0, .int 0])), (lo, .inr (2, [.ref lr, .int 0, .int 0, .int 0, .int 0, .int 0])), (ou, .inl (G.2.2.2.1, 1, .inr (.inl (fun _ => 0)))), (nw, .inr (8, [.int 0, .int 0, .ref vd, .ref lw, .ref hg, .ref rk])), (se, .inl (G.2.1, 5, .inl (fun _ => 0))), (x, .inr (7, [.ref wa, .ref wb, .ref su, .ref cu, .ref tr, .ref co, .ref lo, .ref pk])), (mm, .inr (9, [.int 1, .ref nw, .ref cq, .ref hi, .int 0, .ref ko, .ref se, .int 0, .ref nf, .ref ns, .ref pi]))] H := hP
    have hD : va_D A [(pk, .inl (G.2.1, 4, .inl (fp))), (wa, .inr (6, [.ref ro, .int 0, .int 0])), (lo, .inr (2, [.ref lr, .int 0, .int 0, .int 0, .int 0, .int 0])), (ou, .inl (G.2.2.2.1, 1, .inr (.inl (fun _ => 0)))), (nw, .inr (8, [.int 0, .int 0, .ref vd, .ref lw, .ref hg, .ref rk])), (se, .inl (G.2.1, 5, .inl (fun _ => 0))), (x, .inr (7, [.ref wa, .ref wb, .ref su, .ref cu, .ref tr, .ref co, .ref lo, .ref pk])), (mm, .inr (9, [.int 1, .ref nw, .ref cq, .ref hi, .int 0, .ref ko, .ref se, .int 0, .ref nf, .ref ns, .ref pi]))] := hD
    refine W.eq (g2 := F0 m 1358 ls [.int 0]) rfl ?_
    refine lv_istore (lv' := [(6, .int 0), (5, .int 1), (4, .int 0), (3, .ref ou), (2, .ref mm), (1, .ref x), (0, .ref b)]) hx hb dL_law_1358 hl (by decide) rfl (fun ls hl => ?_)
    refine lv_aload_n hx hb dL_law_1360 rfl (lv_at hl 4 rfl) ?_
    refine zcall (wr := [(pk, .inl (G.2.1, 4, .inl (fp))), (wa, .inr (6, [.ref ro, .int 0, .int 0])), (lo, .inr (2, [.ref lr, .int 0, .int 0, .int 0, .int 0, .int 0])), (ou, .inl (G.2.2.2.1, 1, .inr (.inl (fun _ => 0)))), (nw, .inr (8, [.int 0, .int 0, .ref vd, .ref lw, .ref hg, .ref rk])), (se, .inl (G.2.1, 5, .inl (fun _ => 0))), (x, .inr (7, [.ref wa, .ref wb, .ref su, .ref cu, .ref tr, .ref co, .ref lo, .ref pk]))]) (va_runV (As := []) (rest := []) ⟨hx, hb, hml, hown, hts⟩ (z_X9_thrown l G mm nw cq hi ko se nf ns pi 1 H.size) (cwV 0 hts gL_law_X9_thrown rfl rfl rfl (by decide +kernel) ⟨Nat.le_of_ble_eq_true rfl, Nat.le_of_ble_eq_true rfl⟩) (zPreV (Wc := [(mm, .inr (9, [.int 1, .ref nw, .ref cq, .ref hi, .int 0, .ref ko, .ref se, .int 0, .ref nf, .ref ns, .ref pi]))]) (q0 := 7) (ci := 9) (q := (RX9, TX9, 11)) hP hD hE hS hA [7] rfl (by decide) rfl rfl) rfl rfl hl.1 rfl (lv_room (Nat.le_of_ble_eq_true rfl)) dL_law_1361 ⟨Nat.le_of_ble_eq_true rfl, Nat.le_of_ble_eq_true rfl⟩) hP hD hS hA [7] [0, 1, 2, 3, 4, 5, 6] rfl rfl (by decide) (by decide) (fun u3 H locs hP hD hS => ?_)
    have hP : va_P G.1 vwCl [(pk, .inl (G.2.1, 4, .inl (fp))), (wa, .inr (6, [.ref ro, .int 0, .int 0])), (lo, .inr (2, [.ref lr, .int 0, .int 0, .int 0, .int 0, .int 0])), (ou, .inl (G.2.2.2.1, 1, .inr (.inl (fun _ => 0)))), (nw, .inr (8, [.int 0, .int 0, .ref vd, .ref lw, .ref hg, .ref rk])), (se, .inl (G.2.1, 5, .inl (fun _ => 0))), (x, .inr (7, [.ref wa, .ref wb, .ref su, .ref cu, .ref tr, .ref co, .ref lo, .ref pk])), (mm, .inr (9, [.int 1, .ref nw, .ref cq, .ref hi, .int 0, .ref ko, .ref se, .int 0, .ref nf, .ref ns, .ref pi]))] H := hP
    have hD : va_D A [(pk, .inl (G.2.1, 4, .inl (fp))), (wa, .inr (6, [.ref ro, .int 0, .int 0])), (lo, .inr (2, [.ref lr, .int 0, .int 0, .int 0, .int 0, .int 0])), (ou, .inl (G.2.2.2.1, 1, .inr (.inl (fun _ => 0)))), (nw, .inr (8, [.int 0, .int 0, .ref vd, .ref lw, .ref hg, .ref rk])), (se, .inl (G.2.1, 5, .inl (fun _ => 0))), (x, .inr (7, [.ref wa, .ref wb, .ref su, .ref cu, .ref tr, .ref co, .ref lo, .ref pk])), (mm, .inr (9, [.int 1, .ref nw, .ref cq, .ref hi, .int 0, .ref ko, .ref se, .int 0, .ref nf, .ref ns, .ref pi]))] := hD
    refine W.eq (g2 := F0 m 1364 ls [.int 1]) rfl ?_
    refine lv_iload hx hb dL_law_1364 (lv_at hl 1 rfl) ?_
    refine lv_icmp_eq (tgt := 1371) hx hb dL_law_1366 (by decide) (fun _ => ?_) (fun h9 => absurd (by decide) h9)
    refine lv_iload hx hb dL_law_1371 (lv_at hl 1 rfl) ?_
    refine lv_if_ne (tgt := 1388) hx hb dL_law_1373 (by decide) (fun _ => ?_) (fun h9 => absurd h9 (by decide))
    refine lv_goto (tgt := 1748) hx hb dL_law_1388 (by decide) ?_
    exact z_lawend hx hb hr hml hown hts hX hbl hlocks hl0 hA hA2 hbA hE (Nat.le_of_ble_eq_true rfl) (Nat.le_of_ble_eq_true rfl) hS (lv_sub hl [2, 6] rfl)

set_option maxHeartbeats 4000000 in
set_option maxRecDepth 100000 in
theorem z_case16 {p : Program} {l : Launch} {e : Env} {s : State} {m : MethodId} {below : List Frame} {meth : Method} {c : Code} {A : Nat → Prop} {H : Heap} {locs : List Loc} {ls : Array Slot} {G : zG} {b : Nat} {xs : Nat → Int32} (hx : p.tables.exec = Jvm.exec) (hb : c.code = code) (hr : meth.sig.returnType = ret) (hml : c.maxLocals = 9) (hown : s.vm.findClass RL = some m.cls) (hts : ∀ w ∈ wsL_law, w.before #[Value.ref b] s = true) (hX : va_X b 5 xs s s.heap) (hbl : b < s.heap.size) (hlocks : meth.locks = false) (hl0 : l.stackTraces = false) (hA : ∀ q : Nat, s.heap.size ≤ q → A q) (hA2 : ∀ q : Nat, A q → s.heap.size ≤ q) (hbA : ¬ A b) (hE : zZ G A s s.heap) {x : Nat} {wa : Nat} {wb : Nat} {su : Nat} {cu : Nat} {tr : Nat} {co : Nat} {lo : Nat} {pk : Nat} {ro : Nat} {rb : Nat} {cc : Nat} {cs : Nat} {cm : Nat} {fc : Nat → Int32} {fs : Nat → Int32} {fm : Nat → Int32} {tn : Nat} {tc : Nat} {ts : Nat} {ft : Nat → Int32} {ou : Nat} {mm : Nat} {nw : Nat} {cq : Nat} {hi : Nat} {ko : Nat} {se : Nat} {nf : Nat} {ns : Nat} {pi : Nat} {vd : Nat} {lw : Nat} {hg : Nat} {rk : Nat} (hP : va_P G.1 vwCl [(x, .inr (7, [.ref wa, .ref wb, .ref su, .ref cu, .ref tr, .ref co, .ref lo, .ref pk])), (cu, .inr (1, [.ref wa, .ref wb, .ref cc, .ref cs, .ref cm, .int 0])), (wa, .inr (6, [.ref ro, .int 0, .int 0])), (wb, .inr (6, [.ref rb, .int 0, .int 0])), (cc, .inl (G.2.1, 4, .inl (fc))), (cs, .inl (G.2.1, 132, .inl (fs))), (cm, .inl (G.2.1, 132, .inl (fm))), (tr, .inr (5, [.ref wa, .ref cu, .ref tn, .ref tc, .ref ts, .int 0, .int 0])), (tn, .inl (G.2.1, 1024, .inl (ft))), (mm, .inr (9, [.int 0, .ref nw, .ref cq, .ref hi, .int 0, .ref ko, .ref se, .int 0, .ref nf, .ref ns, .ref pi])), (nw, .inr (8, [.int 0, .int 0, .ref vd, .ref lw, .ref hg, .ref rk]))] H) (hD : va_D A [(x, .inr (7, [.ref wa, .ref wb, .ref su, .ref cu, .ref tr, .ref co, .ref lo, .ref pk])), (cu, .inr (1, [.ref wa, .ref wb, .ref cc, .ref cs, .ref cm, .int 0])), (wa, .inr (6, [.ref ro, .int 0, .int 0])), (wb, .inr (6, [.ref rb, .int 0, .int 0])), (cc, .inl (G.2.1, 4, .inl (fc))), (cs, .inl (G.2.1, 132, .inl (fs))), (cm, .inl (G.2.1, 132, .inl (fm))), (tr, .inr (5, [.ref wa, .ref cu, .ref tn, .ref tc, .ref ts, .int 0, .int 0])), (tn, .inl (G.2.1, 1024, .inl (ft))), (mm, .inr (9, [.int 0, .ref nw, .ref cq, .ref hi, .int 0, .ref ko, .ref se, .int 0, .ref nf, .ref ns, .ref pi])), (nw, .inr (8, [.int 0, .int 0, .ref vd, .ref lw, .ref hg, .ref rk]))]) (hS : va_S A s.heap H locs) (hl : lv_has ls 9 [(4, .int 0), (3, .ref ou), (2, .ref mm), (1, .ref x), (0, .ref b)]) : W p l e room_1 s m #[Value.ref b] below meth c H locs 89 9213 (lw_Z below #[Value.ref b] s) (F0 m 1005 ls []) := by
  refine lv_aload_n hx hb dL_law_1005 rfl (lv_at hl 3 rfl) ?_
  refine zcall (wr := [(mm, .inr (9, [.int 0, .ref nw, .ref cq, .ref hi, .int 0, .ref ko, .ref se, .int 0, .ref nf, .ref ns, .ref pi])), (nw, .inr (8, [.int 0, .int 0, .ref vd, .ref lw, .ref hg, .ref rk]))]) (va_runV (As := []) (rest := []) ⟨hx, hb, hml, hown, hts⟩ (z_X7_nodes0 l G x wa wb su cu tr co lo pk ro rb cc cs cm (fc) (fs) (fm) tn tc ts (ft) H.size) (cwV 0 hts gL_law_X7_nodes rfl rfl rfl (by decide +kernel) ⟨Nat.le_of_ble_eq_true rfl, Nat.le_of_ble_eq_true rfl⟩) (zPreV (Wc := [(x, .inr (7, [.ref wa, .ref wb, .ref su, .ref cu, .ref tr, .ref co, .ref lo, .ref pk])), (cu, .inr (1, [.ref wa, .ref wb, .ref cc, .ref cs, .ref cm, .int 0])), (wa, .inr (6, [.ref ro, .int 0, .int 0])), (wb, .inr (6, [.ref rb, .int 0, .int 0])), (cc, .inl (G.2.1, 4, .inl (fc))), (cs, .inl (G.2.1, 132, .inl (fs))), (cm, .inl (G.2.1, 132, .inl (fm))), (tr, .inr (5, [.ref wa, .ref cu, .ref tn, .ref tc, .ref ts, .int 0, .int 0])), (tn, .inl (G.2.1, 1024, .inl (ft)))]) (q0 := 0) (ci := 7) (q := (RX7, TX7, 8)) hP hD hE hS hA [0, 1, 2, 3, 4, 5, 6, 7, 8] rfl (by decide) rfl rfl) rfl rfl hl.1 rfl (lv_room (Nat.le_of_ble_eq_true rfl)) dL_law_1006 ⟨Nat.le_of_ble_eq_true rfl, Nat.le_of_ble_eq_true rfl⟩) hP hD hS hA [0, 1, 2, 3, 4, 5, 6, 7, 8] [9, 10] rfl rfl (by decide) (by decide) (fun u1 H locs hP hD hS => ?_)
  have hP : va_P G.1 vwCl [(mm, .inr (9, [.int 0, .ref nw, .ref cq, .ref hi, .int 0, .ref ko, .ref se, .int 0, .ref nf, .ref ns, .ref pi])), (nw, .inr (8, [.int 0, .int 0, .ref vd, .ref lw, .ref hg, .ref rk])), (x, .inr (7, [.ref wa, .ref wb, .ref su, .ref cu, .ref tr, .ref co, .ref lo, .ref pk])), (cu, .inr (1, [.ref wa, .ref wb, .ref cc, .ref cs, .ref cm, .int 1])), (cc, .inl (G.2.1, 4, .inl (upd (upd (upd (upd fc 0 1) 1 1) 2 1) 3 1))), (cs, .inl (G.2.1, 132, .inl (upd (upd (upd (upd fs 0 0) 33 0) 66 0) 99 0))), (cm, .inl (G.2.1, 132, .inl (upd (upd (upd (upd fm 0 0) 33 0) 66 0) 99 0))), (wb, .inr (6, [.ref rb, .int 0, .int 0])), (tn, .inl (G.2.1, 1024, .inl (zfill 1024 ft))), (tr, .inr (5, [.ref wa, .ref cu, .ref tn, .ref tc, .ref ts, .int 0, .int 1])), (wa, .inr (6, [.ref ro, .int 0, .int 0]))] H := hP
  have hD : va_D A [(mm, .inr (9, [.int 0, .ref nw, .ref cq, .ref hi, .int 0, .ref ko, .ref se, .int 0, .ref nf, .ref ns, .ref pi])), (nw, .inr (8, [.int 0, .int 0, .ref vd, .ref lw, .ref hg, .ref rk])), (x, .inr (7, [.ref wa, .ref wb, .ref su, .ref cu, .ref tr, .ref co, .ref lo, .ref pk])), (cu, .inr (1, [.ref wa, .ref wb, .ref cc, .ref cs, .ref cm, .int 1])), (cc, .inl (G.2.1, 4, .inl (upd (upd (upd (upd fc 0 1) 1 1) 2 1) 3 1))), (cs, .inl (G.2.1, 132, .inl (upd (upd (upd (upd fs 0 0) 33 0) 66 0) 99 0))), (cm, .inl (G.2.1, 132, .inl (upd (upd (upd (upd fm 0 0) 33 0) 66 0) 99 0))), (wb, .inr (6, [.ref rb, .int 0, .int 0])), (tn, .inl (G.2.1, 1024, .inl (zfill 1024 ft))), (tr, .inr (5, [.ref wa, .ref cu, .ref tn, .ref tc, .ref ts, .int 0, .int 1])), (wa, .inr (6, [.ref ro, .int 0, .int 0]))] := hD
  refine W.eq (g2 := F0 m 1009 ls [.int 0]) rfl ?_
  refine lv_aload_n hx hb dL_law_1009 rfl (lv_at hl 2 rfl) ?_
  refine zcall (wr := [(x, .inr (7, [.ref wa, .ref wb, .ref su, .ref cu, .ref tr, .ref co, .ref lo, .ref pk])), (cu, .inr (1, [.ref wa, .ref wb, .ref cc, .ref cs, .ref cm, .int 1])), (cc, .inl (G.2.1, 4, .inl (upd (upd (upd (upd fc 0 1) 1 1) 2 1) 3 1))), (cs, .inl (G.2.1, 132, .inl (upd (upd (upd (upd fs 0 0) 33 0) 66 0) 99 0))), (cm, .inl (G.2.1, 132, .inl (upd (upd (upd (upd fm 0 0) 33 0) 66 0) 99 0))), (wb, .inr (6, [.ref rb, .int 0, .int 0])), (tn, .inl (G.2.1, 1024, .inl (zfill 1024 ft))), (tr, .inr (5, [.ref wa, .ref cu, .ref tn, .ref tc, .ref ts, .int 0, .int 1])), (wa, .inr (6, [.ref ro, .int 0, .int 0]))]) (va_runV (As := []) (rest := [.int 0]) ⟨hx, hb, hml, hown, hts⟩ (z_X9_nodes l G mm nw cq hi ko se nf ns pi 0 vd lw hg rk H.size) (cwV 0 hts gL_law_X9_nodes rfl rfl rfl (by decide +kernel) ⟨Nat.le_of_ble_eq_true rfl, Nat.le_of_ble_eq_true rfl⟩) (zPreV (Wc := [(mm, .inr (9, [.int 0, .ref nw, .ref cq, .ref hi, .int 0, .ref ko, .ref se, .int 0, .ref nf, .ref ns, .ref pi])), (nw, .inr (8, [.int 0, .int 0, .ref vd, .ref lw, .ref hg, .ref rk]))]) (q0 := 0) (ci := 9) (q := (RX9, TX9, 11)) hP hD hE hS hA [0, 1] rfl (by decide) rfl rfl) rfl rfl hl.1 rfl (lv_room (Nat.le_of_ble_eq_true rfl)) dL_law_1010 ⟨Nat.le_of_ble_eq_true rfl, Nat.le_of_ble_eq_true rfl⟩) hP hD hS hA [0, 1] [2, 3, 4, 5, 6, 7, 8, 9, 10] rfl rfl (by decide) (by decide) (fun u2 H locs hP hD hS => ?_)
  have hP : va_P G.1 vwCl [(x, .inr (7, [.ref wa, .ref wb, .ref su, .ref cu, .ref tr, .ref co, .ref lo, .ref pk])), (cu, .inr (1, [.ref wa, .ref wb, .ref cc, .ref cs, .ref cm, .int 1])), (cc, .inl (G.2.1, 4, .inl (upd (upd (upd (upd fc 0 1) 1 1) 2 1) 3 1))), (cs, .inl (G.2.1, 132, .inl (upd (upd (upd (upd fs 0 0) 33 0) 66 0) 99 0))), (cm, .inl (G.2.1, 132, .inl (upd (upd (upd (upd fm 0 0) 33 0) 66 0) 99 0))), (wb, .inr (6, [.ref rb, .int 0, .int 0])), (tn, .inl (G.2.1, 1024, .inl (zfill 1024 ft))), (tr, .inr (5, [.ref wa, .ref cu, .ref tn, .ref tc, .ref ts, .int 0, .int 1])), (wa, .inr (6, [.ref ro, .int 0, .int 0])), (mm, .inr (9, [.int 0, .ref nw, .ref cq, .ref hi, .int 0, .ref ko, .ref se, .int 0, .ref nf, .ref ns, .ref pi])), (nw, .inr (8, [.int 0, .int 0, .ref vd, .ref lw, .ref hg, .ref rk]))] H := hP
  have hD : va_D A [(x, .inr (7, [.ref wa, .ref wb, .ref su, .ref cu, .ref tr, .ref co, .ref lo, .ref pk])), (cu, .inr (1, [.ref wa, .ref wb, .ref cc, .ref cs, .ref cm, .int 1])), (cc, .inl (G.2.1, 4, .inl (upd (upd (upd (upd fc 0 1) 1 1) 2 1) 3 1))), (cs, .inl (G.2.1, 132, .inl (upd (upd (upd (upd fs 0 0) 33 0) 66 0) 99 0))), (cm, .inl (G.2.1, 132, .inl (upd (upd (upd (upd fm 0 0) 33 0) 66 0) 99 0))), (wb, .inr (6, [.ref rb, .int 0, .int 0])), (tn, .inl (G.2.1, 1024, .inl (zfill 1024 ft))), (tr, .inr (5, [.ref wa, .ref cu, .ref tn, .ref tc, .ref ts, .int 0, .int 1])), (wa, .inr (6, [.ref ro, .int 0, .int 0])), (mm, .inr (9, [.int 0, .ref nw, .ref cq, .ref hi, .int 0, .ref ko, .ref se, .int 0, .ref nf, .ref ns, .ref pi])), (nw, .inr (8, [.int 0, .int 0, .ref vd, .ref lw, .ref hg, .ref rk]))] := hD
  refine W.eq (g2 := F0 m 1013 ls [.int 0, .int 0]) rfl ?_
  refine lv_icmp_eq (tgt := 1748) hx hb dL_law_1013 (by decide) (fun _ => ?_) (fun h9 => absurd (by decide) h9)
  exact z_lawend hx hb hr hml hown hts hX hbl hlocks hl0 hA hA2 hbA hE (Nat.le_of_ble_eq_true rfl) (Nat.le_of_ble_eq_true rfl) hS (lv_sub hl [0, 4] rfl)

set_option maxHeartbeats 4000000 in
set_option maxRecDepth 100000 in
theorem z_case17 {p : Program} {l : Launch} {e : Env} {s : State} {m : MethodId} {below : List Frame} {meth : Method} {c : Code} {A : Nat → Prop} {H : Heap} {locs : List Loc} {ls : Array Slot} {G : zG} {b : Nat} {xs : Nat → Int32} (hx : p.tables.exec = Jvm.exec) (hb : c.code = code) (hr : meth.sig.returnType = ret) (hml : c.maxLocals = 9) (hown : s.vm.findClass RL = some m.cls) (hts : ∀ w ∈ wsL_law, w.before #[Value.ref b] s = true) (hX : va_X b 5 xs s s.heap) (hbl : b < s.heap.size) (hlocks : meth.locks = false) (hl0 : l.stackTraces = false) (hA : ∀ q : Nat, s.heap.size ≤ q → A q) (hA2 : ∀ q : Nat, A q → s.heap.size ≤ q) (hbA : ¬ A b) (hE : zZ G A s s.heap) {x : Nat} {wa : Nat} {wb : Nat} {su : Nat} {cu : Nat} {tr : Nat} {co : Nat} {lo : Nat} {pk : Nat} {ro : Nat} {rb : Nat} {cc : Nat} {cs : Nat} {cm : Nat} {fc : Nat → Int32} {fs : Nat → Int32} {fm : Nat → Int32} {tn : Nat} {tc : Nat} {ts : Nat} {ft : Nat → Int32} {ou : Nat} {mm : Nat} {nw : Nat} {cq : Nat} {hi : Nat} {ko : Nat} {se : Nat} {nf : Nat} {ns : Nat} {pi : Nat} {vd : Nat} {lw : Nat} {hg : Nat} {rk : Nat} (v1 : Int32) (e1 : xs 1 = v1) (v2 : Int32) (e2 : xs 2 = v2) (hP : va_P G.1 vwCl [(x, .inr (7, [.ref wa, .ref wb, .ref su, .ref cu, .ref tr, .ref co, .ref lo, .ref pk])), (cu, .inr (1, [.ref wa, .ref wb, .ref cc, .ref cs, .ref cm, .int 0])), (wa, .inr (6, [.ref ro, .int 0, .int 0])), (wb, .inr (6, [.ref rb, .int 0, .int 0])), (cc, .inl (G.2.1, 4, .inl (fc))), (cs, .inl (G.2.1, 132, .inl (fs))), (cm, .inl (G.2.1, 132, .inl (fm))), (tr, .inr (5, [.ref wa, .ref cu, .ref tn, .ref tc, .ref ts, .int 0, .int 0])), (tn, .inl (G.2.1, 1024, .inl (ft))), (mm, .inr (9, [.int 0, .ref nw, .ref cq, .ref hi, .int 0, .ref ko, .ref se, .int 0, .ref nf, .ref ns, .ref pi])), (nw, .inr (8, [.int 0, .int 0, .ref vd, .ref lw, .ref hg, .ref rk]))] H) (hD : va_D A [(x, .inr (7, [.ref wa, .ref wb, .ref su, .ref cu, .ref tr, .ref co, .ref lo, .ref pk])), (cu, .inr (1, [.ref wa, .ref wb, .ref cc, .ref cs, .ref cm, .int 0])), (wa, .inr (6, [.ref ro, .int 0, .int 0])), (wb, .inr (6, [.ref rb, .int 0, .int 0])), (cc, .inl (G.2.1, 4, .inl (fc))), (cs, .inl (G.2.1, 132, .inl (fs))), (cm, .inl (G.2.1, 132, .inl (fm))), (tr, .inr (5, [.ref wa, .ref cu, .ref tn, .ref tc, .ref ts, .int 0, .int 0])), (tn, .inl (G.2.1, 1024, .inl (ft))), (mm, .inr (9, [.int 0, .ref nw, .ref cq, .ref hi, .int 0, .ref ko, .ref se, .int 0, .ref nf, .ref ns, .ref pi])), (nw, .inr (8, [.int 0, .int 0, .ref vd, .ref lw, .ref hg, .ref rk]))]) (hS : va_S A s.heap H locs) (hl : lv_has ls 9 [(4, .int 0), (3, .ref ou), (2, .ref mm), (1, .ref x), (0, .ref b)]) : W p l e room_1 s m #[Value.ref b] below meth c H locs 89 9213 (lw_Z below #[Value.ref b] s) (F0 m 1018 ls []) := by
  refine lv_aload_n hx hb dL_law_1018 rfl (lv_at hl 3 rfl) ?_
  refine lv_aload_n hx hb dL_law_1019 rfl (lv_at hl 4 rfl) ?_
  refine lv_iload hx hb dL_law_1020 (lv_at hl 0 rfl) ?_
  refine lv_iconst (v := 1) hx hb dL_law_1022 (by decide) ?_
  refine lv_iadd hx hb dL_law_1023 ?_
  refine zti (v := 1) (by decide) ?_
  refine va_sld hx hb hX hbl hbA hS (zin (by decide +kernel)) dL_law_1024 ?_
  refine zti (v := v1) e1 ?_
  refine lv_aload_n hx hb dL_law_1025 rfl (lv_at hl 4 rfl) ?_
  refine lv_iload hx hb dL_law_1026 (lv_at hl 0 rfl) ?_
  refine lv_iconst (v := 2) hx hb dL_law_1028 (by decide) ?_
  refine lv_iadd hx hb dL_law_1029 ?_
  refine zti (v := 2) (by decide) ?_
  refine va_sld hx hb hX hbl hbA hS (zin (by decide +kernel)) dL_law_1030 ?_
  refine zti (v := v2) e2 ?_
  refine lv_aload_n hx hb dL_law_1031 rfl (lv_at hl 1 rfl) ?_
  refine zcall (wr := [(mm, .inr (9, [.int 0, .ref nw, .ref cq, .ref hi, .int 0, .ref ko, .ref se, .int 0, .ref nf, .ref ns, .ref pi])), (nw, .inr (8, [.int 0, .int 0, .ref vd, .ref lw, .ref hg, .ref rk]))]) (zrunH (vx_runSX (As := [.ref x, .int v1, .int v2, .ref ou]) (rest := []) ⟨hx, hb, hml, hown, hts⟩ (z_L_ofNode l G x wa wb su cu tr co lo pk ro rb cc cs cm (fc) (fs) (fm) tn tc ts (ft) ou v1 v2 hl0 H.size) (vx_cwSW 4 hts gL_law_L_ofNode rfl rfl rfl (by decide +kernel) ⟨Nat.le_of_ble_eq_true rfl, Nat.le_of_ble_eq_true rfl⟩) (zPre (Wc := [(x, .inr (7, [.ref wa, .ref wb, .ref su, .ref cu, .ref tr, .ref co, .ref lo, .ref pk])), (cu, .inr (1, [.ref wa, .ref wb, .ref cc, .ref cs, .ref cm, .int 0])), (wa, .inr (6, [.ref ro, .int 0, .int 0])), (wb, .inr (6, [.ref rb, .int 0, .int 0])), (cc, .inl (G.2.1, 4, .inl (fc))), (cs, .inl (G.2.1, 132, .inl (fs))), (cm, .inl (G.2.1, 132, .inl (fm))), (tr, .inr (5, [.ref wa, .ref cu, .ref tn, .ref tc, .ref ts, .int 0, .int 0])), (tn, .inl (G.2.1, 1024, .inl (ft)))]) hP hD hE hS hA [0, 1, 2, 3, 4, 5, 6, 7, 8] rfl (by decide)) rfl rfl hl.1 rfl (lv_room (Nat.le_of_ble_eq_true rfl)) dL_law_1032 ⟨Nat.le_of_ble_eq_true rfl, Nat.le_of_ble_eq_true rfl⟩)) hP hD hS hA [0, 1, 2, 3, 4, 5, 6, 7, 8] [9, 10] rfl rfl (by decide) (by decide) (fun u1 H locs hP hD hS => ?_)
  have hP : va_P G.1 vwCl [(mm, .inr (9, [.int 0, .ref nw, .ref cq, .ref hi, .int 0, .ref ko, .ref se, .int 0, .ref nf, .ref ns, .ref pi])), (nw, .inr (8, [.int 0, .int 0, .ref vd, .ref lw, .ref hg, .ref rk])), (x, .inr (7, [.ref wa, .ref wb, .ref su, .ref cu, .ref tr, .ref co, .ref lo, .ref pk])), (cu, .inr (1, [.ref wa, .ref wb, .ref cc, .ref cs, .ref cm, .int 1])), (cc, .inl (G.2.1, 4, .inl (upd (upd (upd (upd fc 0 1) 1 1) 2 1) 3 1))), (cs, .inl (G.2.1, 132, .inl (upd (upd (upd (upd fs 0 0) 33 0) 66 0) 99 0))), (cm, .inl (G.2.1, 132, .inl (upd (upd (upd (upd fm 0 0) 33 0) 66 0) 99 0))), (wb, .inr (6, [.ref rb, .int 0, .int 0])), (tn, .inl (G.2.1, 1024, .inl (zfill 1024 ft))), (wa, .inr (6, [.ref ro, .int 0, .int 0])), (tr, .inr (5, [.ref wa, .ref cu, .ref tn, .ref tc, .ref ts, .int 0, .int 1]))] H := hP
  have hD : va_D A [(mm, .inr (9, [.int 0, .ref nw, .ref cq, .ref hi, .int 0, .ref ko, .ref se, .int 0, .ref nf, .ref ns, .ref pi])), (nw, .inr (8, [.int 0, .int 0, .ref vd, .ref lw, .ref hg, .ref rk])), (x, .inr (7, [.ref wa, .ref wb, .ref su, .ref cu, .ref tr, .ref co, .ref lo, .ref pk])), (cu, .inr (1, [.ref wa, .ref wb, .ref cc, .ref cs, .ref cm, .int 1])), (cc, .inl (G.2.1, 4, .inl (upd (upd (upd (upd fc 0 1) 1 1) 2 1) 3 1))), (cs, .inl (G.2.1, 132, .inl (upd (upd (upd (upd fs 0 0) 33 0) 66 0) 99 0))), (cm, .inl (G.2.1, 132, .inl (upd (upd (upd (upd fm 0 0) 33 0) 66 0) 99 0))), (wb, .inr (6, [.ref rb, .int 0, .int 0])), (tn, .inl (G.2.1, 1024, .inl (zfill 1024 ft))), (wa, .inr (6, [.ref ro, .int 0, .int 0])), (tr, .inr (5, [.ref wa, .ref cu, .ref tn, .ref tc, .ref ts, .int 0, .int 1]))] := hD
  refine W.eq (g2 := F0 m 1035 ls [.int 1]) rfl ?_
  refine lv_istore (lv' := [(5, .int 1), (4, .int 0), (3, .ref ou), (2, .ref mm), (1, .ref x), (0, .ref b)]) hx hb dL_law_1035 hl (by decide) rfl (fun ls hl => ?_)
  refine lv_aload_n hx hb dL_law_1037 rfl (lv_at hl 3 rfl) ?_
  refine lv_aload_n hx hb dL_law_1038 rfl (lv_at hl 5 rfl) ?_
  refine lv_iload hx hb dL_law_1039 (lv_at hl 1 rfl) ?_
  refine lv_iconst (v := 1) hx hb dL_law_1041 (by decide) ?_
  refine lv_iadd hx hb dL_law_1042 ?_
  refine zti (v := 1) (by decide) ?_
  refine va_sld hx hb hX hbl hbA hS (zin (by decide +kernel)) dL_law_1043 ?_
  refine zti (v := v1) e1 ?_
  refine lv_aload_n hx hb dL_law_1044 rfl (lv_at hl 5 rfl) ?_
  refine lv_iload hx hb dL_law_1045 (lv_at hl 1 rfl) ?_
  refine lv_iconst (v := 2) hx hb dL_law_1047 (by decide) ?_
  refine lv_iadd hx hb dL_law_1048 ?_
  refine zti (v := 2) (by decide) ?_
  refine va_sld hx hb hX hbl hbA hS (zin (by decide +kernel)) dL_law_1049 ?_
  refine zti (v := v2) e2 ?_
  refine zcall (wr := [(x, .inr (7, [.ref wa, .ref wb, .ref su, .ref cu, .ref tr, .ref co, .ref lo, .ref pk])), (cu, .inr (1, [.ref wa, .ref wb, .ref cc, .ref cs, .ref cm, .int 1])), (cc, .inl (G.2.1, 4, .inl (upd (upd (upd (upd fc 0 1) 1 1) 2 1) 3 1))), (cs, .inl (G.2.1, 132, .inl (upd (upd (upd (upd fs 0 0) 33 0) 66 0) 99 0))), (cm, .inl (G.2.1, 132, .inl (upd (upd (upd (upd fm 0 0) 33 0) 66 0) 99 0))), (wb, .inr (6, [.ref rb, .int 0, .int 0])), (tn, .inl (G.2.1, 1024, .inl (zfill 1024 ft))), (wa, .inr (6, [.ref ro, .int 0, .int 0])), (tr, .inr (5, [.ref wa, .ref cu, .ref tn, .ref tc, .ref ts, .int 0, .int 1]))]) (va_runV (As := [.int v1, .int v2]) (rest := []) ⟨hx, hb, hml, hown, hts⟩ (z_X9_ofNode l G mm nw cq hi ko se nf ns pi 0 vd lw hg rk v1 v2 H.size) (cwV 2 hts gL_law_X9_ofNode rfl rfl rfl (by decide +kernel) ⟨Nat.le_of_ble_eq_true rfl, Nat.le_of_ble_eq_true rfl⟩) (zPreV (Wc := [(mm, .inr (9, [.int 0, .ref nw, .ref cq, .ref hi, .int 0, .ref ko, .ref se, .int 0, .ref nf, .ref ns, .ref pi])), (nw, .inr (8, [.int 0, .int 0, .ref vd, .ref lw, .ref hg, .ref rk]))]) (q0 := 0) (ci := 9) (q := (RX9, TX9, 11)) hP hD hE hS hA [0, 1] rfl (by decide) rfl rfl) rfl rfl hl.1 rfl (lv_room (Nat.le_of_ble_eq_true rfl)) dL_law_1050 ⟨Nat.le_of_ble_eq_true rfl, Nat.le_of_ble_eq_true rfl⟩) hP hD hS hA [0, 1] [2, 3, 4, 5, 6, 7, 8, 9, 10] rfl rfl (by decide) (by decide) (fun u2 H locs hP hD hS => ?_)
  have hP : va_P G.1 vwCl [(x, .inr (7, [.ref wa, .ref wb, .ref su, .ref cu, .ref tr, .ref co, .ref lo, .ref pk])), (cu, .inr (1, [.ref wa, .ref wb, .ref cc, .ref cs, .ref cm, .int 1])), (cc, .inl (G.2.1, 4, .inl (upd (upd (upd (upd fc 0 1) 1 1) 2 1) 3 1))), (cs, .inl (G.2.1, 132, .inl (upd (upd (upd (upd fs 0 0) 33 0) 66 0) 99 0))), (cm, .inl (G.2.1, 132, .inl (upd (upd (upd (upd fm 0 0) 33 0) 66 0) 99 0))), (wb, .inr (6, [.ref rb, .int 0, .int 0])), (tn, .inl (G.2.1, 1024, .inl (zfill 1024 ft))), (wa, .inr (6, [.ref ro, .int 0, .int 0])), (tr, .inr (5, [.ref wa, .ref cu, .ref tn, .ref tc, .ref ts, .int 0, .int 1])), (nw, .inr (8, [.int 0, .int 0, .ref vd, .ref lw, .ref hg, .ref rk])), (mm, .inr (9, [.int 1, .ref nw, .ref cq, .ref hi, .int 0, .ref ko, .ref se, .int 0, .ref nf, .ref ns, .ref pi]))] H := hP
  have hD : va_D A [(x, .inr (7, [.ref wa, .ref wb, .ref su, .ref cu, .ref tr, .ref co, .ref lo, .ref pk])), (cu, .inr (1, [.ref wa, .ref wb, .ref cc, .ref cs, .ref cm, .int 1])), (cc, .inl (G.2.1, 4, .inl (upd (upd (upd (upd fc 0 1) 1 1) 2 1) 3 1))), (cs, .inl (G.2.1, 132, .inl (upd (upd (upd (upd fs 0 0) 33 0) 66 0) 99 0))), (cm, .inl (G.2.1, 132, .inl (upd (upd (upd (upd fm 0 0) 33 0) 66 0) 99 0))), (wb, .inr (6, [.ref rb, .int 0, .int 0])), (tn, .inl (G.2.1, 1024, .inl (zfill 1024 ft))), (wa, .inr (6, [.ref ro, .int 0, .int 0])), (tr, .inr (5, [.ref wa, .ref cu, .ref tn, .ref tc, .ref ts, .int 0, .int 1])), (nw, .inr (8, [.int 0, .int 0, .ref vd, .ref lw, .ref hg, .ref rk])), (mm, .inr (9, [.int 1, .ref nw, .ref cq, .ref hi, .int 0, .ref ko, .ref se, .int 0, .ref nf, .ref ns, .ref pi]))] := hD
  refine W.eq (g2 := F0 m 1053 ls [.int 0]) rfl ?_
  refine lv_istore (lv' := [(6, .int 0), (5, .int 1), (4, .int 0), (3, .ref ou), (2, .ref mm), (1, .ref x), (0, .ref b)]) hx hb dL_law_1053 hl (by decide) rfl (fun ls hl => ?_)
  refine lv_aload_n hx hb dL_law_1055 rfl (lv_at hl 4 rfl) ?_
  refine zcall (wr := [(x, .inr (7, [.ref wa, .ref wb, .ref su, .ref cu, .ref tr, .ref co, .ref lo, .ref pk])), (cu, .inr (1, [.ref wa, .ref wb, .ref cc, .ref cs, .ref cm, .int 1])), (cc, .inl (G.2.1, 4, .inl (upd (upd (upd (upd fc 0 1) 1 1) 2 1) 3 1))), (cs, .inl (G.2.1, 132, .inl (upd (upd (upd (upd fs 0 0) 33 0) 66 0) 99 0))), (cm, .inl (G.2.1, 132, .inl (upd (upd (upd (upd fm 0 0) 33 0) 66 0) 99 0))), (wb, .inr (6, [.ref rb, .int 0, .int 0])), (tn, .inl (G.2.1, 1024, .inl (zfill 1024 ft))), (wa, .inr (6, [.ref ro, .int 0, .int 0])), (tr, .inr (5, [.ref wa, .ref cu, .ref tn, .ref tc, .ref ts, .int 0, .int 1])), (nw, .inr (8, [.int 0, .int 0, .ref vd, .ref lw, .ref hg, .ref rk]))]) (va_runV (As := []) (rest := []) ⟨hx, hb, hml, hown, hts⟩ (z_X9_thrown l G mm nw cq hi ko se nf ns pi 1 H.size) (cwV 0 hts gL_law_X9_thrown rfl rfl rfl (by decide +kernel) ⟨Nat.le_of_ble_eq_true rfl, Nat.le_of_ble_eq_true rfl⟩) (zPreV (Wc := [(mm, .inr (9, [.int 1, .ref nw, .ref cq, .ref hi, .int 0, .ref ko, .ref se, .int 0, .ref nf, .ref ns, .ref pi]))]) (q0 := 10) (ci := 9) (q := (RX9, TX9, 11)) hP hD hE hS hA [10] rfl (by decide) rfl rfl) rfl rfl hl.1 rfl (lv_room (Nat.le_of_ble_eq_true rfl)) dL_law_1056 ⟨Nat.le_of_ble_eq_true rfl, Nat.le_of_ble_eq_true rfl⟩) hP hD hS hA [10] [0, 1, 2, 3, 4, 5, 6, 7, 8, 9] rfl rfl (by decide) (by decide) (fun u3 H locs hP hD hS => ?_)
  have hP : va_P G.1 vwCl [(x, .inr (7, [.ref wa, .ref wb, .ref su, .ref cu, .ref tr, .ref co, .ref lo, .ref pk])), (cu, .inr (1, [.ref wa, .ref wb, .ref cc, .ref cs, .ref cm, .int 1])), (cc, .inl (G.2.1, 4, .inl (upd (upd (upd (upd fc 0 1) 1 1) 2 1) 3 1))), (cs, .inl (G.2.1, 132, .inl (upd (upd (upd (upd fs 0 0) 33 0) 66 0) 99 0))), (cm, .inl (G.2.1, 132, .inl (upd (upd (upd (upd fm 0 0) 33 0) 66 0) 99 0))), (wb, .inr (6, [.ref rb, .int 0, .int 0])), (tn, .inl (G.2.1, 1024, .inl (zfill 1024 ft))), (wa, .inr (6, [.ref ro, .int 0, .int 0])), (tr, .inr (5, [.ref wa, .ref cu, .ref tn, .ref tc, .ref ts, .int 0, .int 1])), (nw, .inr (8, [.int 0, .int 0, .ref vd, .ref lw, .ref hg, .ref rk])), (mm, .inr (9, [.int 1, .ref nw, .ref cq, .ref hi, .int 0, .ref ko, .ref se, .int 0, .ref nf, .ref ns, .ref pi]))] H := hP
  have hD : va_D A [(x, .inr (7, [.ref wa, .ref wb, .ref su, .ref cu, .ref tr, .ref co, .ref lo, .ref pk])), (cu, .inr (1, [.ref wa, .ref wb, .ref cc, .ref cs, .ref cm, .int 1])), (cc, .inl (G.2.1, 4, .inl (upd (upd (upd (upd fc 0 1) 1 1) 2 1) 3 1))), (cs, .inl (G.2.1, 132, .inl (upd (upd (upd (upd fs 0 0) 33 0) 66 0) 99 0))), (cm, .inl (G.2.1, 132, .inl (upd (upd (upd (upd fm 0 0) 33 0) 66 0) 99 0))), (wb, .inr (6, [.ref rb, .int 0, .int 0])), (tn, .inl (G.2.1, 1024, .inl (zfill 1024 ft))), (wa, .inr (6, [.ref ro, .int 0, .int 0])), (tr, .inr (5, [.ref wa, .ref cu, .ref tn, .ref tc, .ref ts, .int 0, .int 1])), (nw, .inr (8, [.int 0, .int 0, .ref vd, .ref lw, .ref hg, .ref rk])), (mm, .inr (9, [.int 1, .ref nw, .ref cq, .ref hi, .int 0, .ref ko, .ref se, .int 0, .ref nf, .ref ns, .ref pi]))] := hD
  refine W.eq (g2 := F0 m 1059 ls [.int 1]) rfl ?_
  refine lv_iload hx hb dL_law_1059 (lv_at hl 1 rfl) ?_
  refine lv_icmp_eq (tgt := 1066) hx hb dL_law_1061 (by decide) (fun _ => ?_) (fun h9 => absurd (by decide) h9)
  refine lv_iload hx hb dL_law_1066 (lv_at hl 1 rfl) ?_
  refine lv_if_ne (tgt := 1083) hx hb dL_law_1068 (by decide) (fun _ => ?_) (fun h9 => absurd h9 (by decide))
  refine lv_goto (tgt := 1748) hx hb dL_law_1083 (by decide) ?_
  exact z_lawend hx hb hr hml hown hts hX hbl hlocks hl0 hA hA2 hbA hE (Nat.le_of_ble_eq_true rfl) (Nat.le_of_ble_eq_true rfl) hS (lv_sub hl [2, 6] rfl)

set_option maxHeartbeats 4000000 in
set_option maxRecDepth 100000 in
theorem z_case18 {p : Program} {l : Launch} {e : Env} {s : State} {m : MethodId} {below : List Frame} {meth : Method} {c : Code} {A : Nat → Prop} {H : Heap} {locs : List Loc} {ls : Array Slot} {G : zG} {b : Nat} {xs : Nat → Int32} (hx : p.tables.exec = Jvm.exec) (hb : c.code = code) (hr : meth.sig.returnType = ret) (hml : c.maxLocals = 9) (hown : s.vm.findClass RL = some m.cls) (hts : ∀ w ∈ wsL_law, w.before #[Value.ref b] s = true) (hX : va_X b 5 xs s s.heap) (hbl : b < s.heap.size) (hlocks : meth.locks = false) (hl0 : l.stackTraces = false) (hA : ∀ q : Nat, s.heap.size ≤ q → A q) (hA2 : ∀ q : Nat, A q → s.heap.size ≤ q) (hbA : ¬ A b) (hE : zZ G A s s.heap) {x : Nat} {wa : Nat} {wb : Nat} {su : Nat} {cu : Nat} {tr : Nat} {co : Nat} {lo : Nat} {pk : Nat} {ro : Nat} {rb : Nat} {cc : Nat} {cs : Nat} {cm : Nat} {fc : Nat → Int32} {fs : Nat → Int32} {fm : Nat → Int32} {tn : Nat} {tc : Nat} {ts : Nat} {ft : Nat → Int32} {ou : Nat} {mm : Nat} {nw : Nat} {cq : Nat} {hi : Nat} {ko : Nat} {se : Nat} {nf : Nat} {ns : Nat} {pi : Nat} {vd : Nat} {lw : Nat} {hg : Nat} {rk : Nat} (v1 : Int32) (e1 : xs 1 = v1) (v2 : Int32) (e2 : xs 2 = v2) (v3 : Int32) (e3 : xs 3 = v3) (hP : va_P G.1 vwCl [(x, .inr (7, [.ref wa, .ref wb, .ref su, .ref cu, .ref tr, .ref co, .ref lo, .ref pk])), (cu, .inr (1, [.ref wa, .ref wb, .ref cc, .ref cs, .ref cm, .int 0])), (wa, .inr (6, [.ref ro, .int 0, .int 0])), (wb, .inr (6, [.ref rb, .int 0, .int 0])), (cc, .inl (G.2.1, 4, .inl (fc))), (cs, .inl (G.2.1, 132, .inl (fs))), (cm, .inl (G.2.1, 132, .inl (fm))), (tr, .inr (5, [.ref wa, .ref cu, .ref tn, .ref tc, .ref ts, .int 0, .int 0])), (tn, .inl (G.2.1, 1024, .inl (ft))), (mm, .inr (9, [.int 0, .ref nw, .ref cq, .ref hi, .int 0, .ref ko, .ref se, .int 0, .ref nf, .ref ns, .ref pi])), (nw, .inr (8, [.int 0, .int 0, .ref vd, .ref lw, .ref hg, .ref rk]))] H) (hD : va_D A [(x, .inr (7, [.ref wa, .ref wb, .ref su, .ref cu, .ref tr, .ref co, .ref lo, .ref pk])), (cu, .inr (1, [.ref wa, .ref wb, .ref cc, .ref cs, .ref cm, .int 0])), (wa, .inr (6, [.ref ro, .int 0, .int 0])), (wb, .inr (6, [.ref rb, .int 0, .int 0])), (cc, .inl (G.2.1, 4, .inl (fc))), (cs, .inl (G.2.1, 132, .inl (fs))), (cm, .inl (G.2.1, 132, .inl (fm))), (tr, .inr (5, [.ref wa, .ref cu, .ref tn, .ref tc, .ref ts, .int 0, .int 0])), (tn, .inl (G.2.1, 1024, .inl (ft))), (mm, .inr (9, [.int 0, .ref nw, .ref cq, .ref hi, .int 0, .ref ko, .ref se, .int 0, .ref nf, .ref ns, .ref pi])), (nw, .inr (8, [.int 0, .int 0, .ref vd, .ref lw, .ref hg, .ref rk]))]) (hS : va_S A s.heap H locs) (hl : lv_has ls 9 [(4, .int 0), (3, .ref ou), (2, .ref mm), (1, .ref x), (0, .ref b)]) : W p l e room_1 s m #[Value.ref b] below meth c H locs 89 9213 (lw_Z below #[Value.ref b] s) (F0 m 1086 ls []) := by
  refine lv_aload_n hx hb dL_law_1086 rfl (lv_at hl 3 rfl) ?_
  refine lv_aload_n hx hb dL_law_1087 rfl (lv_at hl 4 rfl) ?_
  refine lv_iload hx hb dL_law_1088 (lv_at hl 0 rfl) ?_
  refine lv_iconst (v := 1) hx hb dL_law_1090 (by decide) ?_
  refine lv_iadd hx hb dL_law_1091 ?_
  refine zti (v := 1) (by decide) ?_
  refine va_sld hx hb hX hbl hbA hS (zin (by decide +kernel)) dL_law_1092 ?_
  refine zti (v := v1) e1 ?_
  refine lv_aload_n hx hb dL_law_1093 rfl (lv_at hl 4 rfl) ?_
  refine lv_iload hx hb dL_law_1094 (lv_at hl 0 rfl) ?_
  refine lv_iconst (v := 2) hx hb dL_law_1096 (by decide) ?_
  refine lv_iadd hx hb dL_law_1097 ?_
  refine zti (v := 2) (by decide) ?_
  refine va_sld hx hb hX hbl hbA hS (zin (by decide +kernel)) dL_law_1098 ?_
  refine zti (v := v2) e2 ?_
  refine lv_aload_n hx hb dL_law_1099 rfl (lv_at hl 4 rfl) ?_
  refine lv_iload hx hb dL_law_1100 (lv_at hl 0 rfl) ?_
  refine lv_iconst (v := 3) hx hb dL_law_1102 (by decide) ?_
  refine lv_iadd hx hb dL_law_1103 ?_
  refine zti (v := 3) (by decide) ?_
  refine va_sld hx hb hX hbl hbA hS (zin (by decide +kernel)) dL_law_1104 ?_
  refine zti (v := v3) e3 ?_
  refine lv_aload_n hx hb dL_law_1105 rfl (lv_at hl 1 rfl) ?_
  refine zcall (wr := [(mm, .inr (9, [.int 0, .ref nw, .ref cq, .ref hi, .int 0, .ref ko, .ref se, .int 0, .ref nf, .ref ns, .ref pi])), (nw, .inr (8, [.int 0, .int 0, .ref vd, .ref lw, .ref hg, .ref rk]))]) (zrunH (vx_runSX (As := [.ref x, .int v1, .int v2, .int v3, .ref ou]) (rest := []) ⟨hx, hb, hml, hown, hts⟩ (z_L_piece l G x wa wb su cu tr co lo pk ro rb cc cs cm (fc) (fs) (fm) tn tc ts (ft) ou v1 v2 v3 hl0 H.size) (vx_cwSW 5 hts gL_law_L_piece rfl rfl rfl (by decide +kernel) ⟨Nat.le_of_ble_eq_true rfl, Nat.le_of_ble_eq_true rfl⟩) (zPre (Wc := [(x, .inr (7, [.ref wa, .ref wb, .ref su, .ref cu, .ref tr, .ref co, .ref lo, .ref pk])), (cu, .inr (1, [.ref wa, .ref wb, .ref cc, .ref cs, .ref cm, .int 0])), (wa, .inr (6, [.ref ro, .int 0, .int 0])), (wb, .inr (6, [.ref rb, .int 0, .int 0])), (cc, .inl (G.2.1, 4, .inl (fc))), (cs, .inl (G.2.1, 132, .inl (fs))), (cm, .inl (G.2.1, 132, .inl (fm))), (tr, .inr (5, [.ref wa, .ref cu, .ref tn, .ref tc, .ref ts, .int 0, .int 0])), (tn, .inl (G.2.1, 1024, .inl (ft)))]) hP hD hE hS hA [0, 1, 2, 3, 4, 5, 6, 7, 8] rfl (by decide)) rfl rfl hl.1 rfl (lv_room (Nat.le_of_ble_eq_true rfl)) dL_law_1106 ⟨Nat.le_of_ble_eq_true rfl, Nat.le_of_ble_eq_true rfl⟩)) hP hD hS hA [0, 1, 2, 3, 4, 5, 6, 7, 8] [9, 10] rfl rfl (by decide) (by decide) (fun u1 H locs hP hD hS => ?_)
  have hP : va_P G.1 vwCl [(mm, .inr (9, [.int 0, .ref nw, .ref cq, .ref hi, .int 0, .ref ko, .ref se, .int 0, .ref nf, .ref ns, .ref pi])), (nw, .inr (8, [.int 0, .int 0, .ref vd, .ref lw, .ref hg, .ref rk])), (x, .inr (7, [.ref wa, .ref wb, .ref su, .ref cu, .ref tr, .ref co, .ref lo, .ref pk])), (cu, .inr (1, [.ref wa, .ref wb, .ref cc, .ref cs, .ref cm, .int 1])), (cc, .inl (G.2.1, 4, .inl (upd (upd (upd (upd fc 0 1) 1 1) 2 1) 3 1))), (cs, .inl (G.2.1, 132, .inl (upd (upd (upd (upd fs 0 0) 33 0) 66 0) 99 0))), (cm, .inl (G.2.1, 132, .inl (upd (upd (upd (upd fm 0 0) 33 0) 66 0) 99 0))), (wb, .inr (6, [.ref rb, .int 0, .int 0])), (tn, .inl (G.2.1, 1024, .inl (zfill 1024 ft))), (wa, .inr (6, [.ref ro, .int 0, .int 0])), (tr, .inr (5, [.ref wa, .ref cu, .ref tn, .ref tc, .ref ts, .int 0, .int 1]))] H := hP
  have hD : va_D A [(mm, .inr (9, [.int 0, .ref nw, .ref cq, .ref hi, .int 0, .ref ko, .ref se, .int 0, .ref nf, .ref ns, .ref pi])), (nw, .inr (8, [.int 0, .int 0, .ref vd, .ref lw, .ref hg, .ref rk])), (x, .inr (7, [.ref wa, .ref wb, .ref su, .ref cu, .ref tr, .ref co, .ref lo, .ref pk])), (cu, .inr (1, [.ref wa, .ref wb, .ref cc, .ref cs, .ref cm, .int 1])), (cc, .inl (G.2.1, 4, .inl (upd (upd (upd (upd fc 0 1) 1 1) 2 1) 3 1))), (cs, .inl (G.2.1, 132, .inl (upd (upd (upd (upd fs 0 0) 33 0) 66 0) 99 0))), (cm, .inl (G.2.1, 132, .inl (upd (upd (upd (upd fm 0 0) 33 0) 66 0) 99 0))), (wb, .inr (6, [.ref rb, .int 0, .int 0])), (tn, .inl (G.2.1, 1024, .inl (zfill 1024 ft))), (wa, .inr (6, [.ref ro, .int 0, .int 0])), (tr, .inr (5, [.ref wa, .ref cu, .ref tn, .ref tc, .ref ts, .int 0, .int 1]))] := hD
  refine W.eq (g2 := F0 m 1109 ls [.int 1]) rfl ?_
  refine lv_istore (lv' := [(5, .int 1), (4, .int 0), (3, .ref ou), (2, .ref mm), (1, .ref x), (0, .ref b)]) hx hb dL_law_1109 hl (by decide) rfl (fun ls hl => ?_)
  refine lv_aload_n hx hb dL_law_1111 rfl (lv_at hl 3 rfl) ?_
  refine lv_aload_n hx hb dL_law_1112 rfl (lv_at hl 5 rfl) ?_
  refine lv_iload hx hb dL_law_1113 (lv_at hl 1 rfl) ?_
  refine lv_iconst (v := 1) hx hb dL_law_1115 (by decide) ?_
  refine lv_iadd hx hb dL_law_1116 ?_
  refine zti (v := 1) (by decide) ?_
  refine va_sld hx hb hX hbl hbA hS (zin (by decide +kernel)) dL_law_1117 ?_
  refine zti (v := v1) e1 ?_
  refine lv_aload_n hx hb dL_law_1118 rfl (lv_at hl 5 rfl) ?_
  refine lv_iload hx hb dL_law_1119 (lv_at hl 1 rfl) ?_
  refine lv_iconst (v := 2) hx hb dL_law_1121 (by decide) ?_
  refine lv_iadd hx hb dL_law_1122 ?_
  refine zti (v := 2) (by decide) ?_
  refine va_sld hx hb hX hbl hbA hS (zin (by decide +kernel)) dL_law_1123 ?_
  refine zti (v := v2) e2 ?_
  refine lv_aload_n hx hb dL_law_1124 rfl (lv_at hl 5 rfl) ?_
  refine lv_iload hx hb dL_law_1125 (lv_at hl 1 rfl) ?_
  refine lv_iconst (v := 3) hx hb dL_law_1127 (by decide) ?_
  refine lv_iadd hx hb dL_law_1128 ?_
  refine zti (v := 3) (by decide) ?_
  refine va_sld hx hb hX hbl hbA hS (zin (by decide +kernel)) dL_law_1129 ?_
  refine zti (v := v3) e3 ?_
  refine zcall (wr := [(x, .inr (7, [.ref wa, .ref wb, .ref su, .ref cu, .ref tr, .ref co, .ref lo, .ref pk])), (cu, .inr (1, [.ref wa, .ref wb, .ref cc, .ref cs, .ref cm, .int 1])), (cc, .inl (G.2.1, 4, .inl (upd (upd (upd (upd fc 0 1) 1 1) 2 1) 3 1))), (cs, .inl (G.2.1, 132, .inl (upd (upd (upd (upd fs 0 0) 33 0) 66 0) 99 0))), (cm, .inl (G.2.1, 132, .inl (upd (upd (upd (upd fm 0 0) 33 0) 66 0) 99 0))), (wb, .inr (6, [.ref rb, .int 0, .int 0])), (tn, .inl (G.2.1, 1024, .inl (zfill 1024 ft))), (wa, .inr (6, [.ref ro, .int 0, .int 0])), (tr, .inr (5, [.ref wa, .ref cu, .ref tn, .ref tc, .ref ts, .int 0, .int 1]))]) (va_runV (As := [.int v1, .int v2, .int v3]) (rest := []) ⟨hx, hb, hml, hown, hts⟩ (z_X9_piece l G mm nw cq hi ko se nf ns pi 0 vd lw hg rk v1 v2 v3 H.size) (cwV 3 hts gL_law_X9_piece rfl rfl rfl (by decide +kernel) ⟨Nat.le_of_ble_eq_true rfl, Nat.le_of_ble_eq_true rfl⟩) (zPreV (Wc := [(mm, .inr (9, [.int 0, .ref nw, .ref cq, .ref hi, .int 0, .ref ko, .ref se, .int 0, .ref nf, .ref ns, .ref pi])), (nw, .inr (8, [.int 0, .int 0, .ref vd, .ref lw, .ref hg, .ref rk]))]) (q0 := 0) (ci := 9) (q := (RX9, TX9, 11)) hP hD hE hS hA [0, 1] rfl (by decide) rfl rfl) rfl rfl hl.1 rfl (lv_room (Nat.le_of_ble_eq_true rfl)) dL_law_1130 ⟨Nat.le_of_ble_eq_true rfl, Nat.le_of_ble_eq_true rfl⟩) hP hD hS hA [0, 1] [2, 3, 4, 5, 6, 7, 8, 9, 10] rfl rfl (by decide) (by decide) (fun u2 H locs hP hD hS => ?_)
  have hP : va_P G.1 vwCl [(x, .inr (7, [.ref wa, .ref wb, .ref su, .ref cu, .ref tr, .ref co, .ref lo, .ref pk])), (cu, .inr (1, [.ref wa, .ref wb, .ref cc, .ref cs, .ref cm, .int 1])), (cc, .inl (G.2.1, 4, .inl (upd (upd (upd (upd fc 0 1) 1 1) 2 1) 3 1))), (cs, .inl (G.2.1, 132, .inl (upd (upd (upd (upd fs 0 0) 33 0) 66 0) 99 0))), (cm, .inl (G.2.1, 132, .inl (upd (upd (upd (upd fm 0 0) 33 0) 66 0) 99 0))), (wb, .inr (6, [.ref rb, .int 0, .int 0])), (tn, .inl (G.2.1, 1024, .inl (zfill 1024 ft))), (wa, .inr (6, [.ref ro, .int 0, .int 0])), (tr, .inr (5, [.ref wa, .ref cu, .ref tn, .ref tc, .ref ts, .int 0, .int 1])), (nw, .inr (8, [.int 0, .int 0, .ref vd, .ref lw, .ref hg, .ref rk])), (mm, .inr (9, [.int 1, .ref nw, .ref cq, .ref hi, .int 0, .ref ko, .ref se, .int 0, .ref nf, .ref ns, .ref pi]))] H := hP
  have hD : va_D A [(x, .inr (7, [.ref wa, .ref wb, .ref su, .ref cu, .ref tr, .ref co, .ref lo, .ref pk])), (cu, .inr (1, [.ref wa, .ref wb, .ref cc, .ref cs, .ref cm, .int 1])), (cc, .inl (G.2.1, 4, .inl (upd (upd (upd (upd fc 0 1) 1 1) 2 1) 3 1))), (cs, .inl (G.2.1, 132, .inl (upd (upd (upd (upd fs 0 0) 33 0) 66 0) 99 0))), (cm, .inl (G.2.1, 132, .inl (upd (upd (upd (upd fm 0 0) 33 0) 66 0) 99 0))), (wb, .inr (6, [.ref rb, .int 0, .int 0])), (tn, .inl (G.2.1, 1024, .inl (zfill 1024 ft))), (wa, .inr (6, [.ref ro, .int 0, .int 0])), (tr, .inr (5, [.ref wa, .ref cu, .ref tn, .ref tc, .ref ts, .int 0, .int 1])), (nw, .inr (8, [.int 0, .int 0, .ref vd, .ref lw, .ref hg, .ref rk])), (mm, .inr (9, [.int 1, .ref nw, .ref cq, .ref hi, .int 0, .ref ko, .ref se, .int 0, .ref nf, .ref ns, .ref pi]))] := hD
  refine W.eq (g2 := F0 m 1133 ls [.int 0]) rfl ?_
  refine lv_istore (lv' := [(6, .int 0), (5, .int 1), (4, .int 0), (3, .ref ou), (2, .ref mm), (1, .ref x), (0, .ref b)]) hx hb dL_law_1133 hl (by decide) rfl (fun ls hl => ?_)
  refine lv_aload_n hx hb dL_law_1135 rfl (lv_at hl 4 rfl) ?_
  refine zcall (wr := [(x, .inr (7, [.ref wa, .ref wb, .ref su, .ref cu, .ref tr, .ref co, .ref lo, .ref pk])), (cu, .inr (1, [.ref wa, .ref wb, .ref cc, .ref cs, .ref cm, .int 1])), (cc, .inl (G.2.1, 4, .inl (upd (upd (upd (upd fc 0 1) 1 1) 2 1) 3 1))), (cs, .inl (G.2.1, 132, .inl (upd (upd (upd (upd fs 0 0) 33 0) 66 0) 99 0))), (cm, .inl (G.2.1, 132, .inl (upd (upd (upd (upd fm 0 0) 33 0) 66 0) 99 0))), (wb, .inr (6, [.ref rb, .int 0, .int 0])), (tn, .inl (G.2.1, 1024, .inl (zfill 1024 ft))), (wa, .inr (6, [.ref ro, .int 0, .int 0])), (tr, .inr (5, [.ref wa, .ref cu, .ref tn, .ref tc, .ref ts, .int 0, .int 1])), (nw, .inr (8, [.int 0, .int 0, .ref vd, .ref lw, .ref hg, .ref rk]))]) (va_runV (As := []) (rest := []) ⟨hx, hb, hml, hown, hts⟩ (z_X9_thrown l G mm nw cq hi ko se nf ns pi 1 H.size) (cwV 0 hts gL_law_X9_thrown rfl rfl rfl (by decide +kernel) ⟨Nat.le_of_ble_eq_true rfl, Nat.le_of_ble_eq_true rfl⟩) (zPreV (Wc := [(mm, .inr (9, [.int 1, .ref nw, .ref cq, .ref hi, .int 0, .ref ko, .ref se, .int 0, .ref nf, .ref ns, .ref pi]))]) (q0 := 10) (ci := 9) (q := (RX9, TX9, 11)) hP hD hE hS hA [10] rfl (by decide) rfl rfl) rfl rfl hl.1 rfl (lv_room (Nat.le_of_ble_eq_true rfl)) dL_law_1136 ⟨Nat.le_of_ble_eq_true rfl, Nat.le_of_ble_eq_true rfl⟩) hP hD hS hA [10] [0, 1, 2, 3, 4, 5, 6, 7, 8, 9] rfl rfl (by decide) (by decide) (fun u3 H locs hP hD hS => ?_)
  have hP : va_P G.1 vwCl [(x, .inr (7, [.ref wa, .ref wb, .ref su, .ref cu, .ref tr, .ref co, .ref lo, .ref pk])), (cu, .inr (1, [.ref wa, .ref wb, .ref cc, .ref cs, .ref cm, .int 1])), (cc, .inl (G.2.1, 4, .inl (upd (upd (upd (upd fc 0 1) 1 1) 2 1) 3 1))), (cs, .inl (G.2.1, 132, .inl (upd (upd (upd (upd fs 0 0) 33 0) 66 0) 99 0))), (cm, .inl (G.2.1, 132, .inl (upd (upd (upd (upd fm 0 0) 33 0) 66 0) 99 0))), (wb, .inr (6, [.ref rb, .int 0, .int 0])), (tn, .inl (G.2.1, 1024, .inl (zfill 1024 ft))), (wa, .inr (6, [.ref ro, .int 0, .int 0])), (tr, .inr (5, [.ref wa, .ref cu, .ref tn, .ref tc, .ref ts, .int 0, .int 1])), (nw, .inr (8, [.int 0, .int 0, .ref vd, .ref lw, .ref hg, .ref rk])), (mm, .inr (9, [.int 1, .ref nw, .ref cq, .ref hi, .int 0, .ref ko, .ref se, .int 0, .ref nf, .ref ns, .ref pi]))] H := hP
  have hD : va_D A [(x, .inr (7, [.ref wa, .ref wb, .ref su, .ref cu, .ref tr, .ref co, .ref lo, .ref pk])), (cu, .inr (1, [.ref wa, .ref wb, .ref cc, .ref cs, .ref cm, .int 1])), (cc, .inl (G.2.1, 4, .inl (upd (upd (upd (upd fc 0 1) 1 1) 2 1) 3 1))), (cs, .inl (G.2.1, 132, .inl (upd (upd (upd (upd fs 0 0) 33 0) 66 0) 99 0))), (cm, .inl (G.2.1, 132, .inl (upd (upd (upd (upd fm 0 0) 33 0) 66 0) 99 0))), (wb, .inr (6, [.ref rb, .int 0, .int 0])), (tn, .inl (G.2.1, 1024, .inl (zfill 1024 ft))), (wa, .inr (6, [.ref ro, .int 0, .int 0])), (tr, .inr (5, [.ref wa, .ref cu, .ref tn, .ref tc, .ref ts, .int 0, .int 1])), (nw, .inr (8, [.int 0, .int 0, .ref vd, .ref lw, .ref hg, .ref rk])), (mm, .inr (9, [.int 1, .ref nw, .ref cq, .ref hi, .int 0, .ref ko, .ref se, .int 0, .ref nf, .ref ns, .ref pi]))] := hD
  refine W.eq (g2 := F0 m 1139 ls [.int 1]) rfl ?_
  refine lv_iload hx hb dL_law_1139 (lv_at hl 1 rfl) ?_
  refine lv_icmp_eq (tgt := 1146) hx hb dL_law_1141 (by decide) (fun _ => ?_) (fun h9 => absurd (by decide) h9)
  refine lv_iload hx hb dL_law_1146 (lv_at hl 1 rfl) ?_
  refine lv_if_ne (tgt := 1163) hx hb dL_law_1148 (by decide) (fun _ => ?_) (fun h9 => absurd h9 (by decide))
  refine lv_goto (tgt := 1748) hx hb dL_law_1163 (by decide) ?_
  exact z_lawend hx hb hr hml hown hts hX hbl hlocks hl0 hA hA2 hbA hE (Nat.le_of_ble_eq_true rfl) (Nat.le_of_ble_eq_true rfl) hS (lv_sub hl [2, 6] rfl)

set_option maxHeartbeats 4000000 in
set_option maxRecDepth 100000 in
theorem z_case20 {p : Program} {l : Launch} {e : Env} {s : State} {m : MethodId} {below : List Frame} {meth : Method} {c : Code} {A : Nat → Prop} {H : Heap} {locs : List Loc} {ls : Array Slot} {G : zG} {b : Nat} {xs : Nat → Int32} (hx : p.tables.exec = Jvm.exec) (hb : c.code = code) (hr : meth.sig.returnType = ret) (hml : c.maxLocals = 9) (hown : s.vm.findClass RL = some m.cls) (hts : ∀ w ∈ wsL_law, w.before #[Value.ref b] s = true) (hX : va_X b 5 xs s s.heap) (hbl : b < s.heap.size) (hlocks : meth.locks = false) (hl0 : l.stackTraces = false) (hA : ∀ q : Nat, s.heap.size ≤ q → A q) (hA2 : ∀ q : Nat, A q → s.heap.size ≤ q) (hbA : ¬ A b) (hE : zZ G A s s.heap) {x : Nat} {wa : Nat} {wb : Nat} {su : Nat} {cu : Nat} {tr : Nat} {co : Nat} {lo : Nat} {pk : Nat} {ro : Nat} {rb : Nat} {cc : Nat} {cs : Nat} {cm : Nat} {fc : Nat → Int32} {fs : Nat → Int32} {fm : Nat → Int32} {tn : Nat} {tc : Nat} {ts : Nat} {ft : Nat → Int32} {ou : Nat} {mm : Nat} {nw : Nat} {cq : Nat} {hi : Nat} {ko : Nat} {se : Nat} {nf : Nat} {ns : Nat} {pi : Nat} {vd : Nat} {lw : Nat} {hg : Nat} {rk : Nat} (hP : va_P G.1 vwCl [(x, .inr (7, [.ref wa, .ref wb, .ref su, .ref cu, .ref tr, .ref co, .ref lo, .ref pk])), (cu, .inr (1, [.ref wa, .ref wb, .ref cc, .ref cs, .ref cm, .int 0])), (wa, .inr (6, [.ref ro, .int 0, .int 0])), (wb, .inr (6, [.ref rb, .int 0, .int 0])), (cc, .inl (G.2.1, 4, .inl (fc))), (cs, .inl (G.2.1, 132, .inl (fs))), (cm, .inl (G.2.1, 132, .inl (fm))), (tr, .inr (5, [.ref wa, .ref cu, .ref tn, .ref tc, .ref ts, .int 0, .int 0])), (tn, .inl (G.2.1, 1024, .inl (ft))), (mm, .inr (9, [.int 0, .ref nw, .ref cq, .ref hi, .int 0, .ref ko, .ref se, .int 0, .ref nf, .ref ns, .ref pi])), (nw, .inr (8, [.int 0, .int 0, .ref vd, .ref lw, .ref hg, .ref rk]))] H) (hD : va_D A [(x, .inr (7, [.ref wa, .ref wb, .ref su, .ref cu, .ref tr, .ref co, .ref lo, .ref pk])), (cu, .inr (1, [.ref wa, .ref wb, .ref cc, .ref cs, .ref cm, .int 0])), (wa, .inr (6, [.ref ro, .int 0, .int 0])), (wb, .inr (6, [.ref rb, .int 0, .int 0])), (cc, .inl (G.2.1, 4, .inl (fc))), (cs, .inl (G.2.1, 132, .inl (fs))), (cm, .inl (G.2.1, 132, .inl (fm))), (tr, .inr (5, [.ref wa, .ref cu, .ref tn, .ref tc, .ref ts, .int 0, .int 0])), (tn, .inl (G.2.1, 1024, .inl (ft))), (mm, .inr (9, [.int 0, .ref nw, .ref cq, .ref hi, .int 0, .ref ko, .ref se, .int 0, .ref nf, .ref ns, .ref pi])), (nw, .inr (8, [.int 0, .int 0, .ref vd, .ref lw, .ref hg, .ref rk]))]) (hS : va_S A s.heap H locs) (hl : lv_has ls 9 [(4, .int 0), (3, .ref ou), (2, .ref mm), (1, .ref x), (0, .ref b)]) : W p l e room_1 s m #[Value.ref b] below meth c H locs 89 9213 (lw_Z below #[Value.ref b] s) (F0 m 1258 ls []) := by
  refine lv_aload_n hx hb dL_law_1258 rfl (lv_at hl 3 rfl) ?_
  refine zcall (wr := [(mm, .inr (9, [.int 0, .ref nw, .ref cq, .ref hi, .int 0, .ref ko, .ref se, .int 0, .ref nf, .ref ns, .ref pi])), (nw, .inr (8, [.int 0, .int 0, .ref vd, .ref lw, .ref hg, .ref rk]))]) (va_runV (As := []) (rest := []) ⟨hx, hb, hml, hown, hts⟩ (z_X7_meanSteps l G x wa wb su cu tr co lo pk ro rb cc cs cm (fc) (fs) (fm) tn tc ts (ft) H.size) (cwV 0 hts gL_law_X7_meanSteps rfl rfl rfl (by decide +kernel) ⟨Nat.le_of_ble_eq_true rfl, Nat.le_of_ble_eq_true rfl⟩) (zPreV (Wc := [(x, .inr (7, [.ref wa, .ref wb, .ref su, .ref cu, .ref tr, .ref co, .ref lo, .ref pk])), (cu, .inr (1, [.ref wa, .ref wb, .ref cc, .ref cs, .ref cm, .int 0])), (wa, .inr (6, [.ref ro, .int 0, .int 0])), (wb, .inr (6, [.ref rb, .int 0, .int 0])), (cc, .inl (G.2.1, 4, .inl (fc))), (cs, .inl (G.2.1, 132, .inl (fs))), (cm, .inl (G.2.1, 132, .inl (fm))), (tr, .inr (5, [.ref wa, .ref cu, .ref tn, .ref tc, .ref ts, .int 0, .int 0])), (tn, .inl (G.2.1, 1024, .inl (ft)))]) (q0 := 0) (ci := 7) (q := (RX7, TX7, 8)) hP hD hE hS hA [0, 1, 2, 3, 4, 5, 6, 7, 8] rfl (by decide) rfl rfl) rfl rfl hl.1 rfl (lv_room (Nat.le_of_ble_eq_true rfl)) dL_law_1259 ⟨Nat.le_of_ble_eq_true rfl, Nat.le_of_ble_eq_true rfl⟩) hP hD hS hA [0, 1, 2, 3, 4, 5, 6, 7, 8] [9, 10] rfl rfl (by decide) (by decide) (fun u1 H locs hP hD hS => ?_)
  have hP : va_P G.1 vwCl [(mm, .inr (9, [.int 0, .ref nw, .ref cq, .ref hi, .int 0, .ref ko, .ref se, .int 0, .ref nf, .ref ns, .ref pi])), (nw, .inr (8, [.int 0, .int 0, .ref vd, .ref lw, .ref hg, .ref rk])), (x, .inr (7, [.ref wa, .ref wb, .ref su, .ref cu, .ref tr, .ref co, .ref lo, .ref pk])), (cu, .inr (1, [.ref wa, .ref wb, .ref cc, .ref cs, .ref cm, .int 1])), (cc, .inl (G.2.1, 4, .inl (upd (upd (upd (upd fc 0 1) 1 1) 2 1) 3 1))), (cs, .inl (G.2.1, 132, .inl (upd (upd (upd (upd fs 0 0) 33 0) 66 0) 99 0))), (cm, .inl (G.2.1, 132, .inl (upd (upd (upd (upd fm 0 0) 33 0) 66 0) 99 0))), (wb, .inr (6, [.ref rb, .int 0, .int 0])), (tn, .inl (G.2.1, 1024, .inl (zfill 1024 ft))), (wa, .inr (6, [.ref ro, .int 0, .int 0])), (tr, .inr (5, [.ref wa, .ref cu, .ref tn, .ref tc, .ref ts, .int 0, .int 1]))] H := hP
  have hD : va_D A [(mm, .inr (9, [.int 0, .ref nw, .ref cq, .ref hi, .int 0, .ref ko, .ref se, .int 0, .ref nf, .ref ns, .ref pi])), (nw, .inr (8, [.int 0, .int 0, .ref vd, .ref lw, .ref hg, .ref rk])), (x, .inr (7, [.ref wa, .ref wb, .ref su, .ref cu, .ref tr, .ref co, .ref lo, .ref pk])), (cu, .inr (1, [.ref wa, .ref wb, .ref cc, .ref cs, .ref cm, .int 1])), (cc, .inl (G.2.1, 4, .inl (upd (upd (upd (upd fc 0 1) 1 1) 2 1) 3 1))), (cs, .inl (G.2.1, 132, .inl (upd (upd (upd (upd fs 0 0) 33 0) 66 0) 99 0))), (cm, .inl (G.2.1, 132, .inl (upd (upd (upd (upd fm 0 0) 33 0) 66 0) 99 0))), (wb, .inr (6, [.ref rb, .int 0, .int 0])), (tn, .inl (G.2.1, 1024, .inl (zfill 1024 ft))), (wa, .inr (6, [.ref ro, .int 0, .int 0])), (tr, .inr (5, [.ref wa, .ref cu, .ref tn, .ref tc, .ref ts, .int 0, .int 1]))] := hD
  refine W.eq (g2 := F0 m 1262 ls [.double 0]) rfl ?_
  refine lv_dstore (lv' := [(5, .double 0), (4, .int 0), (3, .ref ou), (2, .ref mm), (1, .ref x), (0, .ref b)]) hx hb dL_law_1262 hl (by decide) rfl (fun ls hl => ?_)
  refine lv_aload_n hx hb dL_law_1264 rfl (lv_at hl 3 rfl) ?_
  refine zcall (wr := [(x, .inr (7, [.ref wa, .ref wb, .ref su, .ref cu, .ref tr, .ref co, .ref lo, .ref pk])), (cu, .inr (1, [.ref wa, .ref wb, .ref cc, .ref cs, .ref cm, .int 1])), (cc, .inl (G.2.1, 4, .inl (upd (upd (upd (upd fc 0 1) 1 1) 2 1) 3 1))), (cs, .inl (G.2.1, 132, .inl (upd (upd (upd (upd fs 0 0) 33 0) 66 0) 99 0))), (cm, .inl (G.2.1, 132, .inl (upd (upd (upd (upd fm 0 0) 33 0) 66 0) 99 0))), (wb, .inr (6, [.ref rb, .int 0, .int 0])), (tn, .inl (G.2.1, 1024, .inl (zfill 1024 ft))), (wa, .inr (6, [.ref ro, .int 0, .int 0])), (tr, .inr (5, [.ref wa, .ref cu, .ref tn, .ref tc, .ref ts, .int 0, .int 1]))]) (va_runV (As := []) (rest := []) ⟨hx, hb, hml, hown, hts⟩ (z_X9_meanSteps l G mm nw cq hi ko se nf ns pi 0 vd lw hg rk H.size) (cwV 0 hts gL_law_X9_meanSteps rfl rfl rfl (by decide +kernel) ⟨Nat.le_of_ble_eq_true rfl, Nat.le_of_ble_eq_true rfl⟩) (zPreV (Wc := [(mm, .inr (9, [.int 0, .ref nw, .ref cq, .ref hi, .int 0, .ref ko, .ref se, .int 0, .ref nf, .ref ns, .ref pi])), (nw, .inr (8, [.int 0, .int 0, .ref vd, .ref lw, .ref hg, .ref rk]))]) (q0 := 0) (ci := 9) (q := (RX9, TX9, 11)) hP hD hE hS hA [0, 1] rfl (by decide) rfl rfl) rfl rfl hl.1 rfl (lv_room (Nat.le_of_ble_eq_true rfl)) dL_law_1265 ⟨Nat.le_of_ble_eq_true rfl, Nat.le_of_ble_eq_true rfl⟩) hP hD hS hA [0, 1] [2, 3, 4, 5, 6, 7, 8, 9, 10] rfl rfl (by decide) (by decide) (fun u2 H locs hP hD hS => ?_)
  have hP : va_P G.1 vwCl [(x, .inr (7, [.ref wa, .ref wb, .ref su, .ref cu, .ref tr, .ref co, .ref lo, .ref pk])), (cu, .inr (1, [.ref wa, .ref wb, .ref cc, .ref cs, .ref cm, .int 1])), (cc, .inl (G.2.1, 4, .inl (upd (upd (upd (upd fc 0 1) 1 1) 2 1) 3 1))), (cs, .inl (G.2.1, 132, .inl (upd (upd (upd (upd fs 0 0) 33 0) 66 0) 99 0))), (cm, .inl (G.2.1, 132, .inl (upd (upd (upd (upd fm 0 0) 33 0) 66 0) 99 0))), (wb, .inr (6, [.ref rb, .int 0, .int 0])), (tn, .inl (G.2.1, 1024, .inl (zfill 1024 ft))), (wa, .inr (6, [.ref ro, .int 0, .int 0])), (tr, .inr (5, [.ref wa, .ref cu, .ref tn, .ref tc, .ref ts, .int 0, .int 1])), (mm, .inr (9, [.int 0, .ref nw, .ref cq, .ref hi, .int 0, .ref ko, .ref se, .int 0, .ref nf, .ref ns, .ref pi])), (nw, .inr (8, [.int 0, .int 0, .ref vd, .ref lw, .ref hg, .ref rk]))] H := hP
  have hD : va_D A [(x, .inr (7, [.ref wa, .ref wb, .ref su, .ref cu, .ref tr, .ref co, .ref lo, .ref pk])), (cu, .inr (1, [.ref wa, .ref wb, .ref cc, .ref cs, .ref cm, .int 1])), (cc, .inl (G.2.1, 4, .inl (upd (upd (upd (upd fc 0 1) 1 1) 2 1) 3 1))), (cs, .inl (G.2.1, 132, .inl (upd (upd (upd (upd fs 0 0) 33 0) 66 0) 99 0))), (cm, .inl (G.2.1, 132, .inl (upd (upd (upd (upd fm 0 0) 33 0) 66 0) 99 0))), (wb, .inr (6, [.ref rb, .int 0, .int 0])), (tn, .inl (G.2.1, 1024, .inl (zfill 1024 ft))), (wa, .inr (6, [.ref ro, .int 0, .int 0])), (tr, .inr (5, [.ref wa, .ref cu, .ref tn, .ref tc, .ref ts, .int 0, .int 1])), (mm, .inr (9, [.int 0, .ref nw, .ref cq, .ref hi, .int 0, .ref ko, .ref se, .int 0, .ref nf, .ref ns, .ref pi])), (nw, .inr (8, [.int 0, .int 0, .ref vd, .ref lw, .ref hg, .ref rk]))] := hD
  refine W.eq (g2 := F0 m 1268 ls [.double 0]) rfl ?_
  refine lv_dstore (lv' := [(7, .double 0), (5, .double 0), (4, .int 0), (3, .ref ou), (2, .ref mm), (1, .ref x), (0, .ref b)]) hx hb dL_law_1268 hl (by decide) rfl (fun ls hl => ?_)
  refine lv_dload hx hb dL_law_1270 (lv_at hl 1 rfl) ?_
  refine lv_dload hx hb dL_law_1272 (lv_at hl 0 rfl) ?_
  refine lv_dcmp hx hb dL_law_1274 ?_
  refine zti (v := 0) (by decide +kernel) ?_
  refine lv_if_eq (tgt := 1296) hx hb dL_law_1275 (by decide) (fun _ => ?_) (fun h9 => absurd (by decide) h9)
  refine lv_goto (tgt := 1748) hx hb dL_law_1296 (by decide) ?_
  exact z_lawend hx hb hr hml hown hts hX hbl hlocks hl0 hA hA2 hbA hE (Nat.le_of_ble_eq_true rfl) (Nat.le_of_ble_eq_true rfl) hS (lv_sub hl [2, 6] rfl)
