/-! THE LAW: its cases -/
def zlaw : ZM := (⟨RL, "law", "([I)Z"⟩, code, 4, some .boolean, (0, 0, 0, 0, 0))
def k_L_law_0 : List ZI := [(.new 7, 3, (0, [10], [])), (.dup, 1, (0, [], [])), (.invokespecial 9, 3, (1739, [65, 1, 86, 10], []))]
theorem ok_L_law_0 : zOK code 13 false 4 k_L_law_0 0 = true := zOK_by (by decide +kernel)
def k_L_law_7 : List ZI := [(.astore_n 1, 1, (0, [1], [])), (.new 10, 3, (0, [11], [])), (.dup, 1, (0, [], [])), (.invokespecial 12, 3, (1407, [118, 1, 14, 11], []))]
theorem ok_L_law_7 : zOK code 13 false 4 k_L_law_7 7 = true := zOK_by (by decide +kernel)
def k_L_law_15 : List ZI := [(.astore_n 2, 1, (0, [2], [])), (.iconst 0, 1, (0, [], [])), (.istore_n 3, 1, (0, [3], []))]
theorem ok_L_law_15 : zOK code 13 false 4 k_L_law_15 15 = true := zOK_by (by decide +kernel)
def k_L_law_18 : List ZI := [(.iload_n 3, 1, (0, [3], [])), (.aload_n 0, 1, (0, [0], [])), (.arraylength, 1, (0, [], [])), (.bipush 6, 2, (0, [], [])), (.isub, 1, (0, [], [])), (.if_icmp .gt 1551, 3, (0, [1575], [])), (.aload_n 0, 1, (0, [0], [])), (.iload_n 3, 1, (0, [3], [])), (.iaload, 1, (0, [], [])), (.bipush 63, 2, (0, [], [])), (.iand, 1, (0, [], [])), (.tableswitch 1536 0 42 #[187, 220, 253, 286, 329, 362, 385, 418, 451, 484, 517, 550, 613, 636, 689, 712, 735, 778, 791, 814, 837, 880, 903, 946, 979, 1012, 1045, 1088, 1101, 1144, 1167, 1210, 1233, 1276, 1319, 1382, 1405, 1428, 1441, 1454, 1477, 1490, 1513], 187, (0, [1569], [(0, 220), (1, 253), (2, 286), (3, 319), (4, 362), (5, 395), (6, 418), (7, 451), (8, 484), (9, 517), (10, 550), (11, 583), (12, 646), (13, 669), (14, 722), (15, 745), (16, 768), (17, 811), (18, 824), (19, 847), (20, 870), (21, 913), (22, 936), (23, 979), (24, 1012), (25, 1045), (26, 1078), (27, 1121), (28, 1134), (29, 1177), (30, 1200), (31, 1243), (32, 1266), (33, 1309), (34, 1352), (35, 1415), (36, 1438), (37, 1461), (38, 1474), (39, 1487), (40, 1510), (41, 1523), (42, 1546)]))]
theorem ok_L_law_18 : zOK code 13 false 4 k_L_law_18 18 = true := zOK_by (by decide +kernel)
def k_L_law_220 : List ZI := [(.aload_n 1, 1, (0, [1], [])), (.aload_n 0, 1, (0, [0], [])), (.iload_n 3, 1, (0, [3], [])), (.iconst 1, 1, (0, [], [])), (.iadd, 1, (0, [], [])), (.iaload, 1, (0, [], [])), (.aload_n 0, 1, (0, [0], [])), (.iload_n 3, 1, (0, [3], [])), (.iconst 2, 1, (0, [], [])), (.iadd, 1, (0, [], [])), (.iaload, 1, (0, [], [])), (.invokevirtual 13, 3, (0, [66, 3, 0, 10], []))]
theorem ok_L_law_220 : zOK code 13 false 4 k_L_law_220 220 = true := zOK_by (by decide +kernel)
def k_L_law_234 : List ZI := [(.aload_n 2, 1, (0, [2], [])), (.aload_n 0, 1, (0, [0], [])), (.iload_n 3, 1, (0, [3], [])), (.iconst 1, 1, (0, [], [])), (.iadd, 1, (0, [], [])), (.iaload, 1, (0, [], [])), (.aload_n 0, 1, (0, [0], [])), (.iload_n 3, 1, (0, [3], [])), (.iconst 2, 1, (0, [], [])), (.iadd, 1, (0, [], [])), (.iaload, 1, (0, [], [])), (.invokevirtual 17, 3, (0, [165, 3, 0, 11], [])), (.if_icmp .eq 1321, 3, (0, [1569], [])), (.iconst 0, 1, (0, [], [])), (.ireturn, 1, (0, [], []))]
theorem ok_L_law_234 : zOK code 13 false 4 k_L_law_234 234 = true := zOK_by (by decide +kernel)
def k_L_law_253 : List ZI := [(.aload_n 1, 1, (0, [1], [])), (.aload_n 0, 1, (0, [0], [])), (.iload_n 3, 1, (0, [3], [])), (.iconst 1, 1, (0, [], [])), (.iadd, 1, (0, [], [])), (.iaload, 1, (0, [], [])), (.aload_n 0, 1, (0, [0], [])), (.iload_n 3, 1, (0, [3], [])), (.iconst 2, 1, (0, [], [])), (.iadd, 1, (0, [], [])), (.iaload, 1, (0, [], [])), (.invokevirtual 18, 3, (0, [67, 3, 0, 10], []))]
theorem ok_L_law_253 : zOK code 13 false 4 k_L_law_253 253 = true := zOK_by (by decide +kernel)
def k_L_law_267 : List ZI := [(.aload_n 2, 1, (0, [2], [])), (.aload_n 0, 1, (0, [0], [])), (.iload_n 3, 1, (0, [3], [])), (.iconst 1, 1, (0, [], [])), (.iadd, 1, (0, [], [])), (.iaload, 1, (0, [], [])), (.aload_n 0, 1, (0, [0], [])), (.iload_n 3, 1, (0, [3], [])), (.iconst 2, 1, (0, [], [])), (.iadd, 1, (0, [], [])), (.iaload, 1, (0, [], [])), (.invokevirtual 21, 3, (0, [167, 3, 0, 11], [])), (.if_icmp .eq 1288, 3, (0, [1569], [])), (.iconst 0, 1, (0, [], [])), (.ireturn, 1, (0, [], []))]
theorem ok_L_law_267 : zOK code 13 false 4 k_L_law_267 267 = true := zOK_by (by decide +kernel)
def k_L_law_286 : List ZI := [(.aload_n 1, 1, (0, [1], [])), (.aload_n 0, 1, (0, [0], [])), (.iload_n 3, 1, (0, [3], [])), (.iconst 1, 1, (0, [], [])), (.iadd, 1, (0, [], [])), (.iaload, 1, (0, [], [])), (.aload_n 0, 1, (0, [0], [])), (.iload_n 3, 1, (0, [3], [])), (.iconst 2, 1, (0, [], [])), (.iadd, 1, (0, [], [])), (.iaload, 1, (0, [], [])), (.invokevirtual 22, 3, (0, [68, 3, 0, 10], []))]
theorem ok_L_law_286 : zOK code 13 false 4 k_L_law_286 286 = true := zOK_by (by decide +kernel)
def k_L_law_300 : List ZI := [(.aload_n 2, 1, (0, [2], [])), (.aload_n 0, 1, (0, [0], [])), (.iload_n 3, 1, (0, [3], [])), (.iconst 1, 1, (0, [], [])), (.iadd, 1, (0, [], [])), (.iaload, 1, (0, [], [])), (.aload_n 0, 1, (0, [0], [])), (.iload_n 3, 1, (0, [3], [])), (.iconst 2, 1, (0, [], [])), (.iadd, 1, (0, [], [])), (.iaload, 1, (0, [], [])), (.invokevirtual 25, 3, (0, [168, 3, 0, 11], [])), (.if_icmp .eq 1255, 3, (0, [1569], [])), (.iconst 0, 1, (0, [], [])), (.ireturn, 1, (0, [], []))]
theorem ok_L_law_300 : zOK code 13 false 4 k_L_law_300 300 = true := zOK_by (by decide +kernel)
def k_L_law_319 : List ZI := [(.aload_n 1, 1, (0, [1], [])), (.aload_n 0, 1, (0, [0], [])), (.iload_n 3, 1, (0, [3], [])), (.iconst 1, 1, (0, [], [])), (.iadd, 1, (0, [], [])), (.iaload, 1, (0, [], [])), (.aload_n 0, 1, (0, [0], [])), (.iload_n 3, 1, (0, [3], [])), (.iconst 2, 1, (0, [], [])), (.iadd, 1, (0, [], [])), (.iaload, 1, (0, [], [])), (.aload_n 0, 1, (0, [0], [])), (.iload_n 3, 1, (0, [3], [])), (.iconst 3, 1, (0, [], [])), (.iadd, 1, (0, [], [])), (.iaload, 1, (0, [], [])), (.invokevirtual 26, 3, (0, [69, 4, 0, 10], []))]
theorem ok_L_law_319 : zOK code 13 false 4 k_L_law_319 319 = true := zOK_by (by decide +kernel)
def k_L_law_338 : List ZI := [(.aload_n 2, 1, (0, [2], [])), (.aload_n 0, 1, (0, [0], [])), (.iload_n 3, 1, (0, [3], [])), (.iconst 1, 1, (0, [], [])), (.iadd, 1, (0, [], [])), (.iaload, 1, (0, [], [])), (.aload_n 0, 1, (0, [0], [])), (.iload_n 3, 1, (0, [3], [])), (.iconst 2, 1, (0, [], [])), (.iadd, 1, (0, [], [])), (.iaload, 1, (0, [], [])), (.aload_n 0, 1, (0, [0], [])), (.iload_n 3, 1, (0, [3], [])), (.iconst 3, 1, (0, [], [])), (.iadd, 1, (0, [], [])), (.iaload, 1, (0, [], [])), (.invokevirtual 30, 3, (0, [169, 4, 0, 11], [])), (.if_icmp .eq 1212, 3, (0, [1569], [])), (.iconst 0, 1, (0, [], [])), (.ireturn, 1, (0, [], []))]
theorem ok_L_law_338 : zOK code 13 false 4 k_L_law_338 338 = true := zOK_by (by decide +kernel)
def k_L_law_362 : List ZI := [(.aload_n 1, 1, (0, [1], [])), (.aload_n 0, 1, (0, [0], [])), (.iload_n 3, 1, (0, [3], [])), (.iconst 1, 1, (0, [], [])), (.iadd, 1, (0, [], [])), (.iaload, 1, (0, [], [])), (.aload_n 0, 1, (0, [0], [])), (.iload_n 3, 1, (0, [3], [])), (.iconst 2, 1, (0, [], [])), (.iadd, 1, (0, [], [])), (.iaload, 1, (0, [], [])), (.invokevirtual 31, 3, (0, [71, 3, 0, 10], []))]
theorem ok_L_law_362 : zOK code 13 false 4 k_L_law_362 362 = true := zOK_by (by decide +kernel)
def k_L_law_376 : List ZI := [(.aload_n 2, 1, (0, [2], [])), (.aload_n 0, 1, (0, [0], [])), (.iload_n 3, 1, (0, [3], [])), (.iconst 1, 1, (0, [], [])), (.iadd, 1, (0, [], [])), (.iaload, 1, (0, [], [])), (.aload_n 0, 1, (0, [0], [])), (.iload_n 3, 1, (0, [3], [])), (.iconst 2, 1, (0, [], [])), (.iadd, 1, (0, [], [])), (.iaload, 1, (0, [], [])), (.invokevirtual 34, 3, (0, [170, 3, 0, 11], [])), (.if_icmp .eq 1179, 3, (0, [1569], [])), (.iconst 0, 1, (0, [], [])), (.ireturn, 1, (0, [], []))]
theorem ok_L_law_376 : zOK code 13 false 4 k_L_law_376 376 = true := zOK_by (by decide +kernel)
def k_L_law_395 : List ZI := [(.aload_n 1, 1, (0, [1], [])), (.aload_n 0, 1, (0, [0], [])), (.iload_n 3, 1, (0, [3], [])), (.iconst 1, 1, (0, [], [])), (.iadd, 1, (0, [], [])), (.iaload, 1, (0, [], [])), (.invokevirtual 35, 3, (0, [72, 2, 0, 10], []))]
theorem ok_L_law_395 : zOK code 13 false 4 k_L_law_395 395 = true := zOK_by (by decide +kernel)
def k_L_law_404 : List ZI := [(.aload_n 2, 1, (0, [2], [])), (.aload_n 0, 1, (0, [0], [])), (.iload_n 3, 1, (0, [3], [])), (.iconst 1, 1, (0, [], [])), (.iadd, 1, (0, [], [])), (.iaload, 1, (0, [], [])), (.invokevirtual 39, 3, (0, [171, 2, 0, 11], [])), (.if_icmp .eq 1156, 3, (0, [1569], [])), (.iconst 0, 1, (0, [], [])), (.ireturn, 1, (0, [], []))]
theorem ok_L_law_404 : zOK code 13 false 4 k_L_law_404 404 = true := zOK_by (by decide +kernel)
def k_L_law_418 : List ZI := [(.aload_n 1, 1, (0, [1], [])), (.aload_n 0, 1, (0, [0], [])), (.iload_n 3, 1, (0, [3], [])), (.iconst 1, 1, (0, [], [])), (.iadd, 1, (0, [], [])), (.iaload, 1, (0, [], [])), (.aload_n 0, 1, (0, [0], [])), (.iload_n 3, 1, (0, [3], [])), (.iconst 2, 1, (0, [], [])), (.iadd, 1, (0, [], [])), (.iaload, 1, (0, [], [])), (.invokevirtual 40, 3, (0, [73, 3, 0, 10], []))]
theorem ok_L_law_418 : zOK code 13 false 4 k_L_law_418 418 = true := zOK_by (by decide +kernel)
def k_L_law_432 : List ZI := [(.aload_n 2, 1, (0, [2], [])), (.aload_n 0, 1, (0, [0], [])), (.iload_n 3, 1, (0, [3], [])), (.iconst 1, 1, (0, [], [])), (.iadd, 1, (0, [], [])), (.iaload, 1, (0, [], [])), (.aload_n 0, 1, (0, [0], [])), (.iload_n 3, 1, (0, [3], [])), (.iconst 2, 1, (0, [], [])), (.iadd, 1, (0, [], [])), (.iaload, 1, (0, [], [])), (.invokevirtual 43, 3, (0, [173, 3, 0, 11], [])), (.if_icmp .eq 1123, 3, (0, [1569], [])), (.iconst 0, 1, (0, [], [])), (.ireturn, 1, (0, [], []))]
theorem ok_L_law_432 : zOK code 13 false 4 k_L_law_432 432 = true := zOK_by (by decide +kernel)
def k_L_law_451 : List ZI := [(.aload_n 1, 1, (0, [1], [])), (.aload_n 0, 1, (0, [0], [])), (.iload_n 3, 1, (0, [3], [])), (.iconst 1, 1, (0, [], [])), (.iadd, 1, (0, [], [])), (.iaload, 1, (0, [], [])), (.aload_n 0, 1, (0, [0], [])), (.iload_n 3, 1, (0, [3], [])), (.iconst 2, 1, (0, [], [])), (.iadd, 1, (0, [], [])), (.iaload, 1, (0, [], [])), (.invokevirtual 44, 3, (0, [74, 3, 0, 10], []))]
theorem ok_L_law_451 : zOK code 13 false 4 k_L_law_451 451 = true := zOK_by (by decide +kernel)
def k_L_law_465 : List ZI := [(.aload_n 2, 1, (0, [2], [])), (.aload_n 0, 1, (0, [0], [])), (.iload_n 3, 1, (0, [3], [])), (.iconst 1, 1, (0, [], [])), (.iadd, 1, (0, [], [])), (.iaload, 1, (0, [], [])), (.aload_n 0, 1, (0, [0], [])), (.iload_n 3, 1, (0, [3], [])), (.iconst 2, 1, (0, [], [])), (.iadd, 1, (0, [], [])), (.iaload, 1, (0, [], [])), (.invokevirtual 47, 3, (0, [174, 3, 0, 11], [])), (.if_icmp .eq 1090, 3, (0, [1569], [])), (.iconst 0, 1, (0, [], [])), (.ireturn, 1, (0, [], []))]
theorem ok_L_law_465 : zOK code 13 false 4 k_L_law_465 465 = true := zOK_by (by decide +kernel)
def k_L_law_484 : List ZI := [(.aload_n 1, 1, (0, [1], [])), (.aload_n 0, 1, (0, [0], [])), (.iload_n 3, 1, (0, [3], [])), (.iconst 1, 1, (0, [], [])), (.iadd, 1, (0, [], [])), (.iaload, 1, (0, [], [])), (.aload_n 0, 1, (0, [0], [])), (.iload_n 3, 1, (0, [3], [])), (.iconst 2, 1, (0, [], [])), (.iadd, 1, (0, [], [])), (.iaload, 1, (0, [], [])), (.invokevirtual 48, 3, (0, [75, 3, 0, 10], []))]
theorem ok_L_law_484 : zOK code 13 false 4 k_L_law_484 484 = true := zOK_by (by decide +kernel)
def k_L_law_498 : List ZI := [(.aload_n 2, 1, (0, [2], [])), (.aload_n 0, 1, (0, [0], [])), (.iload_n 3, 1, (0, [3], [])), (.iconst 1, 1, (0, [], [])), (.iadd, 1, (0, [], [])), (.iaload, 1, (0, [], [])), (.aload_n 0, 1, (0, [0], [])), (.iload_n 3, 1, (0, [3], [])), (.iconst 2, 1, (0, [], [])), (.iadd, 1, (0, [], [])), (.iaload, 1, (0, [], [])), (.invokevirtual 51, 3, (0, [175, 3, 0, 11], [])), (.if_icmp .eq 1057, 3, (0, [1569], [])), (.iconst 0, 1, (0, [], [])), (.ireturn, 1, (0, [], []))]
theorem ok_L_law_498 : zOK code 13 false 4 k_L_law_498 498 = true := zOK_by (by decide +kernel)
def k_L_law_517 : List ZI := [(.aload_n 1, 1, (0, [1], [])), (.aload_n 0, 1, (0, [0], [])), (.iload_n 3, 1, (0, [3], [])), (.iconst 1, 1, (0, [], [])), (.iadd, 1, (0, [], [])), (.iaload, 1, (0, [], [])), (.aload_n 0, 1, (0, [0], [])), (.iload_n 3, 1, (0, [3], [])), (.iconst 2, 1, (0, [], [])), (.iadd, 1, (0, [], [])), (.iaload, 1, (0, [], [])), (.invokevirtual 52, 3, (0, [76, 3, 0, 10], []))]
theorem ok_L_law_517 : zOK code 13 false 4 k_L_law_517 517 = true := zOK_by (by decide +kernel)
def k_L_law_531 : List ZI := [(.aload_n 2, 1, (0, [2], [])), (.aload_n 0, 1, (0, [0], [])), (.iload_n 3, 1, (0, [3], [])), (.iconst 1, 1, (0, [], [])), (.iadd, 1, (0, [], [])), (.iaload, 1, (0, [], [])), (.aload_n 0, 1, (0, [0], [])), (.iload_n 3, 1, (0, [3], [])), (.iconst 2, 1, (0, [], [])), (.iadd, 1, (0, [], [])), (.iaload, 1, (0, [], [])), (.invokevirtual 55, 3, (0, [176, 3, 0, 11], [])), (.if_icmp .eq 1024, 3, (0, [1569], [])), (.iconst 0, 1, (0, [], [])), (.ireturn, 1, (0, [], []))]
theorem ok_L_law_531 : zOK code 13 false 4 k_L_law_531 531 = true := zOK_by (by decide +kernel)
def k_L_law_550 : List ZI := [(.aload_n 1, 1, (0, [1], [])), (.aload_n 0, 1, (0, [0], [])), (.iload_n 3, 1, (0, [3], [])), (.iconst 1, 1, (0, [], [])), (.iadd, 1, (0, [], [])), (.iaload, 1, (0, [], [])), (.aload_n 0, 1, (0, [0], [])), (.iload_n 3, 1, (0, [3], [])), (.iconst 2, 1, (0, [], [])), (.iadd, 1, (0, [], [])), (.iaload, 1, (0, [], [])), (.invokevirtual 56, 3, (0, [77, 3, 0, 10], []))]
theorem ok_L_law_550 : zOK code 13 false 4 k_L_law_550 550 = true := zOK_by (by decide +kernel)
def k_L_law_564 : List ZI := [(.aload_n 2, 1, (0, [2], [])), (.aload_n 0, 1, (0, [0], [])), (.iload_n 3, 1, (0, [3], [])), (.iconst 1, 1, (0, [], [])), (.iadd, 1, (0, [], [])), (.iaload, 1, (0, [], [])), (.aload_n 0, 1, (0, [0], [])), (.iload_n 3, 1, (0, [3], [])), (.iconst 2, 1, (0, [], [])), (.iadd, 1, (0, [], [])), (.iaload, 1, (0, [], [])), (.invokevirtual 59, 3, (0, [177, 3, 0, 11], [])), (.if_icmp .eq 991, 3, (0, [1569], [])), (.iconst 0, 1, (0, [], [])), (.ireturn, 1, (0, [], []))]
theorem ok_L_law_564 : zOK code 13 false 4 k_L_law_564 564 = true := zOK_by (by decide +kernel)
def k_L_law_583 : List ZI := [(.aload_n 1, 1, (0, [1], [])), (.aload_n 0, 1, (0, [0], [])), (.iload_n 3, 1, (0, [3], [])), (.iconst 1, 1, (0, [], [])), (.iadd, 1, (0, [], [])), (.iaload, 1, (0, [], [])), (.i2l, 1, (0, [], [])), (.bipush 32, 2, (0, [], [])), (.lshl, 1, (0, [], [])), (.aload_n 0, 1, (0, [0], [])), (.iload_n 3, 1, (0, [3], [])), (.iconst 2, 1, (0, [], [])), (.iadd, 1, (0, [], [])), (.iaload, 1, (0, [], [])), (.i2l, 1, (0, [], [])), (.ldc2_w 60, 3, (4294967295, [], [])), (.land, 1, (0, [], [])), (.lor, 1, (0, [], [])), (.aload_n 0, 1, (0, [0], [])), (.iload_n 3, 1, (0, [3], [])), (.iconst 3, 1, (0, [], [])), (.iadd, 1, (0, [], [])), (.iaload, 1, (0, [], [])), (.invokevirtual 62, 3, (0, [78, 3, 0, 10], []))]
theorem ok_L_law_583 : zOK code 13 false 4 k_L_law_583 583 = true := zOK_by (by decide +kernel)
def k_L_law_612 : List ZI := [(.aload_n 2, 1, (0, [2], [])), (.aload_n 0, 1, (0, [0], [])), (.iload_n 3, 1, (0, [3], [])), (.iconst 1, 1, (0, [], [])), (.iadd, 1, (0, [], [])), (.iaload, 1, (0, [], [])), (.i2l, 1, (0, [], [])), (.bipush 32, 2, (0, [], [])), (.lshl, 1, (0, [], [])), (.aload_n 0, 1, (0, [0], [])), (.iload_n 3, 1, (0, [3], [])), (.iconst 2, 1, (0, [], [])), (.iadd, 1, (0, [], [])), (.iaload, 1, (0, [], [])), (.i2l, 1, (0, [], [])), (.ldc2_w 60, 3, (4294967295, [], [])), (.land, 1, (0, [], [])), (.lor, 1, (0, [], [])), (.aload_n 0, 1, (0, [0], [])), (.iload_n 3, 1, (0, [3], [])), (.iconst 3, 1, (0, [], [])), (.iadd, 1, (0, [], [])), (.iaload, 1, (0, [], [])), (.invokevirtual 66, 3, (0, [147, 3, 0, 11], [])), (.if_icmp .eq 928, 3, (0, [1569], [])), (.iconst 0, 1, (0, [], [])), (.ireturn, 1, (0, [], []))]
theorem ok_L_law_612 : zOK code 13 false 4 k_L_law_612 612 = true := zOK_by (by decide +kernel)
def k_L_law_646 : List ZI := [(.aload_n 1, 1, (0, [1], [])), (.aload_n 0, 1, (0, [0], [])), (.iload_n 3, 1, (0, [3], [])), (.iconst 1, 1, (0, [], [])), (.iadd, 1, (0, [], [])), (.iaload, 1, (0, [], [])), (.invokevirtual 67, 3, (0, [79, 2, 0, 10], []))]
theorem ok_L_law_646 : zOK code 13 false 4 k_L_law_646 646 = true := zOK_by (by decide +kernel)
def k_L_law_655 : List ZI := [(.aload_n 2, 1, (0, [2], [])), (.aload_n 0, 1, (0, [0], [])), (.iload_n 3, 1, (0, [3], [])), (.iconst 1, 1, (0, [], [])), (.iadd, 1, (0, [], [])), (.iaload, 1, (0, [], [])), (.invokevirtual 70, 3, (0, [148, 2, 0, 11], [])), (.if_icmp .eq 905, 3, (0, [1569], [])), (.iconst 0, 1, (0, [], [])), (.ireturn, 1, (0, [], []))]
theorem ok_L_law_655 : zOK code 13 false 4 k_L_law_655 655 = true := zOK_by (by decide +kernel)
def k_L_law_669 : List ZI := [(.aload_n 1, 1, (0, [1], [])), (.aload_n 0, 1, (0, [0], [])), (.iload_n 3, 1, (0, [3], [])), (.iconst 1, 1, (0, [], [])), (.iadd, 1, (0, [], [])), (.iaload, 1, (0, [], [])), (.aload_n 0, 1, (0, [0], [])), (.iload_n 3, 1, (0, [3], [])), (.iconst 2, 1, (0, [], [])), (.iadd, 1, (0, [], [])), (.iaload, 1, (0, [], [])), (.aload_n 0, 1, (0, [0], [])), (.iload_n 3, 1, (0, [3], [])), (.iconst 3, 1, (0, [], [])), (.iadd, 1, (0, [], [])), (.iaload, 1, (0, [], [])), (.aload_n 0, 1, (0, [0], [])), (.iload_n 3, 1, (0, [3], [])), (.iconst 4, 1, (0, [], [])), (.iadd, 1, (0, [], [])), (.iaload, 1, (0, [], [])), (.invokevirtual 71, 3, (0, [80, 5, 0, 10], []))]
theorem ok_L_law_669 : zOK code 13 false 4 k_L_law_669 669 = true := zOK_by (by decide +kernel)
def k_L_law_693 : List ZI := [(.aload_n 2, 1, (0, [2], [])), (.aload_n 0, 1, (0, [0], [])), (.iload_n 3, 1, (0, [3], [])), (.iconst 1, 1, (0, [], [])), (.iadd, 1, (0, [], [])), (.iaload, 1, (0, [], [])), (.aload_n 0, 1, (0, [0], [])), (.iload_n 3, 1, (0, [3], [])), (.iconst 2, 1, (0, [], [])), (.iadd, 1, (0, [], [])), (.iaload, 1, (0, [], [])), (.aload_n 0, 1, (0, [0], [])), (.iload_n 3, 1, (0, [3], [])), (.iconst 3, 1, (0, [], [])), (.iadd, 1, (0, [], [])), (.iaload, 1, (0, [], [])), (.aload_n 0, 1, (0, [0], [])), (.iload_n 3, 1, (0, [3], [])), (.iconst 4, 1, (0, [], [])), (.iadd, 1, (0, [], [])), (.iaload, 1, (0, [], [])), (.invokevirtual 75, 3, (0, [150, 5, 0, 11], [])), (.if_icmp .eq 852, 3, (0, [1569], [])), (.iconst 0, 1, (0, [], [])), (.ireturn, 1, (0, [], []))]
theorem ok_L_law_693 : zOK code 13 false 4 k_L_law_693 693 = true := zOK_by (by decide +kernel)
def k_L_law_722 : List ZI := [(.aload_n 1, 1, (0, [1], [])), (.aload_n 0, 1, (0, [0], [])), (.iload_n 3, 1, (0, [3], [])), (.iconst 1, 1, (0, [], [])), (.iadd, 1, (0, [], [])), (.iaload, 1, (0, [], [])), (.invokevirtual 76, 3, (0, [81, 2, 0, 10], []))]
theorem ok_L_law_722 : zOK code 13 false 4 k_L_law_722 722 = true := zOK_by (by decide +kernel)
def k_L_law_731 : List ZI := [(.aload_n 2, 1, (0, [2], [])), (.aload_n 0, 1, (0, [0], [])), (.iload_n 3, 1, (0, [3], [])), (.iconst 1, 1, (0, [], [])), (.iadd, 1, (0, [], [])), (.iaload, 1, (0, [], [])), (.invokevirtual 79, 3, (0, [179, 2, 0, 11], [])), (.if_icmp .eq 829, 3, (0, [1569], [])), (.iconst 0, 1, (0, [], [])), (.ireturn, 1, (0, [], []))]
theorem ok_L_law_731 : zOK code 13 false 4 k_L_law_731 731 = true := zOK_by (by decide +kernel)
def k_L_law_745 : List ZI := [(.aload_n 1, 1, (0, [1], [])), (.aload_n 0, 1, (0, [0], [])), (.iload_n 3, 1, (0, [3], [])), (.iconst 1, 1, (0, [], [])), (.iadd, 1, (0, [], [])), (.iaload, 1, (0, [], [])), (.invokevirtual 80, 3, (0, [82, 2, 0, 10], []))]
theorem ok_L_law_745 : zOK code 13 false 4 k_L_law_745 745 = true := zOK_by (by decide +kernel)
def k_L_law_754 : List ZI := [(.aload_n 2, 1, (0, [2], [])), (.aload_n 0, 1, (0, [0], [])), (.iload_n 3, 1, (0, [3], [])), (.iconst 1, 1, (0, [], [])), (.iadd, 1, (0, [], [])), (.iaload, 1, (0, [], [])), (.invokevirtual 83, 3, (0, [181, 2, 0, 11], [])), (.if_icmp .eq 806, 3, (0, [1569], [])), (.iconst 0, 1, (0, [], [])), (.ireturn, 1, (0, [], []))]
theorem ok_L_law_754 : zOK code 13 false 4 k_L_law_754 754 = true := zOK_by (by decide +kernel)
def k_L_law_768 : List ZI := [(.aload_n 1, 1, (0, [1], [])), (.aload_n 0, 1, (0, [0], [])), (.iload_n 3, 1, (0, [3], [])), (.iconst 1, 1, (0, [], [])), (.iadd, 1, (0, [], [])), (.iaload, 1, (0, [], [])), (.aload_n 0, 1, (0, [0], [])), (.iload_n 3, 1, (0, [3], [])), (.iconst 2, 1, (0, [], [])), (.iadd, 1, (0, [], [])), (.iaload, 1, (0, [], [])), (.aload_n 0, 1, (0, [0], [])), (.iload_n 3, 1, (0, [3], [])), (.iconst 3, 1, (0, [], [])), (.iadd, 1, (0, [], [])), (.iaload, 1, (0, [], [])), (.invokevirtual 84, 3, (0, [83, 4, 0, 10], []))]
theorem ok_L_law_768 : zOK code 13 false 4 k_L_law_768 768 = true := zOK_by (by decide +kernel)
def k_L_law_787 : List ZI := [(.aload_n 2, 1, (0, [2], [])), (.aload_n 0, 1, (0, [0], [])), (.iload_n 3, 1, (0, [3], [])), (.iconst 1, 1, (0, [], [])), (.iadd, 1, (0, [], [])), (.iaload, 1, (0, [], [])), (.aload_n 0, 1, (0, [0], [])), (.iload_n 3, 1, (0, [3], [])), (.iconst 2, 1, (0, [], [])), (.iadd, 1, (0, [], [])), (.iaload, 1, (0, [], [])), (.aload_n 0, 1, (0, [0], [])), (.iload_n 3, 1, (0, [3], [])), (.iconst 3, 1, (0, [], [])), (.iadd, 1, (0, [], [])), (.iaload, 1, (0, [], [])), (.invokevirtual 87, 3, (0, [184, 4, 0, 11], [])), (.if_icmp .eq 763, 3, (0, [1569], [])), (.iconst 0, 1, (0, [], [])), (.ireturn, 1, (0, [], []))]
theorem ok_L_law_787 : zOK code 13 false 4 k_L_law_787 787 = true := zOK_by (by decide +kernel)
def k_L_law_811 : List ZI := [(.aload_n 1, 1, (0, [1], [])), (.invokevirtual 88, 3, (0, [84, 1, 0, 10], []))]
theorem ok_L_law_811 : zOK code 13 false 4 k_L_law_811 811 = true := zOK_by (by decide +kernel)
def k_L_law_815 : List ZI := [(.aload_n 2, 1, (0, [2], [])), (.invokevirtual 92, 3, (0, [185, 1, 0, 11], [])), (.if_icmp .eq 750, 3, (0, [1569], [])), (.iconst 0, 1, (0, [], [])), (.ireturn, 1, (0, [], []))]
theorem ok_L_law_815 : zOK code 13 false 4 k_L_law_815 815 = true := zOK_by (by decide +kernel)
def k_L_law_824 : List ZI := [(.aload_n 1, 1, (0, [1], [])), (.aload_n 0, 1, (0, [0], [])), (.iload_n 3, 1, (0, [3], [])), (.iconst 1, 1, (0, [], [])), (.iadd, 1, (0, [], [])), (.iaload, 1, (0, [], [])), (.invokevirtual 93, 3, (0, [85, 2, 0, 10], []))]
theorem ok_L_law_824 : zOK code 13 false 4 k_L_law_824 824 = true := zOK_by (by decide +kernel)
def k_L_law_833 : List ZI := [(.aload_n 2, 1, (0, [2], [])), (.aload_n 0, 1, (0, [0], [])), (.iload_n 3, 1, (0, [3], [])), (.iconst 1, 1, (0, [], [])), (.iadd, 1, (0, [], [])), (.iaload, 1, (0, [], [])), (.invokevirtual 96, 3, (0, [187, 2, 0, 11], [])), (.if_icmp .eq 727, 3, (0, [1569], [])), (.iconst 0, 1, (0, [], [])), (.ireturn, 1, (0, [], []))]
theorem ok_L_law_833 : zOK code 13 false 4 k_L_law_833 833 = true := zOK_by (by decide +kernel)
def k_L_law_847 : List ZI := [(.aload_n 1, 1, (0, [1], [])), (.aload_n 0, 1, (0, [0], [])), (.iload_n 3, 1, (0, [3], [])), (.iconst 1, 1, (0, [], [])), (.iadd, 1, (0, [], [])), (.iaload, 1, (0, [], [])), (.invokevirtual 97, 3, (0, [86, 2, 0, 10], []))]
theorem ok_L_law_847 : zOK code 13 false 4 k_L_law_847 847 = true := zOK_by (by decide +kernel)
def k_L_law_856 : List ZI := [(.aload_n 2, 1, (0, [2], [])), (.aload_n 0, 1, (0, [0], [])), (.iload_n 3, 1, (0, [3], [])), (.iconst 1, 1, (0, [], [])), (.iadd, 1, (0, [], [])), (.iaload, 1, (0, [], [])), (.invokevirtual 100, 3, (0, [188, 2, 0, 11], [])), (.if_icmp .eq 704, 3, (0, [1569], [])), (.iconst 0, 1, (0, [], [])), (.ireturn, 1, (0, [], []))]
theorem ok_L_law_856 : zOK code 13 false 4 k_L_law_856 856 = true := zOK_by (by decide +kernel)
def k_L_law_870 : List ZI := [(.aload_n 1, 1, (0, [1], [])), (.aload_n 0, 1, (0, [0], [])), (.iload_n 3, 1, (0, [3], [])), (.iconst 1, 1, (0, [], [])), (.iadd, 1, (0, [], [])), (.iaload, 1, (0, [], [])), (.aload_n 0, 1, (0, [0], [])), (.iload_n 3, 1, (0, [3], [])), (.iconst 2, 1, (0, [], [])), (.iadd, 1, (0, [], [])), (.iaload, 1, (0, [], [])), (.aload_n 0, 1, (0, [0], [])), (.iload_n 3, 1, (0, [3], [])), (.iconst 3, 1, (0, [], [])), (.iadd, 1, (0, [], [])), (.iaload, 1, (0, [], [])), (.invokevirtual 101, 3, (0, [87, 4, 0, 10], []))]
theorem ok_L_law_870 : zOK code 13 false 4 k_L_law_870 870 = true := zOK_by (by decide +kernel)
def k_L_law_889 : List ZI := [(.aload_n 2, 1, (0, [2], [])), (.aload_n 0, 1, (0, [0], [])), (.iload_n 3, 1, (0, [3], [])), (.iconst 1, 1, (0, [], [])), (.iadd, 1, (0, [], [])), (.iaload, 1, (0, [], [])), (.aload_n 0, 1, (0, [0], [])), (.iload_n 3, 1, (0, [3], [])), (.iconst 2, 1, (0, [], [])), (.iadd, 1, (0, [], [])), (.iaload, 1, (0, [], [])), (.aload_n 0, 1, (0, [0], [])), (.iload_n 3, 1, (0, [3], [])), (.iconst 3, 1, (0, [], [])), (.iadd, 1, (0, [], [])), (.iaload, 1, (0, [], [])), (.invokevirtual 104, 3, (0, [189, 4, 0, 11], [])), (.if_icmp .eq 661, 3, (0, [1569], [])), (.iconst 0, 1, (0, [], [])), (.ireturn, 1, (0, [], []))]
theorem ok_L_law_889 : zOK code 13 false 4 k_L_law_889 889 = true := zOK_by (by decide +kernel)
def k_L_law_913 : List ZI := [(.aload_n 1, 1, (0, [1], [])), (.aload_n 0, 1, (0, [0], [])), (.iload_n 3, 1, (0, [3], [])), (.iconst 1, 1, (0, [], [])), (.iadd, 1, (0, [], [])), (.iaload, 1, (0, [], [])), (.invokevirtual 105, 3, (0, [88, 2, 0, 10], []))]
theorem ok_L_law_913 : zOK code 13 false 4 k_L_law_913 913 = true := zOK_by (by decide +kernel)
def k_L_law_922 : List ZI := [(.aload_n 2, 1, (0, [2], [])), (.aload_n 0, 1, (0, [0], [])), (.iload_n 3, 1, (0, [3], [])), (.iconst 1, 1, (0, [], [])), (.iadd, 1, (0, [], [])), (.iaload, 1, (0, [], [])), (.invokevirtual 108, 3, (0, [190, 2, 0, 11], [])), (.if_icmp .eq 638, 3, (0, [1569], [])), (.iconst 0, 1, (0, [], [])), (.ireturn, 1, (0, [], []))]
theorem ok_L_law_922 : zOK code 13 false 4 k_L_law_922 922 = true := zOK_by (by decide +kernel)
def k_L_law_936 : List ZI := [(.aload_n 1, 1, (0, [1], [])), (.aload_n 0, 1, (0, [0], [])), (.iload_n 3, 1, (0, [3], [])), (.iconst 1, 1, (0, [], [])), (.iadd, 1, (0, [], [])), (.iaload, 1, (0, [], [])), (.aload_n 0, 1, (0, [0], [])), (.iload_n 3, 1, (0, [3], [])), (.iconst 2, 1, (0, [], [])), (.iadd, 1, (0, [], [])), (.iaload, 1, (0, [], [])), (.aload_n 0, 1, (0, [0], [])), (.iload_n 3, 1, (0, [3], [])), (.iconst 3, 1, (0, [], [])), (.iadd, 1, (0, [], [])), (.iaload, 1, (0, [], [])), (.invokevirtual 109, 3, (0, [89, 4, 0, 10], []))]
theorem ok_L_law_936 : zOK code 13 false 4 k_L_law_936 936 = true := zOK_by (by decide +kernel)
def k_L_law_955 : List ZI := [(.aload_n 2, 1, (0, [2], [])), (.aload_n 0, 1, (0, [0], [])), (.iload_n 3, 1, (0, [3], [])), (.iconst 1, 1, (0, [], [])), (.iadd, 1, (0, [], [])), (.iaload, 1, (0, [], [])), (.aload_n 0, 1, (0, [0], [])), (.iload_n 3, 1, (0, [3], [])), (.iconst 2, 1, (0, [], [])), (.iadd, 1, (0, [], [])), (.iaload, 1, (0, [], [])), (.aload_n 0, 1, (0, [0], [])), (.iload_n 3, 1, (0, [3], [])), (.iconst 3, 1, (0, [], [])), (.iadd, 1, (0, [], [])), (.iaload, 1, (0, [], [])), (.invokevirtual 112, 3, (0, [192, 4, 0, 11], [])), (.if_icmp .eq 595, 3, (0, [1569], [])), (.iconst 0, 1, (0, [], [])), (.ireturn, 1, (0, [], []))]
theorem ok_L_law_955 : zOK code 13 false 4 k_L_law_955 955 = true := zOK_by (by decide +kernel)
def k_L_law_979 : List ZI := [(.aload_n 1, 1, (0, [1], [])), (.aload_n 0, 1, (0, [0], [])), (.iload_n 3, 1, (0, [3], [])), (.iconst 1, 1, (0, [], [])), (.iadd, 1, (0, [], [])), (.iaload, 1, (0, [], [])), (.aload_n 0, 1, (0, [0], [])), (.iload_n 3, 1, (0, [3], [])), (.iconst 2, 1, (0, [], [])), (.iadd, 1, (0, [], [])), (.iaload, 1, (0, [], [])), (.invokevirtual 113, 3, (0, [90, 3, 0, 10], []))]
theorem ok_L_law_979 : zOK code 13 false 4 k_L_law_979 979 = true := zOK_by (by decide +kernel)
def k_L_law_993 : List ZI := [(.aload_n 2, 1, (0, [2], [])), (.aload_n 0, 1, (0, [0], [])), (.iload_n 3, 1, (0, [3], [])), (.iconst 1, 1, (0, [], [])), (.iadd, 1, (0, [], [])), (.iaload, 1, (0, [], [])), (.aload_n 0, 1, (0, [0], [])), (.iload_n 3, 1, (0, [3], [])), (.iconst 2, 1, (0, [], [])), (.iadd, 1, (0, [], [])), (.iaload, 1, (0, [], [])), (.invokevirtual 116, 3, (0, [193, 3, 0, 11], [])), (.if_icmp .eq 562, 3, (0, [1569], [])), (.iconst 0, 1, (0, [], [])), (.ireturn, 1, (0, [], []))]
theorem ok_L_law_993 : zOK code 13 false 4 k_L_law_993 993 = true := zOK_by (by decide +kernel)
def k_L_law_1012 : List ZI := [(.aload_n 1, 1, (0, [1], [])), (.aload_n 0, 1, (0, [0], [])), (.iload_n 3, 1, (0, [3], [])), (.iconst 1, 1, (0, [], [])), (.iadd, 1, (0, [], [])), (.iaload, 1, (0, [], [])), (.aload_n 0, 1, (0, [0], [])), (.iload_n 3, 1, (0, [3], [])), (.iconst 2, 1, (0, [], [])), (.iadd, 1, (0, [], [])), (.iaload, 1, (0, [], [])), (.invokevirtual 117, 3, (0, [91, 3, 0, 10], []))]
theorem ok_L_law_1012 : zOK code 13 false 4 k_L_law_1012 1012 = true := zOK_by (by decide +kernel)
def k_L_law_1026 : List ZI := [(.aload_n 2, 1, (0, [2], [])), (.aload_n 0, 1, (0, [0], [])), (.iload_n 3, 1, (0, [3], [])), (.iconst 1, 1, (0, [], [])), (.iadd, 1, (0, [], [])), (.iaload, 1, (0, [], [])), (.aload_n 0, 1, (0, [0], [])), (.iload_n 3, 1, (0, [3], [])), (.iconst 2, 1, (0, [], [])), (.iadd, 1, (0, [], [])), (.iaload, 1, (0, [], [])), (.invokevirtual 120, 3, (0, [196, 3, 0, 11], [])), (.if_icmp .eq 529, 3, (0, [1569], [])), (.iconst 0, 1, (0, [], [])), (.ireturn, 1, (0, [], []))]
theorem ok_L_law_1026 : zOK code 13 false 4 k_L_law_1026 1026 = true := zOK_by (by decide +kernel)
def k_L_law_1045 : List ZI := [(.aload_n 1, 1, (0, [1], [])), (.aload_n 0, 1, (0, [0], [])), (.iload_n 3, 1, (0, [3], [])), (.iconst 1, 1, (0, [], [])), (.iadd, 1, (0, [], [])), (.iaload, 1, (0, [], [])), (.aload_n 0, 1, (0, [0], [])), (.iload_n 3, 1, (0, [3], [])), (.iconst 2, 1, (0, [], [])), (.iadd, 1, (0, [], [])), (.iaload, 1, (0, [], [])), (.invokevirtual 121, 3, (0, [92, 3, 0, 10], []))]
theorem ok_L_law_1045 : zOK code 13 false 4 k_L_law_1045 1045 = true := zOK_by (by decide +kernel)
def k_L_law_1059 : List ZI := [(.aload_n 2, 1, (0, [2], [])), (.aload_n 0, 1, (0, [0], [])), (.iload_n 3, 1, (0, [3], [])), (.iconst 1, 1, (0, [], [])), (.iadd, 1, (0, [], [])), (.iaload, 1, (0, [], [])), (.aload_n 0, 1, (0, [0], [])), (.iload_n 3, 1, (0, [3], [])), (.iconst 2, 1, (0, [], [])), (.iadd, 1, (0, [], [])), (.iaload, 1, (0, [], [])), (.invokevirtual 124, 3, (0, [197, 3, 0, 11], [])), (.if_icmp .eq 496, 3, (0, [1569], [])), (.iconst 0, 1, (0, [], [])), (.ireturn, 1, (0, [], []))]
theorem ok_L_law_1059 : zOK code 13 false 4 k_L_law_1059 1059 = true := zOK_by (by decide +kernel)
def k_L_law_1078 : List ZI := [(.aload_n 1, 1, (0, [1], [])), (.aload_n 0, 1, (0, [0], [])), (.iload_n 3, 1, (0, [3], [])), (.iconst 1, 1, (0, [], [])), (.iadd, 1, (0, [], [])), (.iaload, 1, (0, [], [])), (.aload_n 0, 1, (0, [0], [])), (.iload_n 3, 1, (0, [3], [])), (.iconst 2, 1, (0, [], [])), (.iadd, 1, (0, [], [])), (.iaload, 1, (0, [], [])), (.aload_n 0, 1, (0, [0], [])), (.iload_n 3, 1, (0, [3], [])), (.iconst 3, 1, (0, [], [])), (.iadd, 1, (0, [], [])), (.iaload, 1, (0, [], [])), (.invokevirtual 125, 3, (0, [93, 4, 0, 10], []))]
theorem ok_L_law_1078 : zOK code 13 false 4 k_L_law_1078 1078 = true := zOK_by (by decide +kernel)
def k_L_law_1097 : List ZI := [(.aload_n 2, 1, (0, [2], [])), (.aload_n 0, 1, (0, [0], [])), (.iload_n 3, 1, (0, [3], [])), (.iconst 1, 1, (0, [], [])), (.iadd, 1, (0, [], [])), (.iaload, 1, (0, [], [])), (.aload_n 0, 1, (0, [0], [])), (.iload_n 3, 1, (0, [3], [])), (.iconst 2, 1, (0, [], [])), (.iadd, 1, (0, [], [])), (.iaload, 1, (0, [], [])), (.aload_n 0, 1, (0, [0], [])), (.iload_n 3, 1, (0, [3], [])), (.iconst 3, 1, (0, [], [])), (.iadd, 1, (0, [], [])), (.iaload, 1, (0, [], [])), (.invokevirtual 128, 3, (0, [199, 4, 0, 11], [])), (.if_icmp .eq 453, 3, (0, [1569], [])), (.iconst 0, 1, (0, [], [])), (.ireturn, 1, (0, [], []))]
theorem ok_L_law_1097 : zOK code 13 false 4 k_L_law_1097 1097 = true := zOK_by (by decide +kernel)
def k_L_law_1121 : List ZI := [(.aload_n 1, 1, (0, [1], [])), (.invokevirtual 129, 3, (0, [94, 1, 0, 10], []))]
theorem ok_L_law_1121 : zOK code 13 false 4 k_L_law_1121 1121 = true := zOK_by (by decide +kernel)
def k_L_law_1125 : List ZI := [(.aload_n 2, 1, (0, [2], [])), (.invokevirtual 132, 3, (0, [200, 1, 0, 11], [])), (.if_icmp .eq 440, 3, (0, [1569], [])), (.iconst 0, 1, (0, [], [])), (.ireturn, 1, (0, [], []))]
theorem ok_L_law_1125 : zOK code 13 false 4 k_L_law_1125 1125 = true := zOK_by (by decide +kernel)
def k_L_law_1134 : List ZI := [(.aload_n 1, 1, (0, [1], [])), (.aload_n 0, 1, (0, [0], [])), (.iload_n 3, 1, (0, [3], [])), (.iconst 1, 1, (0, [], [])), (.iadd, 1, (0, [], [])), (.iaload, 1, (0, [], [])), (.aload_n 0, 1, (0, [0], [])), (.iload_n 3, 1, (0, [3], [])), (.iconst 2, 1, (0, [], [])), (.iadd, 1, (0, [], [])), (.iaload, 1, (0, [], [])), (.aload_n 0, 1, (0, [0], [])), (.iload_n 3, 1, (0, [3], [])), (.iconst 3, 1, (0, [], [])), (.iadd, 1, (0, [], [])), (.iaload, 1, (0, [], [])), (.invokevirtual 133, 3, (0, [95, 4, 0, 10], []))]
theorem ok_L_law_1134 : zOK code 13 false 4 k_L_law_1134 1134 = true := zOK_by (by decide +kernel)
def k_L_law_1153 : List ZI := [(.aload_n 2, 1, (0, [2], [])), (.aload_n 0, 1, (0, [0], [])), (.iload_n 3, 1, (0, [3], [])), (.iconst 1, 1, (0, [], [])), (.iadd, 1, (0, [], [])), (.iaload, 1, (0, [], [])), (.aload_n 0, 1, (0, [0], [])), (.iload_n 3, 1, (0, [3], [])), (.iconst 2, 1, (0, [], [])), (.iadd, 1, (0, [], [])), (.iaload, 1, (0, [], [])), (.aload_n 0, 1, (0, [0], [])), (.iload_n 3, 1, (0, [3], [])), (.iconst 3, 1, (0, [], [])), (.iadd, 1, (0, [], [])), (.iaload, 1, (0, [], [])), (.invokevirtual 136, 3, (0, [202, 4, 0, 11], [])), (.if_icmp .eq 397, 3, (0, [1569], [])), (.iconst 0, 1, (0, [], [])), (.ireturn, 1, (0, [], []))]
theorem ok_L_law_1153 : zOK code 13 false 4 k_L_law_1153 1153 = true := zOK_by (by decide +kernel)
def k_L_law_1177 : List ZI := [(.aload_n 1, 1, (0, [1], [])), (.aload_n 0, 1, (0, [0], [])), (.iload_n 3, 1, (0, [3], [])), (.iconst 1, 1, (0, [], [])), (.iadd, 1, (0, [], [])), (.iaload, 1, (0, [], [])), (.invokevirtual 137, 3, (0, [96, 2, 0, 10], []))]
theorem ok_L_law_1177 : zOK code 13 false 4 k_L_law_1177 1177 = true := zOK_by (by decide +kernel)
def k_L_law_1186 : List ZI := [(.aload_n 2, 1, (0, [2], [])), (.aload_n 0, 1, (0, [0], [])), (.iload_n 3, 1, (0, [3], [])), (.iconst 1, 1, (0, [], [])), (.iadd, 1, (0, [], [])), (.iaload, 1, (0, [], [])), (.invokevirtual 140, 3, (0, [182, 2, 0, 11], [])), (.if_icmp .eq 374, 3, (0, [1569], [])), (.iconst 0, 1, (0, [], [])), (.ireturn, 1, (0, [], []))]
theorem ok_L_law_1186 : zOK code 13 false 4 k_L_law_1186 1186 = true := zOK_by (by decide +kernel)
def k_L_law_1200 : List ZI := [(.aload_n 1, 1, (0, [1], [])), (.aload_n 0, 1, (0, [0], [])), (.iload_n 3, 1, (0, [3], [])), (.iconst 1, 1, (0, [], [])), (.iadd, 1, (0, [], [])), (.iaload, 1, (0, [], [])), (.aload_n 0, 1, (0, [0], [])), (.iload_n 3, 1, (0, [3], [])), (.iconst 2, 1, (0, [], [])), (.iadd, 1, (0, [], [])), (.iaload, 1, (0, [], [])), (.aload_n 0, 1, (0, [0], [])), (.iload_n 3, 1, (0, [3], [])), (.iconst 3, 1, (0, [], [])), (.iadd, 1, (0, [], [])), (.iaload, 1, (0, [], [])), (.invokevirtual 141, 3, (0, [97, 4, 0, 10], []))]
theorem ok_L_law_1200 : zOK code 13 false 4 k_L_law_1200 1200 = true := zOK_by (by decide +kernel)
def k_L_law_1219 : List ZI := [(.aload_n 2, 1, (0, [2], [])), (.aload_n 0, 1, (0, [0], [])), (.iload_n 3, 1, (0, [3], [])), (.iconst 1, 1, (0, [], [])), (.iadd, 1, (0, [], [])), (.iaload, 1, (0, [], [])), (.aload_n 0, 1, (0, [0], [])), (.iload_n 3, 1, (0, [3], [])), (.iconst 2, 1, (0, [], [])), (.iadd, 1, (0, [], [])), (.iaload, 1, (0, [], [])), (.aload_n 0, 1, (0, [0], [])), (.iload_n 3, 1, (0, [3], [])), (.iconst 3, 1, (0, [], [])), (.iadd, 1, (0, [], [])), (.iaload, 1, (0, [], [])), (.invokevirtual 144, 3, (0, [208, 4, 0, 11], [])), (.if_icmp .eq 331, 3, (0, [1569], [])), (.iconst 0, 1, (0, [], [])), (.ireturn, 1, (0, [], []))]
theorem ok_L_law_1219 : zOK code 13 false 4 k_L_law_1219 1219 = true := zOK_by (by decide +kernel)
def k_L_law_1243 : List ZI := [(.aload_n 1, 1, (0, [1], [])), (.aload_n 0, 1, (0, [0], [])), (.iload_n 3, 1, (0, [3], [])), (.iconst 1, 1, (0, [], [])), (.iadd, 1, (0, [], [])), (.iaload, 1, (0, [], [])), (.invokevirtual 145, 3, (0, [98, 2, 0, 10], []))]
theorem ok_L_law_1243 : zOK code 13 false 4 k_L_law_1243 1243 = true := zOK_by (by decide +kernel)
def k_L_law_1252 : List ZI := [(.aload_n 2, 1, (0, [2], [])), (.aload_n 0, 1, (0, [0], [])), (.iload_n 3, 1, (0, [3], [])), (.iconst 1, 1, (0, [], [])), (.iadd, 1, (0, [], [])), (.iaload, 1, (0, [], [])), (.invokevirtual 148, 3, (0, [209, 2, 0, 11], [])), (.if_icmp .eq 308, 3, (0, [1569], [])), (.iconst 0, 1, (0, [], [])), (.ireturn, 1, (0, [], []))]
theorem ok_L_law_1252 : zOK code 13 false 4 k_L_law_1252 1252 = true := zOK_by (by decide +kernel)
def k_L_law_1266 : List ZI := [(.aload_n 1, 1, (0, [1], [])), (.aload_n 0, 1, (0, [0], [])), (.iload_n 3, 1, (0, [3], [])), (.iconst 1, 1, (0, [], [])), (.iadd, 1, (0, [], [])), (.iaload, 1, (0, [], [])), (.aload_n 0, 1, (0, [0], [])), (.iload_n 3, 1, (0, [3], [])), (.iconst 2, 1, (0, [], [])), (.iadd, 1, (0, [], [])), (.iaload, 1, (0, [], [])), (.aload_n 0, 1, (0, [0], [])), (.iload_n 3, 1, (0, [3], [])), (.iconst 3, 1, (0, [], [])), (.iadd, 1, (0, [], [])), (.iaload, 1, (0, [], [])), (.invokevirtual 149, 3, (0, [99, 4, 0, 10], []))]
theorem ok_L_law_1266 : zOK code 13 false 4 k_L_law_1266 1266 = true := zOK_by (by decide +kernel)
def k_L_law_1285 : List ZI := [(.aload_n 2, 1, (0, [2], [])), (.aload_n 0, 1, (0, [0], [])), (.iload_n 3, 1, (0, [3], [])), (.iconst 1, 1, (0, [], [])), (.iadd, 1, (0, [], [])), (.iaload, 1, (0, [], [])), (.aload_n 0, 1, (0, [0], [])), (.iload_n 3, 1, (0, [3], [])), (.iconst 2, 1, (0, [], [])), (.iadd, 1, (0, [], [])), (.iaload, 1, (0, [], [])), (.aload_n 0, 1, (0, [0], [])), (.iload_n 3, 1, (0, [3], [])), (.iconst 3, 1, (0, [], [])), (.iadd, 1, (0, [], [])), (.iaload, 1, (0, [], [])), (.invokevirtual 152, 3, (0, [211, 4, 0, 11], [])), (.if_icmp .eq 265, 3, (0, [1569], [])), (.iconst 0, 1, (0, [], [])), (.ireturn, 1, (0, [], []))]
theorem ok_L_law_1285 : zOK code 13 false 4 k_L_law_1285 1285 = true := zOK_by (by decide +kernel)
def k_L_law_1309 : List ZI := [(.aload_n 1, 1, (0, [1], [])), (.aload_n 0, 1, (0, [0], [])), (.iload_n 3, 1, (0, [3], [])), (.iconst 1, 1, (0, [], [])), (.iadd, 1, (0, [], [])), (.iaload, 1, (0, [], [])), (.aload_n 0, 1, (0, [0], [])), (.iload_n 3, 1, (0, [3], [])), (.iconst 2, 1, (0, [], [])), (.iadd, 1, (0, [], [])), (.iaload, 1, (0, [], [])), (.aload_n 0, 1, (0, [0], [])), (.iload_n 3, 1, (0, [3], [])), (.iconst 3, 1, (0, [], [])), (.iadd, 1, (0, [], [])), (.iaload, 1, (0, [], [])), (.invokevirtual 153, 3, (0, [100, 4, 0, 10], []))]
theorem ok_L_law_1309 : zOK code 13 false 4 k_L_law_1309 1309 = true := zOK_by (by decide +kernel)
def k_L_law_1328 : List ZI := [(.aload_n 2, 1, (0, [2], [])), (.aload_n 0, 1, (0, [0], [])), (.iload_n 3, 1, (0, [3], [])), (.iconst 1, 1, (0, [], [])), (.iadd, 1, (0, [], [])), (.iaload, 1, (0, [], [])), (.aload_n 0, 1, (0, [0], [])), (.iload_n 3, 1, (0, [3], [])), (.iconst 2, 1, (0, [], [])), (.iadd, 1, (0, [], [])), (.iaload, 1, (0, [], [])), (.aload_n 0, 1, (0, [0], [])), (.iload_n 3, 1, (0, [3], [])), (.iconst 3, 1, (0, [], [])), (.iadd, 1, (0, [], [])), (.iaload, 1, (0, [], [])), (.invokevirtual 156, 3, (0, [212, 4, 0, 11], [])), (.if_icmp .eq 222, 3, (0, [1569], [])), (.iconst 0, 1, (0, [], [])), (.ireturn, 1, (0, [], []))]
theorem ok_L_law_1328 : zOK code 13 false 4 k_L_law_1328 1328 = true := zOK_by (by decide +kernel)
def k_L_law_1352 : List ZI := [(.aload_n 1, 1, (0, [1], [])), (.aload_n 0, 1, (0, [0], [])), (.iload_n 3, 1, (0, [3], [])), (.iconst 1, 1, (0, [], [])), (.iadd, 1, (0, [], [])), (.iaload, 1, (0, [], [])), (.aload_n 0, 1, (0, [0], [])), (.iload_n 3, 1, (0, [3], [])), (.iconst 2, 1, (0, [], [])), (.iadd, 1, (0, [], [])), (.iaload, 1, (0, [], [])), (.aload_n 0, 1, (0, [0], [])), (.iload_n 3, 1, (0, [3], [])), (.iconst 3, 1, (0, [], [])), (.iadd, 1, (0, [], [])), (.iaload, 1, (0, [], [])), (.aload_n 0, 1, (0, [0], [])), (.iload_n 3, 1, (0, [3], [])), (.iconst 4, 1, (0, [], [])), (.iadd, 1, (0, [], [])), (.iaload, 1, (0, [], [])), (.aload_n 0, 1, (0, [0], [])), (.iload_n 3, 1, (0, [3], [])), (.iconst 5, 1, (0, [], [])), (.iadd, 1, (0, [], [])), (.iaload, 1, (0, [], [])), (.invokevirtual 157, 3, (0, [101, 6, 0, 10], []))]
theorem ok_L_law_1352 : zOK code 13 false 4 k_L_law_1352 1352 = true := zOK_by (by decide +kernel)
def k_L_law_1381 : List ZI := [(.aload_n 2, 1, (0, [2], [])), (.aload_n 0, 1, (0, [0], [])), (.iload_n 3, 1, (0, [3], [])), (.iconst 1, 1, (0, [], [])), (.iadd, 1, (0, [], [])), (.iaload, 1, (0, [], [])), (.aload_n 0, 1, (0, [0], [])), (.iload_n 3, 1, (0, [3], [])), (.iconst 2, 1, (0, [], [])), (.iadd, 1, (0, [], [])), (.iaload, 1, (0, [], [])), (.aload_n 0, 1, (0, [0], [])), (.iload_n 3, 1, (0, [3], [])), (.iconst 3, 1, (0, [], [])), (.iadd, 1, (0, [], [])), (.iaload, 1, (0, [], [])), (.aload_n 0, 1, (0, [0], [])), (.iload_n 3, 1, (0, [3], [])), (.iconst 4, 1, (0, [], [])), (.iadd, 1, (0, [], [])), (.iaload, 1, (0, [], [])), (.aload_n 0, 1, (0, [0], [])), (.iload_n 3, 1, (0, [3], [])), (.iconst 5, 1, (0, [], [])), (.iadd, 1, (0, [], [])), (.iaload, 1, (0, [], [])), (.invokevirtual 161, 3, (0, [213, 6, 0, 11], [])), (.if_icmp .eq 159, 3, (0, [1569], [])), (.iconst 0, 1, (0, [], [])), (.ireturn, 1, (0, [], []))]
theorem ok_L_law_1381 : zOK code 13 false 4 k_L_law_1381 1381 = true := zOK_by (by decide +kernel)
def k_L_law_1415 : List ZI := [(.aload_n 1, 1, (0, [1], [])), (.aload_n 0, 1, (0, [0], [])), (.iload_n 3, 1, (0, [3], [])), (.iconst 1, 1, (0, [], [])), (.iadd, 1, (0, [], [])), (.iaload, 1, (0, [], [])), (.invokevirtual 162, 3, (0, [102, 2, 0, 10], []))]
theorem ok_L_law_1415 : zOK code 13 false 4 k_L_law_1415 1415 = true := zOK_by (by decide +kernel)
def k_L_law_1424 : List ZI := [(.aload_n 2, 1, (0, [2], [])), (.aload_n 0, 1, (0, [0], [])), (.iload_n 3, 1, (0, [3], [])), (.iconst 1, 1, (0, [], [])), (.iadd, 1, (0, [], [])), (.iaload, 1, (0, [], [])), (.invokevirtual 165, 3, (0, [214, 2, 0, 11], [])), (.if_icmp .eq 136, 3, (0, [1569], [])), (.iconst 0, 1, (0, [], [])), (.ireturn, 1, (0, [], []))]
theorem ok_L_law_1424 : zOK code 13 false 4 k_L_law_1424 1424 = true := zOK_by (by decide +kernel)
def k_L_law_1438 : List ZI := [(.aload_n 1, 1, (0, [1], [])), (.aload_n 0, 1, (0, [0], [])), (.iload_n 3, 1, (0, [3], [])), (.iconst 1, 1, (0, [], [])), (.iadd, 1, (0, [], [])), (.iaload, 1, (0, [], [])), (.invokevirtual 166, 3, (0, [103, 2, 0, 10], []))]
theorem ok_L_law_1438 : zOK code 13 false 4 k_L_law_1438 1438 = true := zOK_by (by decide +kernel)
def k_L_law_1447 : List ZI := [(.aload_n 2, 1, (0, [2], [])), (.aload_n 0, 1, (0, [0], [])), (.iload_n 3, 1, (0, [3], [])), (.iconst 1, 1, (0, [], [])), (.iadd, 1, (0, [], [])), (.iaload, 1, (0, [], [])), (.invokevirtual 169, 3, (0, [215, 2, 0, 11], [])), (.if_icmp .eq 113, 3, (0, [1569], [])), (.iconst 0, 1, (0, [], [])), (.ireturn, 1, (0, [], []))]
theorem ok_L_law_1447 : zOK code 13 false 4 k_L_law_1447 1447 = true := zOK_by (by decide +kernel)
def k_L_law_1461 : List ZI := [(.aload_n 1, 1, (0, [1], [])), (.invokevirtual 170, 3, (0, [104, 1, 0, 10], []))]
theorem ok_L_law_1461 : zOK code 13 false 4 k_L_law_1461 1461 = true := zOK_by (by decide +kernel)
def k_L_law_1465 : List ZI := [(.aload_n 2, 1, (0, [2], [])), (.invokevirtual 173, 3, (0, [216, 1, 0, 11], [])), (.if_icmp .eq 100, 3, (0, [1569], [])), (.iconst 0, 1, (0, [], [])), (.ireturn, 1, (0, [], []))]
theorem ok_L_law_1465 : zOK code 13 false 4 k_L_law_1465 1465 = true := zOK_by (by decide +kernel)
def k_L_law_1474 : List ZI := [(.aload_n 1, 1, (0, [1], [])), (.invokevirtual 174, 3, (0, [105, 1, 0, 10], []))]
theorem ok_L_law_1474 : zOK code 13 false 4 k_L_law_1474 1474 = true := zOK_by (by decide +kernel)
def k_L_law_1478 : List ZI := [(.aload_n 2, 1, (0, [2], [])), (.invokevirtual 177, 3, (0, [217, 1, 0, 11], [])), (.if_icmp .eq 87, 3, (0, [1569], [])), (.iconst 0, 1, (0, [], [])), (.ireturn, 1, (0, [], []))]
theorem ok_L_law_1478 : zOK code 13 false 4 k_L_law_1478 1478 = true := zOK_by (by decide +kernel)
def k_L_law_1487 : List ZI := [(.aload_n 1, 1, (0, [1], [])), (.aload_n 0, 1, (0, [0], [])), (.iload_n 3, 1, (0, [3], [])), (.iconst 1, 1, (0, [], [])), (.iadd, 1, (0, [], [])), (.iaload, 1, (0, [], [])), (.invokevirtual 178, 3, (0, [106, 2, 0, 10], []))]
theorem ok_L_law_1487 : zOK code 13 false 4 k_L_law_1487 1487 = true := zOK_by (by decide +kernel)
def k_L_law_1496 : List ZI := [(.aload_n 2, 1, (0, [2], [])), (.aload_n 0, 1, (0, [0], [])), (.iload_n 3, 1, (0, [3], [])), (.iconst 1, 1, (0, [], [])), (.iadd, 1, (0, [], [])), (.iaload, 1, (0, [], [])), (.invokevirtual 181, 3, (0, [218, 2, 0, 11], [])), (.if_icmp .eq 64, 3, (0, [1569], [])), (.iconst 0, 1, (0, [], [])), (.ireturn, 1, (0, [], []))]
theorem ok_L_law_1496 : zOK code 13 false 4 k_L_law_1496 1496 = true := zOK_by (by decide +kernel)
def k_L_law_1510 : List ZI := [(.aload_n 1, 1, (0, [1], [])), (.invokevirtual 182, 3, (0, [107, 1, 0, 10], []))]
theorem ok_L_law_1510 : zOK code 13 false 4 k_L_law_1510 1510 = true := zOK_by (by decide +kernel)
def k_L_law_1514 : List ZI := [(.aload_n 2, 1, (0, [2], [])), (.invokevirtual 185, 3, (0, [219, 1, 0, 11], [])), (.if_icmp .eq 51, 3, (0, [1569], [])), (.iconst 0, 1, (0, [], [])), (.ireturn, 1, (0, [], []))]
theorem ok_L_law_1514 : zOK code 13 false 4 k_L_law_1514 1514 = true := zOK_by (by decide +kernel)
def k_L_law_1523 : List ZI := [(.aload_n 1, 1, (0, [1], [])), (.aload_n 0, 1, (0, [0], [])), (.iload_n 3, 1, (0, [3], [])), (.iconst 1, 1, (0, [], [])), (.iadd, 1, (0, [], [])), (.iaload, 1, (0, [], [])), (.invokevirtual 186, 3, (0, [108, 2, 0, 10], []))]
theorem ok_L_law_1523 : zOK code 13 false 4 k_L_law_1523 1523 = true := zOK_by (by decide +kernel)
def k_L_law_1532 : List ZI := [(.aload_n 2, 1, (0, [2], [])), (.aload_n 0, 1, (0, [0], [])), (.iload_n 3, 1, (0, [3], [])), (.iconst 1, 1, (0, [], [])), (.iadd, 1, (0, [], [])), (.iaload, 1, (0, [], [])), (.invokevirtual 189, 3, (0, [221, 2, 0, 11], [])), (.if_icmp .eq 28, 3, (0, [1569], [])), (.iconst 0, 1, (0, [], [])), (.ireturn, 1, (0, [], []))]
theorem ok_L_law_1532 : zOK code 13 false 4 k_L_law_1532 1532 = true := zOK_by (by decide +kernel)
def k_L_law_1546 : List ZI := [(.aload_n 1, 1, (0, [1], [])), (.aload_n 0, 1, (0, [0], [])), (.iload_n 3, 1, (0, [3], [])), (.iconst 1, 1, (0, [], [])), (.iadd, 1, (0, [], [])), (.iaload, 1, (0, [], [])), (.invokevirtual 190, 3, (0, [109, 2, 0, 10], []))]
theorem ok_L_law_1546 : zOK code 13 false 4 k_L_law_1546 1546 = true := zOK_by (by decide +kernel)
def k_L_law_1555 : List ZI := [(.aload_n 2, 1, (0, [2], [])), (.aload_n 0, 1, (0, [0], [])), (.iload_n 3, 1, (0, [3], [])), (.iconst 1, 1, (0, [], [])), (.iadd, 1, (0, [], [])), (.iaload, 1, (0, [], [])), (.invokevirtual 193, 3, (0, [222, 2, 0, 11], [])), (.if_icmp .eq 5, 3, (0, [1569], [])), (.iconst 0, 1, (0, [], [])), (.ireturn, 1, (0, [], []))]
theorem ok_L_law_1555 : zOK code 13 false 4 k_L_law_1555 1555 = true := zOK_by (by decide +kernel)
def k_L_law_1569 : List ZI := [(.iinc 3 6, 3, (0, [3], [])), (.goto (-1554), 3, (0, [18], []))]
theorem ok_L_law_1569 : zOK code 13 false 4 k_L_law_1569 1569 = true := zOK_by (by decide +kernel)
def k_L_law_1575 : List ZI := [(.iconst 1, 1, (0, [], [])), (.ireturn, 1, (0, [], []))]
theorem ok_L_law_1575 : zOK code 13 false 4 k_L_law_1575 1575 = true := zOK_by (by decide +kernel)
def bk_L_law_0 (E : ZE) (CT : Nat → ZC) (X : ZK) (Rt : ZR) (ls : ZL) (st : List ZV) (h : ZH) (b : ZB2) : Prop := zB E CT k_L_law_0 0 ls st h b (fun t ls st h b => X t ls st h b) Rt
theorem bs_L_law_0 {E : ZE} {CT : Nat → ZC} {X : ZK} {Rt : ZR} {ls : ZL} {st : List ZV} {h : ZH} {b : ZB2} (hX : zCl E zlaw 13 false CT Rt X) (q : bk_L_law_0 E CT X Rt ls st h b) : X 0 ls st h b := by
  refine hX k_L_law_0 0 ok_L_law_0 _ ?_ ls st h b q
  exact fun t ls st h b q => q
def bk_L_law_7 (E : ZE) (CT : Nat → ZC) (X : ZK) (Rt : ZR) (ls : ZL) (st : List ZV) (h : ZH) (b : ZB2) : Prop := zB E CT k_L_law_7 7 ls st h b (fun t ls st h b => X t ls st h b) Rt
theorem bs_L_law_7 {E : ZE} {CT : Nat → ZC} {X : ZK} {Rt : ZR} {ls : ZL} {st : List ZV} {h : ZH} {b : ZB2} (hX : zCl E zlaw 13 false CT Rt X) (q : bk_L_law_7 E CT X Rt ls st h b) : X 7 ls st h b := by
  refine hX k_L_law_7 7 ok_L_law_7 _ ?_ ls st h b q
  exact fun t ls st h b q => q
def bk_L_law_15 (E : ZE) (CT : Nat → ZC) (X : ZK) (Rt : ZR) (ls : ZL) (st : List ZV) (h : ZH) (b : ZB2) : Prop := zB E CT k_L_law_15 15 ls st h b (fun t ls st h b => X t ls st h b) Rt
theorem bs_L_law_15 {E : ZE} {CT : Nat → ZC} {X : ZK} {Rt : ZR} {ls : ZL} {st : List ZV} {h : ZH} {b : ZB2} (hX : zCl E zlaw 13 false CT Rt X) (q : bk_L_law_15 E CT X Rt ls st h b) : X 15 ls st h b := by
  refine hX k_L_law_15 15 ok_L_law_15 _ ?_ ls st h b q
  exact fun t ls st h b q => q
def bk_L_law_18 (E : ZE) (CT : Nat → ZC) (X : ZK) (Rt : ZR) (ls : ZL) (st : List ZV) (h : ZH) (b : ZB2) : Prop := zB E CT k_L_law_18 18 ls st h b (fun t ls st h b => X t ls st h b) Rt
theorem bs_L_law_18 {E : ZE} {CT : Nat → ZC} {X : ZK} {Rt : ZR} {ls : ZL} {st : List ZV} {h : ZH} {b : ZB2} (hX : zCl E zlaw 13 false CT Rt X) (q : bk_L_law_18 E CT X Rt ls st h b) : X 18 ls st h b := by
  refine hX k_L_law_18 18 ok_L_law_18 _ ?_ ls st h b q
  exact fun t ls st h b q => q
def bk_L_law_220 (E : ZE) (CT : Nat → ZC) (X : ZK) (Rt : ZR) (ls : ZL) (st : List ZV) (h : ZH) (b : ZB2) : Prop := zB E CT k_L_law_220 220 ls st h b (fun t ls st h b => X t ls st h b) Rt
theorem bs_L_law_220 {E : ZE} {CT : Nat → ZC} {X : ZK} {Rt : ZR} {ls : ZL} {st : List ZV} {h : ZH} {b : ZB2} (hX : zCl E zlaw 13 false CT Rt X) (q : bk_L_law_220 E CT X Rt ls st h b) : X 220 ls st h b := by
  refine hX k_L_law_220 220 ok_L_law_220 _ ?_ ls st h b q
  exact fun t ls st h b q => q
def bk_L_law_234 (E : ZE) (CT : Nat → ZC) (X : ZK) (Rt : ZR) (ls : ZL) (st : List ZV) (h : ZH) (b : ZB2) : Prop := zB E CT k_L_law_234 234 ls st h b (fun t ls st h b => X t ls st h b) Rt
theorem bs_L_law_234 {E : ZE} {CT : Nat → ZC} {X : ZK} {Rt : ZR} {ls : ZL} {st : List ZV} {h : ZH} {b : ZB2} (hX : zCl E zlaw 13 false CT Rt X) (q : bk_L_law_234 E CT X Rt ls st h b) : X 234 ls st h b := by
  refine hX k_L_law_234 234 ok_L_law_234 _ ?_ ls st h b q
  exact fun t ls st h b q => q
def bk_L_law_253 (E : ZE) (CT : Nat → ZC) (X : ZK) (Rt : ZR) (ls : ZL) (st : List ZV) (h : ZH) (b : ZB2) : Prop := zB E CT k_L_law_253 253 ls st h b (fun t ls st h b => X t ls st h b) Rt
theorem bs_L_law_253 {E : ZE} {CT : Nat → ZC} {X : ZK} {Rt : ZR} {ls : ZL} {st : List ZV} {h : ZH} {b : ZB2} (hX : zCl E zlaw 13 false CT Rt X) (q : bk_L_law_253 E CT X Rt ls st h b) : X 253 ls st h b := by
  refine hX k_L_law_253 253 ok_L_law_253 _ ?_ ls st h b q
  exact fun t ls st h b q => q
def bk_L_law_267 (E : ZE) (CT : Nat → ZC) (X : ZK) (Rt : ZR) (ls : ZL) (st : List ZV) (h : ZH) (b : ZB2) : Prop := zB E CT k_L_law_267 267 ls st h b (fun t ls st h b => X t ls st h b) Rt
theorem bs_L_law_267 {E : ZE} {CT : Nat → ZC} {X : ZK} {Rt : ZR} {ls : ZL} {st : List ZV} {h : ZH} {b : ZB2} (hX : zCl E zlaw 13 false CT Rt X) (q : bk_L_law_267 E CT X Rt ls st h b) : X 267 ls st h b := by
  refine hX k_L_law_267 267 ok_L_law_267 _ ?_ ls st h b q
  exact fun t ls st h b q => q
def bk_L_law_286 (E : ZE) (CT : Nat → ZC) (X : ZK) (Rt : ZR) (ls : ZL) (st : List ZV) (h : ZH) (b : ZB2) : Prop := zB E CT k_L_law_286 286 ls st h b (fun t ls st h b => X t ls st h b) Rt
theorem bs_L_law_286 {E : ZE} {CT : Nat → ZC} {X : ZK} {Rt : ZR} {ls : ZL} {st : List ZV} {h : ZH} {b : ZB2} (hX : zCl E zlaw 13 false CT Rt X) (q : bk_L_law_286 E CT X Rt ls st h b) : X 286 ls st h b := by
  refine hX k_L_law_286 286 ok_L_law_286 _ ?_ ls st h b q
  exact fun t ls st h b q => q
def bk_L_law_300 (E : ZE) (CT : Nat → ZC) (X : ZK) (Rt : ZR) (ls : ZL) (st : List ZV) (h : ZH) (b : ZB2) : Prop := zB E CT k_L_law_300 300 ls st h b (fun t ls st h b => X t ls st h b) Rt
theorem bs_L_law_300 {E : ZE} {CT : Nat → ZC} {X : ZK} {Rt : ZR} {ls : ZL} {st : List ZV} {h : ZH} {b : ZB2} (hX : zCl E zlaw 13 false CT Rt X) (q : bk_L_law_300 E CT X Rt ls st h b) : X 300 ls st h b := by
  refine hX k_L_law_300 300 ok_L_law_300 _ ?_ ls st h b q
  exact fun t ls st h b q => q
def bk_L_law_319 (E : ZE) (CT : Nat → ZC) (X : ZK) (Rt : ZR) (ls : ZL) (st : List ZV) (h : ZH) (b : ZB2) : Prop := zB E CT k_L_law_319 319 ls st h b (fun t ls st h b => X t ls st h b) Rt
theorem bs_L_law_319 {E : ZE} {CT : Nat → ZC} {X : ZK} {Rt : ZR} {ls : ZL} {st : List ZV} {h : ZH} {b : ZB2} (hX : zCl E zlaw 13 false CT Rt X) (q : bk_L_law_319 E CT X Rt ls st h b) : X 319 ls st h b := by
  refine hX k_L_law_319 319 ok_L_law_319 _ ?_ ls st h b q
  exact fun t ls st h b q => q
def bk_L_law_338 (E : ZE) (CT : Nat → ZC) (X : ZK) (Rt : ZR) (ls : ZL) (st : List ZV) (h : ZH) (b : ZB2) : Prop := zB E CT k_L_law_338 338 ls st h b (fun t ls st h b => X t ls st h b) Rt
theorem bs_L_law_338 {E : ZE} {CT : Nat → ZC} {X : ZK} {Rt : ZR} {ls : ZL} {st : List ZV} {h : ZH} {b : ZB2} (hX : zCl E zlaw 13 false CT Rt X) (q : bk_L_law_338 E CT X Rt ls st h b) : X 338 ls st h b := by
  refine hX k_L_law_338 338 ok_L_law_338 _ ?_ ls st h b q
  exact fun t ls st h b q => q
def bk_L_law_362 (E : ZE) (CT : Nat → ZC) (X : ZK) (Rt : ZR) (ls : ZL) (st : List ZV) (h : ZH) (b : ZB2) : Prop := zB E CT k_L_law_362 362 ls st h b (fun t ls st h b => X t ls st h b) Rt
theorem bs_L_law_362 {E : ZE} {CT : Nat → ZC} {X : ZK} {Rt : ZR} {ls : ZL} {st : List ZV} {h : ZH} {b : ZB2} (hX : zCl E zlaw 13 false CT Rt X) (q : bk_L_law_362 E CT X Rt ls st h b) : X 362 ls st h b := by
  refine hX k_L_law_362 362 ok_L_law_362 _ ?_ ls st h b q
  exact fun t ls st h b q => q
def bk_L_law_376 (E : ZE) (CT : Nat → ZC) (X : ZK) (Rt : ZR) (ls : ZL) (st : List ZV) (h : ZH) (b : ZB2) : Prop := zB E CT k_L_law_376 376 ls st h b (fun t ls st h b => X t ls st h b) Rt
theorem bs_L_law_376 {E : ZE} {CT : Nat → ZC} {X : ZK} {Rt : ZR} {ls : ZL} {st : List ZV} {h : ZH} {b : ZB2} (hX : zCl E zlaw 13 false CT Rt X) (q : bk_L_law_376 E CT X Rt ls st h b) : X 376 ls st h b := by
  refine hX k_L_law_376 376 ok_L_law_376 _ ?_ ls st h b q
  exact fun t ls st h b q => q
def bk_L_law_395 (E : ZE) (CT : Nat → ZC) (X : ZK) (Rt : ZR) (ls : ZL) (st : List ZV) (h : ZH) (b : ZB2) : Prop := zB E CT k_L_law_395 395 ls st h b (fun t ls st h b => X t ls st h b) Rt
theorem bs_L_law_395 {E : ZE} {CT : Nat → ZC} {X : ZK} {Rt : ZR} {ls : ZL} {st : List ZV} {h : ZH} {b : ZB2} (hX : zCl E zlaw 13 false CT Rt X) (q : bk_L_law_395 E CT X Rt ls st h b) : X 395 ls st h b := by
  refine hX k_L_law_395 395 ok_L_law_395 _ ?_ ls st h b q
  exact fun t ls st h b q => q
def bk_L_law_404 (E : ZE) (CT : Nat → ZC) (X : ZK) (Rt : ZR) (ls : ZL) (st : List ZV) (h : ZH) (b : ZB2) : Prop := zB E CT k_L_law_404 404 ls st h b (fun t ls st h b => X t ls st h b) Rt
theorem bs_L_law_404 {E : ZE} {CT : Nat → ZC} {X : ZK} {Rt : ZR} {ls : ZL} {st : List ZV} {h : ZH} {b : ZB2} (hX : zCl E zlaw 13 false CT Rt X) (q : bk_L_law_404 E CT X Rt ls st h b) : X 404 ls st h b := by
  refine hX k_L_law_404 404 ok_L_law_404 _ ?_ ls st h b q
  exact fun t ls st h b q => q
def bk_L_law_418 (E : ZE) (CT : Nat → ZC) (X : ZK) (Rt : ZR) (ls : ZL) (st : List ZV) (h : ZH) (b : ZB2) : Prop := zB E CT k_L_law_418 418 ls st h b (fun t ls st h b => X t ls st h b) Rt
theorem bs_L_law_418 {E : ZE} {CT : Nat → ZC} {X : ZK} {Rt : ZR} {ls : ZL} {st : List ZV} {h : ZH} {b : ZB2} (hX : zCl E zlaw 13 false CT Rt X) (q : bk_L_law_418 E CT X Rt ls st h b) : X 418 ls st h b := by
  refine hX k_L_law_418 418 ok_L_law_418 _ ?_ ls st h b q
  exact fun t ls st h b q => q
def bk_L_law_432 (E : ZE) (CT : Nat → ZC) (X : ZK) (Rt : ZR) (ls : ZL) (st : List ZV) (h : ZH) (b : ZB2) : Prop := zB E CT k_L_law_432 432 ls st h b (fun t ls st h b => X t ls st h b) Rt
theorem bs_L_law_432 {E : ZE} {CT : Nat → ZC} {X : ZK} {Rt : ZR} {ls : ZL} {st : List ZV} {h : ZH} {b : ZB2} (hX : zCl E zlaw 13 false CT Rt X) (q : bk_L_law_432 E CT X Rt ls st h b) : X 432 ls st h b := by
  refine hX k_L_law_432 432 ok_L_law_432 _ ?_ ls st h b q
  exact fun t ls st h b q => q
def bk_L_law_451 (E : ZE) (CT : Nat → ZC) (X : ZK) (Rt : ZR) (ls : ZL) (st : List ZV) (h : ZH) (b : ZB2) : Prop := zB E CT k_L_law_451 451 ls st h b (fun t ls st h b => X t ls st h b) Rt
theorem bs_L_law_451 {E : ZE} {CT : Nat → ZC} {X : ZK} {Rt : ZR} {ls : ZL} {st : List ZV} {h : ZH} {b : ZB2} (hX : zCl E zlaw 13 false CT Rt X) (q : bk_L_law_451 E CT X Rt ls st h b) : X 451 ls st h b := by
  refine hX k_L_law_451 451 ok_L_law_451 _ ?_ ls st h b q
  exact fun t ls st h b q => q
def bk_L_law_465 (E : ZE) (CT : Nat → ZC) (X : ZK) (Rt : ZR) (ls : ZL) (st : List ZV) (h : ZH) (b : ZB2) : Prop := zB E CT k_L_law_465 465 ls st h b (fun t ls st h b => X t ls st h b) Rt
theorem bs_L_law_465 {E : ZE} {CT : Nat → ZC} {X : ZK} {Rt : ZR} {ls : ZL} {st : List ZV} {h : ZH} {b : ZB2} (hX : zCl E zlaw 13 false CT Rt X) (q : bk_L_law_465 E CT X Rt ls st h b) : X 465 ls st h b := by
  refine hX k_L_law_465 465 ok_L_law_465 _ ?_ ls st h b q
  exact fun t ls st h b q => q
def bk_L_law_484 (E : ZE) (CT : Nat → ZC) (X : ZK) (Rt : ZR) (ls : ZL) (st : List ZV) (h : ZH) (b : ZB2) : Prop := zB E CT k_L_law_484 484 ls st h b (fun t ls st h b => X t ls st h b) Rt
theorem bs_L_law_484 {E : ZE} {CT : Nat → ZC} {X : ZK} {Rt : ZR} {ls : ZL} {st : List ZV} {h : ZH} {b : ZB2} (hX : zCl E zlaw 13 false CT Rt X) (q : bk_L_law_484 E CT X Rt ls st h b) : X 484 ls st h b := by
  refine hX k_L_law_484 484 ok_L_law_484 _ ?_ ls st h b q
  exact fun t ls st h b q => q
def bk_L_law_498 (E : ZE) (CT : Nat → ZC) (X : ZK) (Rt : ZR) (ls : ZL) (st : List ZV) (h : ZH) (b : ZB2) : Prop := zB E CT k_L_law_498 498 ls st h b (fun t ls st h b => X t ls st h b) Rt
theorem bs_L_law_498 {E : ZE} {CT : Nat → ZC} {X : ZK} {Rt : ZR} {ls : ZL} {st : List ZV} {h : ZH} {b : ZB2} (hX : zCl E zlaw 13 false CT Rt X) (q : bk_L_law_498 E CT X Rt ls st h b) : X 498 ls st h b := by
  refine hX k_L_law_498 498 ok_L_law_498 _ ?_ ls st h b q
  exact fun t ls st h b q => q
def bk_L_law_517 (E : ZE) (CT : Nat → ZC) (X : ZK) (Rt : ZR) (ls : ZL) (st : List ZV) (h : ZH) (b : ZB2) : Prop := zB E CT k_L_law_517 517 ls st h b (fun t ls st h b => X t ls st h b) Rt
theorem bs_L_law_517 {E : ZE} {CT : Nat → ZC} {X : ZK} {Rt : ZR} {ls : ZL} {st : List ZV} {h : ZH} {b : ZB2} (hX : zCl E zlaw 13 false CT Rt X) (q : bk_L_law_517 E CT X Rt ls st h b) : X 517 ls st h b := by
  refine hX k_L_law_517 517 ok_L_law_517 _ ?_ ls st h b q
  exact fun t ls st h b q => q
def bk_L_law_531 (E : ZE) (CT : Nat → ZC) (X : ZK) (Rt : ZR) (ls : ZL) (st : List ZV) (h : ZH) (b : ZB2) : Prop := zB E CT k_L_law_531 531 ls st h b (fun t ls st h b => X t ls st h b) Rt
theorem bs_L_law_531 {E : ZE} {CT : Nat → ZC} {X : ZK} {Rt : ZR} {ls : ZL} {st : List ZV} {h : ZH} {b : ZB2} (hX : zCl E zlaw 13 false CT Rt X) (q : bk_L_law_531 E CT X Rt ls st h b) : X 531 ls st h b := by
  refine hX k_L_law_531 531 ok_L_law_531 _ ?_ ls st h b q
  exact fun t ls st h b q => q
def bk_L_law_550 (E : ZE) (CT : Nat → ZC) (X : ZK) (Rt : ZR) (ls : ZL) (st : List ZV) (h : ZH) (b : ZB2) : Prop := zB E CT k_L_law_550 550 ls st h b (fun t ls st h b => X t ls st h b) Rt
theorem bs_L_law_550 {E : ZE} {CT : Nat → ZC} {X : ZK} {Rt : ZR} {ls : ZL} {st : List ZV} {h : ZH} {b : ZB2} (hX : zCl E zlaw 13 false CT Rt X) (q : bk_L_law_550 E CT X Rt ls st h b) : X 550 ls st h b := by
  refine hX k_L_law_550 550 ok_L_law_550 _ ?_ ls st h b q
  exact fun t ls st h b q => q
def bk_L_law_564 (E : ZE) (CT : Nat → ZC) (X : ZK) (Rt : ZR) (ls : ZL) (st : List ZV) (h : ZH) (b : ZB2) : Prop := zB E CT k_L_law_564 564 ls st h b (fun t ls st h b => X t ls st h b) Rt
theorem bs_L_law_564 {E : ZE} {CT : Nat → ZC} {X : ZK} {Rt : ZR} {ls : ZL} {st : List ZV} {h : ZH} {b : ZB2} (hX : zCl E zlaw 13 false CT Rt X) (q : bk_L_law_564 E CT X Rt ls st h b) : X 564 ls st h b := by
  refine hX k_L_law_564 564 ok_L_law_564 _ ?_ ls st h b q
  exact fun t ls st h b q => q
def bk_L_law_583 (E : ZE) (CT : Nat → ZC) (X : ZK) (Rt : ZR) (ls : ZL) (st : List ZV) (h : ZH) (b : ZB2) : Prop := zB E CT k_L_law_583 583 ls st h b (fun t ls st h b => X t ls st h b) Rt
theorem bs_L_law_583 {E : ZE} {CT : Nat → ZC} {X : ZK} {Rt : ZR} {ls : ZL} {st : List ZV} {h : ZH} {b : ZB2} (hX : zCl E zlaw 13 false CT Rt X) (q : bk_L_law_583 E CT X Rt ls st h b) : X 583 ls st h b := by
  refine hX k_L_law_583 583 ok_L_law_583 _ ?_ ls st h b q
  exact fun t ls st h b q => q
def bk_L_law_612 (E : ZE) (CT : Nat → ZC) (X : ZK) (Rt : ZR) (ls : ZL) (st : List ZV) (h : ZH) (b : ZB2) : Prop := zB E CT k_L_law_612 612 ls st h b (fun t ls st h b => X t ls st h b) Rt
theorem bs_L_law_612 {E : ZE} {CT : Nat → ZC} {X : ZK} {Rt : ZR} {ls : ZL} {st : List ZV} {h : ZH} {b : ZB2} (hX : zCl E zlaw 13 false CT Rt X) (q : bk_L_law_612 E CT X Rt ls st h b) : X 612 ls st h b := by
  refine hX k_L_law_612 612 ok_L_law_612 _ ?_ ls st h b q
  exact fun t ls st h b q => q
def bk_L_law_646 (E : ZE) (CT : Nat → ZC) (X : ZK) (Rt : ZR) (ls : ZL) (st : List ZV) (h : ZH) (b : ZB2) : Prop := zB E CT k_L_law_646 646 ls st h b (fun t ls st h b => X t ls st h b) Rt
theorem bs_L_law_646 {E : ZE} {CT : Nat → ZC} {X : ZK} {Rt : ZR} {ls : ZL} {st : List ZV} {h : ZH} {b : ZB2} (hX : zCl E zlaw 13 false CT Rt X) (q : bk_L_law_646 E CT X Rt ls st h b) : X 646 ls st h b := by
  refine hX k_L_law_646 646 ok_L_law_646 _ ?_ ls st h b q
  exact fun t ls st h b q => q
def bk_L_law_655 (E : ZE) (CT : Nat → ZC) (X : ZK) (Rt : ZR) (ls : ZL) (st : List ZV) (h : ZH) (b : ZB2) : Prop := zB E CT k_L_law_655 655 ls st h b (fun t ls st h b => X t ls st h b) Rt
theorem bs_L_law_655 {E : ZE} {CT : Nat → ZC} {X : ZK} {Rt : ZR} {ls : ZL} {st : List ZV} {h : ZH} {b : ZB2} (hX : zCl E zlaw 13 false CT Rt X) (q : bk_L_law_655 E CT X Rt ls st h b) : X 655 ls st h b := by
  refine hX k_L_law_655 655 ok_L_law_655 _ ?_ ls st h b q
  exact fun t ls st h b q => q
def bk_L_law_669 (E : ZE) (CT : Nat → ZC) (X : ZK) (Rt : ZR) (ls : ZL) (st : List ZV) (h : ZH) (b : ZB2) : Prop := zB E CT k_L_law_669 669 ls st h b (fun t ls st h b => X t ls st h b) Rt
theorem bs_L_law_669 {E : ZE} {CT : Nat → ZC} {X : ZK} {Rt : ZR} {ls : ZL} {st : List ZV} {h : ZH} {b : ZB2} (hX : zCl E zlaw 13 false CT Rt X) (q : bk_L_law_669 E CT X Rt ls st h b) : X 669 ls st h b := by
  refine hX k_L_law_669 669 ok_L_law_669 _ ?_ ls st h b q
  exact fun t ls st h b q => q
def bk_L_law_693 (E : ZE) (CT : Nat → ZC) (X : ZK) (Rt : ZR) (ls : ZL) (st : List ZV) (h : ZH) (b : ZB2) : Prop := zB E CT k_L_law_693 693 ls st h b (fun t ls st h b => X t ls st h b) Rt
theorem bs_L_law_693 {E : ZE} {CT : Nat → ZC} {X : ZK} {Rt : ZR} {ls : ZL} {st : List ZV} {h : ZH} {b : ZB2} (hX : zCl E zlaw 13 false CT Rt X) (q : bk_L_law_693 E CT X Rt ls st h b) : X 693 ls st h b := by
  refine hX k_L_law_693 693 ok_L_law_693 _ ?_ ls st h b q
  exact fun t ls st h b q => q
def bk_L_law_722 (E : ZE) (CT : Nat → ZC) (X : ZK) (Rt : ZR) (ls : ZL) (st : List ZV) (h : ZH) (b : ZB2) : Prop := zB E CT k_L_law_722 722 ls st h b (fun t ls st h b => X t ls st h b) Rt
theorem bs_L_law_722 {E : ZE} {CT : Nat → ZC} {X : ZK} {Rt : ZR} {ls : ZL} {st : List ZV} {h : ZH} {b : ZB2} (hX : zCl E zlaw 13 false CT Rt X) (q : bk_L_law_722 E CT X Rt ls st h b) : X 722 ls st h b := by
  refine hX k_L_law_722 722 ok_L_law_722 _ ?_ ls st h b q
  exact fun t ls st h b q => q
def bk_L_law_731 (E : ZE) (CT : Nat → ZC) (X : ZK) (Rt : ZR) (ls : ZL) (st : List ZV) (h : ZH) (b : ZB2) : Prop := zB E CT k_L_law_731 731 ls st h b (fun t ls st h b => X t ls st h b) Rt
theorem bs_L_law_731 {E : ZE} {CT : Nat → ZC} {X : ZK} {Rt : ZR} {ls : ZL} {st : List ZV} {h : ZH} {b : ZB2} (hX : zCl E zlaw 13 false CT Rt X) (q : bk_L_law_731 E CT X Rt ls st h b) : X 731 ls st h b := by
  refine hX k_L_law_731 731 ok_L_law_731 _ ?_ ls st h b q
  exact fun t ls st h b q => q
def bk_L_law_745 (E : ZE) (CT : Nat → ZC) (X : ZK) (Rt : ZR) (ls : ZL) (st : List ZV) (h : ZH) (b : ZB2) : Prop := zB E CT k_L_law_745 745 ls st h b (fun t ls st h b => X t ls st h b) Rt
theorem bs_L_law_745 {E : ZE} {CT : Nat → ZC} {X : ZK} {Rt : ZR} {ls : ZL} {st : List ZV} {h : ZH} {b : ZB2} (hX : zCl E zlaw 13 false CT Rt X) (q : bk_L_law_745 E CT X Rt ls st h b) : X 745 ls st h b := by
  refine hX k_L_law_745 745 ok_L_law_745 _ ?_ ls st h b q
  exact fun t ls st h b q => q
def bk_L_law_754 (E : ZE) (CT : Nat → ZC) (X : ZK) (Rt : ZR) (ls : ZL) (st : List ZV) (h : ZH) (b : ZB2) : Prop := zB E CT k_L_law_754 754 ls st h b (fun t ls st h b => X t ls st h b) Rt
theorem bs_L_law_754 {E : ZE} {CT : Nat → ZC} {X : ZK} {Rt : ZR} {ls : ZL} {st : List ZV} {h : ZH} {b : ZB2} (hX : zCl E zlaw 13 false CT Rt X) (q : bk_L_law_754 E CT X Rt ls st h b) : X 754 ls st h b := by
  refine hX k_L_law_754 754 ok_L_law_754 _ ?_ ls st h b q
  exact fun t ls st h b q => q
def bk_L_law_768 (E : ZE) (CT : Nat → ZC) (X : ZK) (Rt : ZR) (ls : ZL) (st : List ZV) (h : ZH) (b : ZB2) : Prop := zB E CT k_L_law_768 768 ls st h b (fun t ls st h b => X t ls st h b) Rt
theorem bs_L_law_768 {E : ZE} {CT : Nat → ZC} {X : ZK} {Rt : ZR} {ls : ZL} {st : List ZV} {h : ZH} {b : ZB2} (hX : zCl E zlaw 13 false CT Rt X) (q : bk_L_law_768 E CT X Rt ls st h b) : X 768 ls st h b := by
  refine hX k_L_law_768 768 ok_L_law_768 _ ?_ ls st h b q
  exact fun t ls st h b q => q
def bk_L_law_787 (E : ZE) (CT : Nat → ZC) (X : ZK) (Rt : ZR) (ls : ZL) (st : List ZV) (h : ZH) (b : ZB2) : Prop := zB E CT k_L_law_787 787 ls st h b (fun t ls st h b => X t ls st h b) Rt
theorem bs_L_law_787 {E : ZE} {CT : Nat → ZC} {X : ZK} {Rt : ZR} {ls : ZL} {st : List ZV} {h : ZH} {b : ZB2} (hX : zCl E zlaw 13 false CT Rt X) (q : bk_L_law_787 E CT X Rt ls st h b) : X 787 ls st h b := by
  refine hX k_L_law_787 787 ok_L_law_787 _ ?_ ls st h b q
  exact fun t ls st h b q => q
def bk_L_law_811 (E : ZE) (CT : Nat → ZC) (X : ZK) (Rt : ZR) (ls : ZL) (st : List ZV) (h : ZH) (b : ZB2) : Prop := zB E CT k_L_law_811 811 ls st h b (fun t ls st h b => X t ls st h b) Rt
theorem bs_L_law_811 {E : ZE} {CT : Nat → ZC} {X : ZK} {Rt : ZR} {ls : ZL} {st : List ZV} {h : ZH} {b : ZB2} (hX : zCl E zlaw 13 false CT Rt X) (q : bk_L_law_811 E CT X Rt ls st h b) : X 811 ls st h b := by
  refine hX k_L_law_811 811 ok_L_law_811 _ ?_ ls st h b q
  exact fun t ls st h b q => q
def bk_L_law_815 (E : ZE) (CT : Nat → ZC) (X : ZK) (Rt : ZR) (ls : ZL) (st : List ZV) (h : ZH) (b : ZB2) : Prop := zB E CT k_L_law_815 815 ls st h b (fun t ls st h b => X t ls st h b) Rt
theorem bs_L_law_815 {E : ZE} {CT : Nat → ZC} {X : ZK} {Rt : ZR} {ls : ZL} {st : List ZV} {h : ZH} {b : ZB2} (hX : zCl E zlaw 13 false CT Rt X) (q : bk_L_law_815 E CT X Rt ls st h b) : X 815 ls st h b := by
  refine hX k_L_law_815 815 ok_L_law_815 _ ?_ ls st h b q
  exact fun t ls st h b q => q
def bk_L_law_824 (E : ZE) (CT : Nat → ZC) (X : ZK) (Rt : ZR) (ls : ZL) (st : List ZV) (h : ZH) (b : ZB2) : Prop := zB E CT k_L_law_824 824 ls st h b (fun t ls st h b => X t ls st h b) Rt
theorem bs_L_law_824 {E : ZE} {CT : Nat → ZC} {X : ZK} {Rt : ZR} {ls : ZL} {st : List ZV} {h : ZH} {b : ZB2} (hX : zCl E zlaw 13 false CT Rt X) (q : bk_L_law_824 E CT X Rt ls st h b) : X 824 ls st h b := by
  refine hX k_L_law_824 824 ok_L_law_824 _ ?_ ls st h b q
  exact fun t ls st h b q => q
def bk_L_law_833 (E : ZE) (CT : Nat → ZC) (X : ZK) (Rt : ZR) (ls : ZL) (st : List ZV) (h : ZH) (b : ZB2) : Prop := zB E CT k_L_law_833 833 ls st h b (fun t ls st h b => X t ls st h b) Rt
theorem bs_L_law_833 {E : ZE} {CT : Nat → ZC} {X : ZK} {Rt : ZR} {ls : ZL} {st : List ZV} {h : ZH} {b : ZB2} (hX : zCl E zlaw 13 false CT Rt X) (q : bk_L_law_833 E CT X Rt ls st h b) : X 833 ls st h b := by
  refine hX k_L_law_833 833 ok_L_law_833 _ ?_ ls st h b q
  exact fun t ls st h b q => q
def bk_L_law_847 (E : ZE) (CT : Nat → ZC) (X : ZK) (Rt : ZR) (ls : ZL) (st : List ZV) (h : ZH) (b : ZB2) : Prop := zB E CT k_L_law_847 847 ls st h b (fun t ls st h b => X t ls st h b) Rt
theorem bs_L_law_847 {E : ZE} {CT : Nat → ZC} {X : ZK} {Rt : ZR} {ls : ZL} {st : List ZV} {h : ZH} {b : ZB2} (hX : zCl E zlaw 13 false CT Rt X) (q : bk_L_law_847 E CT X Rt ls st h b) : X 847 ls st h b := by
  refine hX k_L_law_847 847 ok_L_law_847 _ ?_ ls st h b q
  exact fun t ls st h b q => q
def bk_L_law_856 (E : ZE) (CT : Nat → ZC) (X : ZK) (Rt : ZR) (ls : ZL) (st : List ZV) (h : ZH) (b : ZB2) : Prop := zB E CT k_L_law_856 856 ls st h b (fun t ls st h b => X t ls st h b) Rt
theorem bs_L_law_856 {E : ZE} {CT : Nat → ZC} {X : ZK} {Rt : ZR} {ls : ZL} {st : List ZV} {h : ZH} {b : ZB2} (hX : zCl E zlaw 13 false CT Rt X) (q : bk_L_law_856 E CT X Rt ls st h b) : X 856 ls st h b := by
  refine hX k_L_law_856 856 ok_L_law_856 _ ?_ ls st h b q
  exact fun t ls st h b q => q
def bk_L_law_870 (E : ZE) (CT : Nat → ZC) (X : ZK) (Rt : ZR) (ls : ZL) (st : List ZV) (h : ZH) (b : ZB2) : Prop := zB E CT k_L_law_870 870 ls st h b (fun t ls st h b => X t ls st h b) Rt
theorem bs_L_law_870 {E : ZE} {CT : Nat → ZC} {X : ZK} {Rt : ZR} {ls : ZL} {st : List ZV} {h : ZH} {b : ZB2} (hX : zCl E zlaw 13 false CT Rt X) (q : bk_L_law_870 E CT X Rt ls st h b) : X 870 ls st h b := by
  refine hX k_L_law_870 870 ok_L_law_870 _ ?_ ls st h b q
  exact fun t ls st h b q => q
def bk_L_law_889 (E : ZE) (CT : Nat → ZC) (X : ZK) (Rt : ZR) (ls : ZL) (st : List ZV) (h : ZH) (b : ZB2) : Prop := zB E CT k_L_law_889 889 ls st h b (fun t ls st h b => X t ls st h b) Rt
theorem bs_L_law_889 {E : ZE} {CT : Nat → ZC} {X : ZK} {Rt : ZR} {ls : ZL} {st : List ZV} {h : ZH} {b : ZB2} (hX : zCl E zlaw 13 false CT Rt X) (q : bk_L_law_889 E CT X Rt ls st h b) : X 889 ls st h b := by
  refine hX k_L_law_889 889 ok_L_law_889 _ ?_ ls st h b q
  exact fun t ls st h b q => q
def bk_L_law_913 (E : ZE) (CT : Nat → ZC) (X : ZK) (Rt : ZR) (ls : ZL) (st : List ZV) (h : ZH) (b : ZB2) : Prop := zB E CT k_L_law_913 913 ls st h b (fun t ls st h b => X t ls st h b) Rt
theorem bs_L_law_913 {E : ZE} {CT : Nat → ZC} {X : ZK} {Rt : ZR} {ls : ZL} {st : List ZV} {h : ZH} {b : ZB2} (hX : zCl E zlaw 13 false CT Rt X) (q : bk_L_law_913 E CT X Rt ls st h b) : X 913 ls st h b := by
  refine hX k_L_law_913 913 ok_L_law_913 _ ?_ ls st h b q
  exact fun t ls st h b q => q
def bk_L_law_922 (E : ZE) (CT : Nat → ZC) (X : ZK) (Rt : ZR) (ls : ZL) (st : List ZV) (h : ZH) (b : ZB2) : Prop := zB E CT k_L_law_922 922 ls st h b (fun t ls st h b => X t ls st h b) Rt
theorem bs_L_law_922 {E : ZE} {CT : Nat → ZC} {X : ZK} {Rt : ZR} {ls : ZL} {st : List ZV} {h : ZH} {b : ZB2} (hX : zCl E zlaw 13 false CT Rt X) (q : bk_L_law_922 E CT X Rt ls st h b) : X 922 ls st h b := by
  refine hX k_L_law_922 922 ok_L_law_922 _ ?_ ls st h b q
  exact fun t ls st h b q => q
def bk_L_law_936 (E : ZE) (CT : Nat → ZC) (X : ZK) (Rt : ZR) (ls : ZL) (st : List ZV) (h : ZH) (b : ZB2) : Prop := zB E CT k_L_law_936 936 ls st h b (fun t ls st h b => X t ls st h b) Rt
theorem bs_L_law_936 {E : ZE} {CT : Nat → ZC} {X : ZK} {Rt : ZR} {ls : ZL} {st : List ZV} {h : ZH} {b : ZB2} (hX : zCl E zlaw 13 false CT Rt X) (q : bk_L_law_936 E CT X Rt ls st h b) : X 936 ls st h b := by
  refine hX k_L_law_936 936 ok_L_law_936 _ ?_ ls st h b q
  exact fun t ls st h b q => q
def bk_L_law_955 (E : ZE) (CT : Nat → ZC) (X : ZK) (Rt : ZR) (ls : ZL) (st : List ZV) (h : ZH) (b : ZB2) : Prop := zB E CT k_L_law_955 955 ls st h b (fun t ls st h b => X t ls st h b) Rt
theorem bs_L_law_955 {E : ZE} {CT : Nat → ZC} {X : ZK} {Rt : ZR} {ls : ZL} {st : List ZV} {h : ZH} {b : ZB2} (hX : zCl E zlaw 13 false CT Rt X) (q : bk_L_law_955 E CT X Rt ls st h b) : X 955 ls st h b := by
  refine hX k_L_law_955 955 ok_L_law_955 _ ?_ ls st h b q
  exact fun t ls st h b q => q
def bk_L_law_979 (E : ZE) (CT : Nat → ZC) (X : ZK) (Rt : ZR) (ls : ZL) (st : List ZV) (h : ZH) (b : ZB2) : Prop := zB E CT k_L_law_979 979 ls st h b (fun t ls st h b => X t ls st h b) Rt
theorem bs_L_law_979 {E : ZE} {CT : Nat → ZC} {X : ZK} {Rt : ZR} {ls : ZL} {st : List ZV} {h : ZH} {b : ZB2} (hX : zCl E zlaw 13 false CT Rt X) (q : bk_L_law_979 E CT X Rt ls st h b) : X 979 ls st h b := by
  refine hX k_L_law_979 979 ok_L_law_979 _ ?_ ls st h b q
  exact fun t ls st h b q => q
def bk_L_law_993 (E : ZE) (CT : Nat → ZC) (X : ZK) (Rt : ZR) (ls : ZL) (st : List ZV) (h : ZH) (b : ZB2) : Prop := zB E CT k_L_law_993 993 ls st h b (fun t ls st h b => X t ls st h b) Rt
theorem bs_L_law_993 {E : ZE} {CT : Nat → ZC} {X : ZK} {Rt : ZR} {ls : ZL} {st : List ZV} {h : ZH} {b : ZB2} (hX : zCl E zlaw 13 false CT Rt X) (q : bk_L_law_993 E CT X Rt ls st h b) : X 993 ls st h b := by
  refine hX k_L_law_993 993 ok_L_law_993 _ ?_ ls st h b q
  exact fun t ls st h b q => q
def bk_L_law_1012 (E : ZE) (CT : Nat → ZC) (X : ZK) (Rt : ZR) (ls : ZL) (st : List ZV) (h : ZH) (b : ZB2) : Prop := zB E CT k_L_law_1012 1012 ls st h b (fun t ls st h b => X t ls st h b) Rt
theorem bs_L_law_1012 {E : ZE} {CT : Nat → ZC} {X : ZK} {Rt : ZR} {ls : ZL} {st : List ZV} {h : ZH} {b : ZB2} (hX : zCl E zlaw 13 false CT Rt X) (q : bk_L_law_1012 E CT X Rt ls st h b) : X 1012 ls st h b := by
  refine hX k_L_law_1012 1012 ok_L_law_1012 _ ?_ ls st h b q
  exact fun t ls st h b q => q
def bk_L_law_1026 (E : ZE) (CT : Nat → ZC) (X : ZK) (Rt : ZR) (ls : ZL) (st : List ZV) (h : ZH) (b : ZB2) : Prop := zB E CT k_L_law_1026 1026 ls st h b (fun t ls st h b => X t ls st h b) Rt
theorem bs_L_law_1026 {E : ZE} {CT : Nat → ZC} {X : ZK} {Rt : ZR} {ls : ZL} {st : List ZV} {h : ZH} {b : ZB2} (hX : zCl E zlaw 13 false CT Rt X) (q : bk_L_law_1026 E CT X Rt ls st h b) : X 1026 ls st h b := by
  refine hX k_L_law_1026 1026 ok_L_law_1026 _ ?_ ls st h b q
  exact fun t ls st h b q => q
def bk_L_law_1045 (E : ZE) (CT : Nat → ZC) (X : ZK) (Rt : ZR) (ls : ZL) (st : List ZV) (h : ZH) (b : ZB2) : Prop := zB E CT k_L_law_1045 1045 ls st h b (fun t ls st h b => X t ls st h b) Rt
theorem bs_L_law_1045 {E : ZE} {CT : Nat → ZC} {X : ZK} {Rt : ZR} {ls : ZL} {st : List ZV} {h : ZH} {b : ZB2} (hX : zCl E zlaw 13 false CT Rt X) (q : bk_L_law_1045 E CT X Rt ls st h b) : X 1045 ls st h b := by
  refine hX k_L_law_1045 1045 ok_L_law_1045 _ ?_ ls st h b q
  exact fun t ls st h b q => q
def bk_L_law_1059 (E : ZE) (CT : Nat → ZC) (X : ZK) (Rt : ZR) (ls : ZL) (st : List ZV) (h : ZH) (b : ZB2) : Prop := zB E CT k_L_law_1059 1059 ls st h b (fun t ls st h b => X t ls st h b) Rt
theorem bs_L_law_1059 {E : ZE} {CT : Nat → ZC} {X : ZK} {Rt : ZR} {ls : ZL} {st : List ZV} {h : ZH} {b : ZB2} (hX : zCl E zlaw 13 false CT Rt X) (q : bk_L_law_1059 E CT X Rt ls st h b) : X 1059 ls st h b := by
  refine hX k_L_law_1059 1059 ok_L_law_1059 _ ?_ ls st h b q
  exact fun t ls st h b q => q
def bk_L_law_1078 (E : ZE) (CT : Nat → ZC) (X : ZK) (Rt : ZR) (ls : ZL) (st : List ZV) (h : ZH) (b : ZB2) : Prop := zB E CT k_L_law_1078 1078 ls st h b (fun t ls st h b => X t ls st h b) Rt
theorem bs_L_law_1078 {E : ZE} {CT : Nat → ZC} {X : ZK} {Rt : ZR} {ls : ZL} {st : List ZV} {h : ZH} {b : ZB2} (hX : zCl E zlaw 13 false CT Rt X) (q : bk_L_law_1078 E CT X Rt ls st h b) : X 1078 ls st h b := by
  refine hX k_L_law_1078 1078 ok_L_law_1078 _ ?_ ls st h b q
  exact fun t ls st h b q => q
def bk_L_law_1097 (E : ZE) (CT : Nat → ZC) (X : ZK) (Rt : ZR) (ls : ZL) (st : List ZV) (h : ZH) (b : ZB2) : Prop := zB E CT k_L_law_1097 1097 ls st h b (fun t ls st h b => X t ls st h b) Rt
theorem bs_L_law_1097 {E : ZE} {CT : Nat → ZC} {X : ZK} {Rt : ZR} {ls : ZL} {st : List ZV} {h : ZH} {b : ZB2} (hX : zCl E zlaw 13 false CT Rt X) (q : bk_L_law_1097 E CT X Rt ls st h b) : X 1097 ls st h b := by
  refine hX k_L_law_1097 1097 ok_L_law_1097 _ ?_ ls st h b q
  exact fun t ls st h b q => q
def bk_L_law_1121 (E : ZE) (CT : Nat → ZC) (X : ZK) (Rt : ZR) (ls : ZL) (st : List ZV) (h : ZH) (b : ZB2) : Prop := zB E CT k_L_law_1121 1121 ls st h b (fun t ls st h b => X t ls st h b) Rt
theorem bs_L_law_1121 {E : ZE} {CT : Nat → ZC} {X : ZK} {Rt : ZR} {ls : ZL} {st : List ZV} {h : ZH} {b : ZB2} (hX : zCl E zlaw 13 false CT Rt X) (q : bk_L_law_1121 E CT X Rt ls st h b) : X 1121 ls st h b := by
  refine hX k_L_law_1121 1121 ok_L_law_1121 _ ?_ ls st h b q
  exact fun t ls st h b q => q
def bk_L_law_1125 (E : ZE) (CT : Nat → ZC) (X : ZK) (Rt : ZR) (ls : ZL) (st : List ZV) (h : ZH) (b : ZB2) : Prop := zB E CT k_L_law_1125 1125 ls st h b (fun t ls st h b => X t ls st h b) Rt
theorem bs_L_law_1125 {E : ZE} {CT : Nat → ZC} {X : ZK} {Rt : ZR} {ls : ZL} {st : List ZV} {h : ZH} {b : ZB2} (hX : zCl E zlaw 13 false CT Rt X) (q : bk_L_law_1125 E CT X Rt ls st h b) : X 1125 ls st h b := by
  refine hX k_L_law_1125 1125 ok_L_law_1125 _ ?_ ls st h b q
  exact fun t ls st h b q => q
def bk_L_law_1134 (E : ZE) (CT : Nat → ZC) (X : ZK) (Rt : ZR) (ls : ZL) (st : List ZV) (h : ZH) (b : ZB2) : Prop := zB E CT k_L_law_1134 1134 ls st h b (fun t ls st h b => X t ls st h b) Rt
theorem bs_L_law_1134 {E : ZE} {CT : Nat → ZC} {X : ZK} {Rt : ZR} {ls : ZL} {st : List ZV} {h : ZH} {b : ZB2} (hX : zCl E zlaw 13 false CT Rt X) (q : bk_L_law_1134 E CT X Rt ls st h b) : X 1134 ls st h b := by
  refine hX k_L_law_1134 1134 ok_L_law_1134 _ ?_ ls st h b q
  exact fun t ls st h b q => q
def bk_L_law_1153 (E : ZE) (CT : Nat → ZC) (X : ZK) (Rt : ZR) (ls : ZL) (st : List ZV) (h : ZH) (b : ZB2) : Prop := zB E CT k_L_law_1153 1153 ls st h b (fun t ls st h b => X t ls st h b) Rt
theorem bs_L_law_1153 {E : ZE} {CT : Nat → ZC} {X : ZK} {Rt : ZR} {ls : ZL} {st : List ZV} {h : ZH} {b : ZB2} (hX : zCl E zlaw 13 false CT Rt X) (q : bk_L_law_1153 E CT X Rt ls st h b) : X 1153 ls st h b := by
  refine hX k_L_law_1153 1153 ok_L_law_1153 _ ?_ ls st h b q
  exact fun t ls st h b q => q
def bk_L_law_1177 (E : ZE) (CT : Nat → ZC) (X : ZK) (Rt : ZR) (ls : ZL) (st : List ZV) (h : ZH) (b : ZB2) : Prop := zB E CT k_L_law_1177 1177 ls st h b (fun t ls st h b => X t ls st h b) Rt
theorem bs_L_law_1177 {E : ZE} {CT : Nat → ZC} {X : ZK} {Rt : ZR} {ls : ZL} {st : List ZV} {h : ZH} {b : ZB2} (hX : zCl E zlaw 13 false CT Rt X) (q : bk_L_law_1177 E CT X Rt ls st h b) : X 1177 ls st h b := by
  refine hX k_L_law_1177 1177 ok_L_law_1177 _ ?_ ls st h b q
  exact fun t ls st h b q => q
def bk_L_law_1186 (E : ZE) (CT : Nat → ZC) (X : ZK) (Rt : ZR) (ls : ZL) (st : List ZV) (h : ZH) (b : ZB2) : Prop := zB E CT k_L_law_1186 1186 ls st h b (fun t ls st h b => X t ls st h b) Rt
theorem bs_L_law_1186 {E : ZE} {CT : Nat → ZC} {X : ZK} {Rt : ZR} {ls : ZL} {st : List ZV} {h : ZH} {b : ZB2} (hX : zCl E zlaw 13 false CT Rt X) (q : bk_L_law_1186 E CT X Rt ls st h b) : X 1186 ls st h b := by
  refine hX k_L_law_1186 1186 ok_L_law_1186 _ ?_ ls st h b q
  exact fun t ls st h b q => q
def bk_L_law_1200 (E : ZE) (CT : Nat → ZC) (X : ZK) (Rt : ZR) (ls : ZL) (st : List ZV) (h : ZH) (b : ZB2) : Prop := zB E CT k_L_law_1200 1200 ls st h b (fun t ls st h b => X t ls st h b) Rt
theorem bs_L_law_1200 {E : ZE} {CT : Nat → ZC} {X : ZK} {Rt : ZR} {ls : ZL} {st : List ZV} {h : ZH} {b : ZB2} (hX : zCl E zlaw 13 false CT Rt X) (q : bk_L_law_1200 E CT X Rt ls st h b) : X 1200 ls st h b := by
  refine hX k_L_law_1200 1200 ok_L_law_1200 _ ?_ ls st h b q
  exact fun t ls st h b q => q
def bk_L_law_1219 (E : ZE) (CT : Nat → ZC) (X : ZK) (Rt : ZR) (ls : ZL) (st : List ZV) (h : ZH) (b : ZB2) : Prop := zB E CT k_L_law_1219 1219 ls st h b (fun t ls st h b => X t ls st h b) Rt
theorem bs_L_law_1219 {E : ZE} {CT : Nat → ZC} {X : ZK} {Rt : ZR} {ls : ZL} {st : List ZV} {h : ZH} {b : ZB2} (hX : zCl E zlaw 13 false CT Rt X) (q : bk_L_law_1219 E CT X Rt ls st h b) : X 1219 ls st h b := by
  refine hX k_L_law_1219 1219 ok_L_law_1219 _ ?_ ls st h b q
  exact fun t ls st h b q => q
def bk_L_law_1243 (E : ZE) (CT : Nat → ZC) (X : ZK) (Rt : ZR) (ls : ZL) (st : List ZV) (h : ZH) (b : ZB2) : Prop := zB E CT k_L_law_1243 1243 ls st h b (fun t ls st h b => X t ls st h b) Rt
theorem bs_L_law_1243 {E : ZE} {CT : Nat → ZC} {X : ZK} {Rt : ZR} {ls : ZL} {st : List ZV} {h : ZH} {b : ZB2} (hX : zCl E zlaw 13 false CT Rt X) (q : bk_L_law_1243 E CT X Rt ls st h b) : X 1243 ls st h b := by
  refine hX k_L_law_1243 1243 ok_L_law_1243 _ ?_ ls st h b q
  exact fun t ls st h b q => q
def bk_L_law_1252 (E : ZE) (CT : Nat → ZC) (X : ZK) (Rt : ZR) (ls : ZL) (st : List ZV) (h : ZH) (b : ZB2) : Prop := zB E CT k_L_law_1252 1252 ls st h b (fun t ls st h b => X t ls st h b) Rt
theorem bs_L_law_1252 {E : ZE} {CT : Nat → ZC} {X : ZK} {Rt : ZR} {ls : ZL} {st : List ZV} {h : ZH} {b : ZB2} (hX : zCl E zlaw 13 false CT Rt X) (q : bk_L_law_1252 E CT X Rt ls st h b) : X 1252 ls st h b := by
  refine hX k_L_law_1252 1252 ok_L_law_1252 _ ?_ ls st h b q
  exact fun t ls st h b q => q
def bk_L_law_1266 (E : ZE) (CT : Nat → ZC) (X : ZK) (Rt : ZR) (ls : ZL) (st : List ZV) (h : ZH) (b : ZB2) : Prop := zB E CT k_L_law_1266 1266 ls st h b (fun t ls st h b => X t ls st h b) Rt
theorem bs_L_law_1266 {E : ZE} {CT : Nat → ZC} {X : ZK} {Rt : ZR} {ls : ZL} {st : List ZV} {h : ZH} {b : ZB2} (hX : zCl E zlaw 13 false CT Rt X) (q : bk_L_law_1266 E CT X Rt ls st h b) : X 1266 ls st h b := by
  refine hX k_L_law_1266 1266 ok_L_law_1266 _ ?_ ls st h b q
  exact fun t ls st h b q => q
def bk_L_law_1285 (E : ZE) (CT : Nat → ZC) (X : ZK) (Rt : ZR) (ls : ZL) (st : List ZV) (h : ZH) (b : ZB2) : Prop := zB E CT k_L_law_1285 1285 ls st h b (fun t ls st h b => X t ls st h b) Rt
theorem bs_L_law_1285 {E : ZE} {CT : Nat → ZC} {X : ZK} {Rt : ZR} {ls : ZL} {st : List ZV} {h : ZH} {b : ZB2} (hX : zCl E zlaw 13 false CT Rt X) (q : bk_L_law_1285 E CT X Rt ls st h b) : X 1285 ls st h b := by
  refine hX k_L_law_1285 1285 ok_L_law_1285 _ ?_ ls st h b q
  exact fun t ls st h b q => q
def bk_L_law_1309 (E : ZE) (CT : Nat → ZC) (X : ZK) (Rt : ZR) (ls : ZL) (st : List ZV) (h : ZH) (b : ZB2) : Prop := zB E CT k_L_law_1309 1309 ls st h b (fun t ls st h b => X t ls st h b) Rt
theorem bs_L_law_1309 {E : ZE} {CT : Nat → ZC} {X : ZK} {Rt : ZR} {ls : ZL} {st : List ZV} {h : ZH} {b : ZB2} (hX : zCl E zlaw 13 false CT Rt X) (q : bk_L_law_1309 E CT X Rt ls st h b) : X 1309 ls st h b := by
  refine hX k_L_law_1309 1309 ok_L_law_1309 _ ?_ ls st h b q
  exact fun t ls st h b q => q
def bk_L_law_1328 (E : ZE) (CT : Nat → ZC) (X : ZK) (Rt : ZR) (ls : ZL) (st : List ZV) (h : ZH) (b : ZB2) : Prop := zB E CT k_L_law_1328 1328 ls st h b (fun t ls st h b => X t ls st h b) Rt
theorem bs_L_law_1328 {E : ZE} {CT : Nat → ZC} {X : ZK} {Rt : ZR} {ls : ZL} {st : List ZV} {h : ZH} {b : ZB2} (hX : zCl E zlaw 13 false CT Rt X) (q : bk_L_law_1328 E CT X Rt ls st h b) : X 1328 ls st h b := by
  refine hX k_L_law_1328 1328 ok_L_law_1328 _ ?_ ls st h b q
  exact fun t ls st h b q => q
def bk_L_law_1352 (E : ZE) (CT : Nat → ZC) (X : ZK) (Rt : ZR) (ls : ZL) (st : List ZV) (h : ZH) (b : ZB2) : Prop := zB E CT k_L_law_1352 1352 ls st h b (fun t ls st h b => X t ls st h b) Rt
theorem bs_L_law_1352 {E : ZE} {CT : Nat → ZC} {X : ZK} {Rt : ZR} {ls : ZL} {st : List ZV} {h : ZH} {b : ZB2} (hX : zCl E zlaw 13 false CT Rt X) (q : bk_L_law_1352 E CT X Rt ls st h b) : X 1352 ls st h b := by
  refine hX k_L_law_1352 1352 ok_L_law_1352 _ ?_ ls st h b q
  exact fun t ls st h b q => q
def bk_L_law_1381 (E : ZE) (CT : Nat → ZC) (X : ZK) (Rt : ZR) (ls : ZL) (st : List ZV) (h : ZH) (b : ZB2) : Prop := zB E CT k_L_law_1381 1381 ls st h b (fun t ls st h b => X t ls st h b) Rt
theorem bs_L_law_1381 {E : ZE} {CT : Nat → ZC} {X : ZK} {Rt : ZR} {ls : ZL} {st : List ZV} {h : ZH} {b : ZB2} (hX : zCl E zlaw 13 false CT Rt X) (q : bk_L_law_1381 E CT X Rt ls st h b) : X 1381 ls st h b := by
  refine hX k_L_law_1381 1381 ok_L_law_1381 _ ?_ ls st h b q
  exact fun t ls st h b q => q
def bk_L_law_1415 (E : ZE) (CT : Nat → ZC) (X : ZK) (Rt : ZR) (ls : ZL) (st : List ZV) (h : ZH) (b : ZB2) : Prop := zB E CT k_L_law_1415 1415 ls st h b (fun t ls st h b => X t ls st h b) Rt
theorem bs_L_law_1415 {E : ZE} {CT : Nat → ZC} {X : ZK} {Rt : ZR} {ls : ZL} {st : List ZV} {h : ZH} {b : ZB2} (hX : zCl E zlaw 13 false CT Rt X) (q : bk_L_law_1415 E CT X Rt ls st h b) : X 1415 ls st h b := by
  refine hX k_L_law_1415 1415 ok_L_law_1415 _ ?_ ls st h b q
  exact fun t ls st h b q => q
def bk_L_law_1424 (E : ZE) (CT : Nat → ZC) (X : ZK) (Rt : ZR) (ls : ZL) (st : List ZV) (h : ZH) (b : ZB2) : Prop := zB E CT k_L_law_1424 1424 ls st h b (fun t ls st h b => X t ls st h b) Rt
theorem bs_L_law_1424 {E : ZE} {CT : Nat → ZC} {X : ZK} {Rt : ZR} {ls : ZL} {st : List ZV} {h : ZH} {b : ZB2} (hX : zCl E zlaw 13 false CT Rt X) (q : bk_L_law_1424 E CT X Rt ls st h b) : X 1424 ls st h b := by
  refine hX k_L_law_1424 1424 ok_L_law_1424 _ ?_ ls st h b q
  exact fun t ls st h b q => q
def bk_L_law_1438 (E : ZE) (CT : Nat → ZC) (X : ZK) (Rt : ZR) (ls : ZL) (st : List ZV) (h : ZH) (b : ZB2) : Prop := zB E CT k_L_law_1438 1438 ls st h b (fun t ls st h b => X t ls st h b) Rt
theorem bs_L_law_1438 {E : ZE} {CT : Nat → ZC} {X : ZK} {Rt : ZR} {ls : ZL} {st : List ZV} {h : ZH} {b : ZB2} (hX : zCl E zlaw 13 false CT Rt X) (q : bk_L_law_1438 E CT X Rt ls st h b) : X 1438 ls st h b := by
  refine hX k_L_law_1438 1438 ok_L_law_1438 _ ?_ ls st h b q
  exact fun t ls st h b q => q
def bk_L_law_1447 (E : ZE) (CT : Nat → ZC) (X : ZK) (Rt : ZR) (ls : ZL) (st : List ZV) (h : ZH) (b : ZB2) : Prop := zB E CT k_L_law_1447 1447 ls st h b (fun t ls st h b => X t ls st h b) Rt
theorem bs_L_law_1447 {E : ZE} {CT : Nat → ZC} {X : ZK} {Rt : ZR} {ls : ZL} {st : List ZV} {h : ZH} {b : ZB2} (hX : zCl E zlaw 13 false CT Rt X) (q : bk_L_law_1447 E CT X Rt ls st h b) : X 1447 ls st h b := by
  refine hX k_L_law_1447 1447 ok_L_law_1447 _ ?_ ls st h b q
  exact fun t ls st h b q => q
def bk_L_law_1461 (E : ZE) (CT : Nat → ZC) (X : ZK) (Rt : ZR) (ls : ZL) (st : List ZV) (h : ZH) (b : ZB2) : Prop := zB E CT k_L_law_1461 1461 ls st h b (fun t ls st h b => X t ls st h b) Rt
theorem bs_L_law_1461 {E : ZE} {CT : Nat → ZC} {X : ZK} {Rt : ZR} {ls : ZL} {st : List ZV} {h : ZH} {b : ZB2} (hX : zCl E zlaw 13 false CT Rt X) (q : bk_L_law_1461 E CT X Rt ls st h b) : X 1461 ls st h b := by
  refine hX k_L_law_1461 1461 ok_L_law_1461 _ ?_ ls st h b q
  exact fun t ls st h b q => q
def bk_L_law_1465 (E : ZE) (CT : Nat → ZC) (X : ZK) (Rt : ZR) (ls : ZL) (st : List ZV) (h : ZH) (b : ZB2) : Prop := zB E CT k_L_law_1465 1465 ls st h b (fun t ls st h b => X t ls st h b) Rt
theorem bs_L_law_1465 {E : ZE} {CT : Nat → ZC} {X : ZK} {Rt : ZR} {ls : ZL} {st : List ZV} {h : ZH} {b : ZB2} (hX : zCl E zlaw 13 false CT Rt X) (q : bk_L_law_1465 E CT X Rt ls st h b) : X 1465 ls st h b := by
  refine hX k_L_law_1465 1465 ok_L_law_1465 _ ?_ ls st h b q
  exact fun t ls st h b q => q
def bk_L_law_1474 (E : ZE) (CT : Nat → ZC) (X : ZK) (Rt : ZR) (ls : ZL) (st : List ZV) (h : ZH) (b : ZB2) : Prop := zB E CT k_L_law_1474 1474 ls st h b (fun t ls st h b => X t ls st h b) Rt
theorem bs_L_law_1474 {E : ZE} {CT : Nat → ZC} {X : ZK} {Rt : ZR} {ls : ZL} {st : List ZV} {h : ZH} {b : ZB2} (hX : zCl E zlaw 13 false CT Rt X) (q : bk_L_law_1474 E CT X Rt ls st h b) : X 1474 ls st h b := by
  refine hX k_L_law_1474 1474 ok_L_law_1474 _ ?_ ls st h b q
  exact fun t ls st h b q => q
def bk_L_law_1478 (E : ZE) (CT : Nat → ZC) (X : ZK) (Rt : ZR) (ls : ZL) (st : List ZV) (h : ZH) (b : ZB2) : Prop := zB E CT k_L_law_1478 1478 ls st h b (fun t ls st h b => X t ls st h b) Rt
theorem bs_L_law_1478 {E : ZE} {CT : Nat → ZC} {X : ZK} {Rt : ZR} {ls : ZL} {st : List ZV} {h : ZH} {b : ZB2} (hX : zCl E zlaw 13 false CT Rt X) (q : bk_L_law_1478 E CT X Rt ls st h b) : X 1478 ls st h b := by
  refine hX k_L_law_1478 1478 ok_L_law_1478 _ ?_ ls st h b q
  exact fun t ls st h b q => q
def bk_L_law_1487 (E : ZE) (CT : Nat → ZC) (X : ZK) (Rt : ZR) (ls : ZL) (st : List ZV) (h : ZH) (b : ZB2) : Prop := zB E CT k_L_law_1487 1487 ls st h b (fun t ls st h b => X t ls st h b) Rt
theorem bs_L_law_1487 {E : ZE} {CT : Nat → ZC} {X : ZK} {Rt : ZR} {ls : ZL} {st : List ZV} {h : ZH} {b : ZB2} (hX : zCl E zlaw 13 false CT Rt X) (q : bk_L_law_1487 E CT X Rt ls st h b) : X 1487 ls st h b := by
  refine hX k_L_law_1487 1487 ok_L_law_1487 _ ?_ ls st h b q
  exact fun t ls st h b q => q
def bk_L_law_1496 (E : ZE) (CT : Nat → ZC) (X : ZK) (Rt : ZR) (ls : ZL) (st : List ZV) (h : ZH) (b : ZB2) : Prop := zB E CT k_L_law_1496 1496 ls st h b (fun t ls st h b => X t ls st h b) Rt
theorem bs_L_law_1496 {E : ZE} {CT : Nat → ZC} {X : ZK} {Rt : ZR} {ls : ZL} {st : List ZV} {h : ZH} {b : ZB2} (hX : zCl E zlaw 13 false CT Rt X) (q : bk_L_law_1496 E CT X Rt ls st h b) : X 1496 ls st h b := by
  refine hX k_L_law_1496 1496 ok_L_law_1496 _ ?_ ls st h b q
  exact fun t ls st h b q => q
def bk_L_law_1510 (E : ZE) (CT : Nat → ZC) (X : ZK) (Rt : ZR) (ls : ZL) (st : List ZV) (h : ZH) (b : ZB2) : Prop := zB E CT k_L_law_1510 1510 ls st h b (fun t ls st h b => X t ls st h b) Rt
theorem bs_L_law_1510 {E : ZE} {CT : Nat → ZC} {X : ZK} {Rt : ZR} {ls : ZL} {st : List ZV} {h : ZH} {b : ZB2} (hX : zCl E zlaw 13 false CT Rt X) (q : bk_L_law_1510 E CT X Rt ls st h b) : X 1510 ls st h b := by
  refine hX k_L_law_1510 1510 ok_L_law_1510 _ ?_ ls st h b q
  exact fun t ls st h b q => q
def bk_L_law_1514 (E : ZE) (CT : Nat → ZC) (X : ZK) (Rt : ZR) (ls : ZL) (st : List ZV) (h : ZH) (b : ZB2) : Prop := zB E CT k_L_law_1514 1514 ls st h b (fun t ls st h b => X t ls st h b) Rt
theorem bs_L_law_1514 {E : ZE} {CT : Nat → ZC} {X : ZK} {Rt : ZR} {ls : ZL} {st : List ZV} {h : ZH} {b : ZB2} (hX : zCl E zlaw 13 false CT Rt X) (q : bk_L_law_1514 E CT X Rt ls st h b) : X 1514 ls st h b := by
  refine hX k_L_law_1514 1514 ok_L_law_1514 _ ?_ ls st h b q
  exact fun t ls st h b q => q
def bk_L_law_1523 (E : ZE) (CT : Nat → ZC) (X : ZK) (Rt : ZR) (ls : ZL) (st : List ZV) (h : ZH) (b : ZB2) : Prop := zB E CT k_L_law_1523 1523 ls st h b (fun t ls st h b => X t ls st h b) Rt
theorem bs_L_law_1523 {E : ZE} {CT : Nat → ZC} {X : ZK} {Rt : ZR} {ls : ZL} {st : List ZV} {h : ZH} {b : ZB2} (hX : zCl E zlaw 13 false CT Rt X) (q : bk_L_law_1523 E CT X Rt ls st h b) : X 1523 ls st h b := by
  refine hX k_L_law_1523 1523 ok_L_law_1523 _ ?_ ls st h b q
  exact fun t ls st h b q => q
def bk_L_law_1532 (E : ZE) (CT : Nat → ZC) (X : ZK) (Rt : ZR) (ls : ZL) (st : List ZV) (h : ZH) (b : ZB2) : Prop := zB E CT k_L_law_1532 1532 ls st h b (fun t ls st h b => X t ls st h b) Rt
theorem bs_L_law_1532 {E : ZE} {CT : Nat → ZC} {X : ZK} {Rt : ZR} {ls : ZL} {st : List ZV} {h : ZH} {b : ZB2} (hX : zCl E zlaw 13 false CT Rt X) (q : bk_L_law_1532 E CT X Rt ls st h b) : X 1532 ls st h b := by
  refine hX k_L_law_1532 1532 ok_L_law_1532 _ ?_ ls st h b q
  exact fun t ls st h b q => q
def bk_L_law_1546 (E : ZE) (CT : Nat → ZC) (X : ZK) (Rt : ZR) (ls : ZL) (st : List ZV) (h : ZH) (b : ZB2) : Prop := zB E CT k_L_law_1546 1546 ls st h b (fun t ls st h b => X t ls st h b) Rt
theorem bs_L_law_1546 {E : ZE} {CT : Nat → ZC} {X : ZK} {Rt : ZR} {ls : ZL} {st : List ZV} {h : ZH} {b : ZB2} (hX : zCl E zlaw 13 false CT Rt X) (q : bk_L_law_1546 E CT X Rt ls st h b) : X 1546 ls st h b := by
  refine hX k_L_law_1546 1546 ok_L_law_1546 _ ?_ ls st h b q
  exact fun t ls st h b q => q
def bk_L_law_1555 (E : ZE) (CT : Nat → ZC) (X : ZK) (Rt : ZR) (ls : ZL) (st : List ZV) (h : ZH) (b : ZB2) : Prop := zB E CT k_L_law_1555 1555 ls st h b (fun t ls st h b => X t ls st h b) Rt
theorem bs_L_law_1555 {E : ZE} {CT : Nat → ZC} {X : ZK} {Rt : ZR} {ls : ZL} {st : List ZV} {h : ZH} {b : ZB2} (hX : zCl E zlaw 13 false CT Rt X) (q : bk_L_law_1555 E CT X Rt ls st h b) : X 1555 ls st h b := by
  refine hX k_L_law_1555 1555 ok_L_law_1555 _ ?_ ls st h b q
  exact fun t ls st h b q => q
def bk_L_law_1569 (E : ZE) (CT : Nat → ZC) (X : ZK) (Rt : ZR) (ls : ZL) (st : List ZV) (h : ZH) (b : ZB2) : Prop := zB E CT k_L_law_1569 1569 ls st h b (fun t ls st h b => X t ls st h b) Rt
theorem bs_L_law_1569 {E : ZE} {CT : Nat → ZC} {X : ZK} {Rt : ZR} {ls : ZL} {st : List ZV} {h : ZH} {b : ZB2} (hX : zCl E zlaw 13 false CT Rt X) (q : bk_L_law_1569 E CT X Rt ls st h b) : X 1569 ls st h b := by
  refine hX k_L_law_1569 1569 ok_L_law_1569 _ ?_ ls st h b q
  exact fun t ls st h b q => q
def bk_L_law_1575 (E : ZE) (CT : Nat → ZC) (X : ZK) (Rt : ZR) (ls : ZL) (st : List ZV) (h : ZH) (b : ZB2) : Prop := zB E CT k_L_law_1575 1575 ls st h b (fun t ls st h b => X t ls st h b) Rt
theorem bs_L_law_1575 {E : ZE} {CT : Nat → ZC} {X : ZK} {Rt : ZR} {ls : ZL} {st : List ZV} {h : ZH} {b : ZB2} (hX : zCl E zlaw 13 false CT Rt X) (q : bk_L_law_1575 E CT X Rt ls st h b) : X 1575 ls st h b := by
  refine hX k_L_law_1575 1575 ok_L_law_1575 _ ?_ ls st h b q
  exact fun t ls st h b q => q
-- L_law: cuts [7, 15, 18, 220, 234, 253, 267, 286, 300, 319, 338, 362, 376, 395, 404, 418, 432, 451, 465, 484, 498, 517, 531, 550, 564, 583, 612, 646, 655, 669, 693, 722, 731, 745, 754, 768, 787, 811, 815, 824, 833, 847, 856, 870, 889, 913, 922, 936, 955, 979, 993, 1012, 1026, 1045, 1059, 1078, 1097, 1121, 1125, 1134, 1153, 1177, 1186, 1200, 1219, 1243, 1252, 1266, 1285, 1309, 1328, 1352, 1381, 1415, 1424, 1438, 1447, 1461, 1465, 1474, 1478, 1487, 1496, 1510, 1514, 1523, 1532, 1546, 1555, 1569, 1575]
def ctL9 : Nat → ZC := fun n => if n = 65 then C_i10 else if n = 118 then C_i11 else if n = 66 then C_x_rock else if n = 165 then C_rock else if n = 67 then C_x_dig else if n = 167 then C_dig else if n = 68 then C_x_ofCell else if n = 168 then C_ofCell else if n = 69 then C_x_head else if n = 169 then C_head else if n = 71 then C_x_ofHead else if n = 170 then C_ofHead else if n = 72 then C_x_delay else if n = 171 then C_delay else if n = 73 then C_x_engineer else if n = 173 then C_engineer else if n = 74 then C_x_ofEngineer else if n = 174 then C_ofEngineer else if n = 75 then C_x_change else if n = 175 then C_change else if n = 76 then C_x_become else if n = 176 then C_become else if n = 77 then C_x_as else if n = 177 then C_as else if n = 78 then C_x_feed else if n = 147 then C_feed else if n = 79 then C_x_text else if n = 148 then C_text else if n = 80 then C_x_law else if n = 150 then C_law else if n = 81 then C_x_years else if n = 179 then C_years else if n = 82 then C_x_loose else if n = 181 then C_loose else if n = 83 then C_x_then else if n = 184 then C_then else if n = 84 then C_x_meets else if n = 185 then C_meets else if n = 85 then C_x_apart else if n = 187 then C_apart else if n = 86 then C_x_delayFor else if n = 188 then C_delayFor else if n = 87 then C_x_powerFor else if n = 189 then C_powerFor else if n = 88 then C_x_needless else if n = 190 then C_needless else if n = 89 then C_x_heard else if n = 192 then C_heard else if n = 90 then C_x_which else if n = 193 then C_which else if n = 91 then C_x_join else if n = 196 then C_join else if n = 92 then C_x_steps else if n = 197 then C_steps else if n = 93 then C_x_hand else if n = 199 then C_hand else if n = 94 then C_x_parts else if n = 200 then C_parts else if n = 95 then C_x_odds else if n = 202 then C_odds else if n = 96 then C_x_seed else if n = 182 then C_seed else if n = 97 then C_x_voice else if n = 208 then C_voice else if n = 98 then C_x_trace else if n = 209 then C_trace else if n = 99 then C_x_sheet else if n = 211 then C_sheet else if n = 100 then C_x_put else if n = 212 then C_put else if n = 101 then C_x_move else if n = 213 then C_move else if n = 102 then C_x_rocks else if n = 214 then C_rocks else if n = 103 then C_x_judge else if n = 215 then C_judge else if n = 104 then C_x_image else if n = 216 then C_image else if n = 105 then C_x_restore else if n = 217 then C_restore else if n = 106 then C_x_tell else if n = 218 then C_tell else if n = 107 then C_x_check else if n = 219 then C_check else if n = 108 then C_x_count else if n = 221 then C_count else if n = 109 then C_x_told else if n = 222 then C_told else fun _ _ _ => False
theorem ctL9_i10 {as : List ZV} {h : ZH} {post : Option ZV → ZH → Prop} : ctL9 65 as h post = C_i10 as h post := rfl
theorem ctL9_i11 {as : List ZV} {h : ZH} {post : Option ZV → ZH → Prop} : ctL9 118 as h post = C_i11 as h post := rfl
theorem ctL9_x_rock {as : List ZV} {h : ZH} {post : Option ZV → ZH → Prop} : ctL9 66 as h post = C_x_rock as h post := rfl
theorem ctL9_rock {as : List ZV} {h : ZH} {post : Option ZV → ZH → Prop} : ctL9 165 as h post = C_rock as h post := rfl
theorem ctL9_x_dig {as : List ZV} {h : ZH} {post : Option ZV → ZH → Prop} : ctL9 67 as h post = C_x_dig as h post := rfl
theorem ctL9_dig {as : List ZV} {h : ZH} {post : Option ZV → ZH → Prop} : ctL9 167 as h post = C_dig as h post := rfl
theorem ctL9_x_ofCell {as : List ZV} {h : ZH} {post : Option ZV → ZH → Prop} : ctL9 68 as h post = C_x_ofCell as h post := rfl
theorem ctL9_ofCell {as : List ZV} {h : ZH} {post : Option ZV → ZH → Prop} : ctL9 168 as h post = C_ofCell as h post := rfl
theorem ctL9_x_head {as : List ZV} {h : ZH} {post : Option ZV → ZH → Prop} : ctL9 69 as h post = C_x_head as h post := rfl
theorem ctL9_head {as : List ZV} {h : ZH} {post : Option ZV → ZH → Prop} : ctL9 169 as h post = C_head as h post := rfl
theorem ctL9_x_ofHead {as : List ZV} {h : ZH} {post : Option ZV → ZH → Prop} : ctL9 71 as h post = C_x_ofHead as h post := rfl
theorem ctL9_ofHead {as : List ZV} {h : ZH} {post : Option ZV → ZH → Prop} : ctL9 170 as h post = C_ofHead as h post := rfl
theorem ctL9_x_delay {as : List ZV} {h : ZH} {post : Option ZV → ZH → Prop} : ctL9 72 as h post = C_x_delay as h post := rfl
theorem ctL9_delay {as : List ZV} {h : ZH} {post : Option ZV → ZH → Prop} : ctL9 171 as h post = C_delay as h post := rfl
theorem ctL9_x_engineer {as : List ZV} {h : ZH} {post : Option ZV → ZH → Prop} : ctL9 73 as h post = C_x_engineer as h post := rfl
theorem ctL9_engineer {as : List ZV} {h : ZH} {post : Option ZV → ZH → Prop} : ctL9 173 as h post = C_engineer as h post := rfl
theorem ctL9_x_ofEngineer {as : List ZV} {h : ZH} {post : Option ZV → ZH → Prop} : ctL9 74 as h post = C_x_ofEngineer as h post := rfl
theorem ctL9_ofEngineer {as : List ZV} {h : ZH} {post : Option ZV → ZH → Prop} : ctL9 174 as h post = C_ofEngineer as h post := rfl
theorem ctL9_x_change {as : List ZV} {h : ZH} {post : Option ZV → ZH → Prop} : ctL9 75 as h post = C_x_change as h post := rfl
theorem ctL9_change {as : List ZV} {h : ZH} {post : Option ZV → ZH → Prop} : ctL9 175 as h post = C_change as h post := rfl
theorem ctL9_x_become {as : List ZV} {h : ZH} {post : Option ZV → ZH → Prop} : ctL9 76 as h post = C_x_become as h post := rfl
theorem ctL9_become {as : List ZV} {h : ZH} {post : Option ZV → ZH → Prop} : ctL9 176 as h post = C_become as h post := rfl
theorem ctL9_x_as {as : List ZV} {h : ZH} {post : Option ZV → ZH → Prop} : ctL9 77 as h post = C_x_as as h post := rfl
theorem ctL9_as {as : List ZV} {h : ZH} {post : Option ZV → ZH → Prop} : ctL9 177 as h post = C_as as h post := rfl
theorem ctL9_x_feed {as : List ZV} {h : ZH} {post : Option ZV → ZH → Prop} : ctL9 78 as h post = C_x_feed as h post := rfl
theorem ctL9_feed {as : List ZV} {h : ZH} {post : Option ZV → ZH → Prop} : ctL9 147 as h post = C_feed as h post := rfl
theorem ctL9_x_text {as : List ZV} {h : ZH} {post : Option ZV → ZH → Prop} : ctL9 79 as h post = C_x_text as h post := rfl
theorem ctL9_text {as : List ZV} {h : ZH} {post : Option ZV → ZH → Prop} : ctL9 148 as h post = C_text as h post := rfl
theorem ctL9_x_law {as : List ZV} {h : ZH} {post : Option ZV → ZH → Prop} : ctL9 80 as h post = C_x_law as h post := rfl
theorem ctL9_law {as : List ZV} {h : ZH} {post : Option ZV → ZH → Prop} : ctL9 150 as h post = C_law as h post := rfl
theorem ctL9_x_years {as : List ZV} {h : ZH} {post : Option ZV → ZH → Prop} : ctL9 81 as h post = C_x_years as h post := rfl
theorem ctL9_years {as : List ZV} {h : ZH} {post : Option ZV → ZH → Prop} : ctL9 179 as h post = C_years as h post := rfl
theorem ctL9_x_loose {as : List ZV} {h : ZH} {post : Option ZV → ZH → Prop} : ctL9 82 as h post = C_x_loose as h post := rfl
theorem ctL9_loose {as : List ZV} {h : ZH} {post : Option ZV → ZH → Prop} : ctL9 181 as h post = C_loose as h post := rfl
theorem ctL9_x_then {as : List ZV} {h : ZH} {post : Option ZV → ZH → Prop} : ctL9 83 as h post = C_x_then as h post := rfl
theorem ctL9_then {as : List ZV} {h : ZH} {post : Option ZV → ZH → Prop} : ctL9 184 as h post = C_then as h post := rfl
theorem ctL9_x_meets {as : List ZV} {h : ZH} {post : Option ZV → ZH → Prop} : ctL9 84 as h post = C_x_meets as h post := rfl
theorem ctL9_meets {as : List ZV} {h : ZH} {post : Option ZV → ZH → Prop} : ctL9 185 as h post = C_meets as h post := rfl
theorem ctL9_x_apart {as : List ZV} {h : ZH} {post : Option ZV → ZH → Prop} : ctL9 85 as h post = C_x_apart as h post := rfl
theorem ctL9_apart {as : List ZV} {h : ZH} {post : Option ZV → ZH → Prop} : ctL9 187 as h post = C_apart as h post := rfl
theorem ctL9_x_delayFor {as : List ZV} {h : ZH} {post : Option ZV → ZH → Prop} : ctL9 86 as h post = C_x_delayFor as h post := rfl
theorem ctL9_delayFor {as : List ZV} {h : ZH} {post : Option ZV → ZH → Prop} : ctL9 188 as h post = C_delayFor as h post := rfl
theorem ctL9_x_powerFor {as : List ZV} {h : ZH} {post : Option ZV → ZH → Prop} : ctL9 87 as h post = C_x_powerFor as h post := rfl
theorem ctL9_powerFor {as : List ZV} {h : ZH} {post : Option ZV → ZH → Prop} : ctL9 189 as h post = C_powerFor as h post := rfl
theorem ctL9_x_needless {as : List ZV} {h : ZH} {post : Option ZV → ZH → Prop} : ctL9 88 as h post = C_x_needless as h post := rfl
theorem ctL9_needless {as : List ZV} {h : ZH} {post : Option ZV → ZH → Prop} : ctL9 190 as h post = C_needless as h post := rfl
theorem ctL9_x_heard {as : List ZV} {h : ZH} {post : Option ZV → ZH → Prop} : ctL9 89 as h post = C_x_heard as h post := rfl
theorem ctL9_heard {as : List ZV} {h : ZH} {post : Option ZV → ZH → Prop} : ctL9 192 as h post = C_heard as h post := rfl
theorem ctL9_x_which {as : List ZV} {h : ZH} {post : Option ZV → ZH → Prop} : ctL9 90 as h post = C_x_which as h post := rfl
theorem ctL9_which {as : List ZV} {h : ZH} {post : Option ZV → ZH → Prop} : ctL9 193 as h post = C_which as h post := rfl
theorem ctL9_x_join {as : List ZV} {h : ZH} {post : Option ZV → ZH → Prop} : ctL9 91 as h post = C_x_join as h post := rfl
theorem ctL9_join {as : List ZV} {h : ZH} {post : Option ZV → ZH → Prop} : ctL9 196 as h post = C_join as h post := rfl
theorem ctL9_x_steps {as : List ZV} {h : ZH} {post : Option ZV → ZH → Prop} : ctL9 92 as h post = C_x_steps as h post := rfl
theorem ctL9_steps {as : List ZV} {h : ZH} {post : Option ZV → ZH → Prop} : ctL9 197 as h post = C_steps as h post := rfl
theorem ctL9_x_hand {as : List ZV} {h : ZH} {post : Option ZV → ZH → Prop} : ctL9 93 as h post = C_x_hand as h post := rfl
theorem ctL9_hand {as : List ZV} {h : ZH} {post : Option ZV → ZH → Prop} : ctL9 199 as h post = C_hand as h post := rfl
theorem ctL9_x_parts {as : List ZV} {h : ZH} {post : Option ZV → ZH → Prop} : ctL9 94 as h post = C_x_parts as h post := rfl
theorem ctL9_parts {as : List ZV} {h : ZH} {post : Option ZV → ZH → Prop} : ctL9 200 as h post = C_parts as h post := rfl
theorem ctL9_x_odds {as : List ZV} {h : ZH} {post : Option ZV → ZH → Prop} : ctL9 95 as h post = C_x_odds as h post := rfl
theorem ctL9_odds {as : List ZV} {h : ZH} {post : Option ZV → ZH → Prop} : ctL9 202 as h post = C_odds as h post := rfl
theorem ctL9_x_seed {as : List ZV} {h : ZH} {post : Option ZV → ZH → Prop} : ctL9 96 as h post = C_x_seed as h post := rfl
theorem ctL9_seed {as : List ZV} {h : ZH} {post : Option ZV → ZH → Prop} : ctL9 182 as h post = C_seed as h post := rfl
theorem ctL9_x_voice {as : List ZV} {h : ZH} {post : Option ZV → ZH → Prop} : ctL9 97 as h post = C_x_voice as h post := rfl
theorem ctL9_voice {as : List ZV} {h : ZH} {post : Option ZV → ZH → Prop} : ctL9 208 as h post = C_voice as h post := rfl
theorem ctL9_x_trace {as : List ZV} {h : ZH} {post : Option ZV → ZH → Prop} : ctL9 98 as h post = C_x_trace as h post := rfl
theorem ctL9_trace {as : List ZV} {h : ZH} {post : Option ZV → ZH → Prop} : ctL9 209 as h post = C_trace as h post := rfl
theorem ctL9_x_sheet {as : List ZV} {h : ZH} {post : Option ZV → ZH → Prop} : ctL9 99 as h post = C_x_sheet as h post := rfl
theorem ctL9_sheet {as : List ZV} {h : ZH} {post : Option ZV → ZH → Prop} : ctL9 211 as h post = C_sheet as h post := rfl
theorem ctL9_x_put {as : List ZV} {h : ZH} {post : Option ZV → ZH → Prop} : ctL9 100 as h post = C_x_put as h post := rfl
theorem ctL9_put {as : List ZV} {h : ZH} {post : Option ZV → ZH → Prop} : ctL9 212 as h post = C_put as h post := rfl
theorem ctL9_x_move {as : List ZV} {h : ZH} {post : Option ZV → ZH → Prop} : ctL9 101 as h post = C_x_move as h post := rfl
theorem ctL9_move {as : List ZV} {h : ZH} {post : Option ZV → ZH → Prop} : ctL9 213 as h post = C_move as h post := rfl
theorem ctL9_x_rocks {as : List ZV} {h : ZH} {post : Option ZV → ZH → Prop} : ctL9 102 as h post = C_x_rocks as h post := rfl
theorem ctL9_rocks {as : List ZV} {h : ZH} {post : Option ZV → ZH → Prop} : ctL9 214 as h post = C_rocks as h post := rfl
theorem ctL9_x_judge {as : List ZV} {h : ZH} {post : Option ZV → ZH → Prop} : ctL9 103 as h post = C_x_judge as h post := rfl
theorem ctL9_judge {as : List ZV} {h : ZH} {post : Option ZV → ZH → Prop} : ctL9 215 as h post = C_judge as h post := rfl
theorem ctL9_x_image {as : List ZV} {h : ZH} {post : Option ZV → ZH → Prop} : ctL9 104 as h post = C_x_image as h post := rfl
theorem ctL9_image {as : List ZV} {h : ZH} {post : Option ZV → ZH → Prop} : ctL9 216 as h post = C_image as h post := rfl
theorem ctL9_x_restore {as : List ZV} {h : ZH} {post : Option ZV → ZH → Prop} : ctL9 105 as h post = C_x_restore as h post := rfl
theorem ctL9_restore {as : List ZV} {h : ZH} {post : Option ZV → ZH → Prop} : ctL9 217 as h post = C_restore as h post := rfl
theorem ctL9_x_tell {as : List ZV} {h : ZH} {post : Option ZV → ZH → Prop} : ctL9 106 as h post = C_x_tell as h post := rfl
theorem ctL9_tell {as : List ZV} {h : ZH} {post : Option ZV → ZH → Prop} : ctL9 218 as h post = C_tell as h post := rfl
theorem ctL9_x_check {as : List ZV} {h : ZH} {post : Option ZV → ZH → Prop} : ctL9 107 as h post = C_x_check as h post := rfl
theorem ctL9_check {as : List ZV} {h : ZH} {post : Option ZV → ZH → Prop} : ctL9 219 as h post = C_check as h post := rfl
theorem ctL9_x_count {as : List ZV} {h : ZH} {post : Option ZV → ZH → Prop} : ctL9 108 as h post = C_x_count as h post := rfl
theorem ctL9_count {as : List ZV} {h : ZH} {post : Option ZV → ZH → Prop} : ctL9 221 as h post = C_count as h post := rfl
theorem ctL9_x_told {as : List ZV} {h : ZH} {post : Option ZV → ZH → Prop} : ctL9 109 as h post = C_x_told as h post := rfl
theorem ctL9_told {as : List ZV} {h : ZH} {post : Option ZV → ZH → Prop} : ctL9 222 as h post = C_told as h post := rfl
theorem ctL9_ok {E : ZE} (n : Nat) (as : List ZV) (h : ZH) (post : Option ZV → ZH → Prop) (hh : ctL9 n as h post) : zCall E 100 (zm n) (ctL9 n) := by
  unfold ctL9 at hh
  by_cases c : n = 65
  · subst c; exact ⟨gd_X10_init, 4, by omega, c_i10 (by omega)⟩
  rw [if_neg c] at hh
  by_cases c : n = 118
  · subst c; exact ⟨gd_X11_init, 2, by omega, c_i11 (by omega)⟩
  rw [if_neg c] at hh
  by_cases c : n = 66
  · subst c; exact ⟨gd_X10_rock, 2, by omega, c_x_rock (by omega)⟩
  rw [if_neg c] at hh
  by_cases c : n = 165
  · subst c; exact ⟨gd_X11_rock, 3, by omega, c_rock (by omega)⟩
  rw [if_neg c] at hh
  by_cases c : n = 67
  · subst c; exact ⟨gd_X10_dig, 2, by omega, c_x_dig (by omega)⟩
  rw [if_neg c] at hh
  by_cases c : n = 167
  · subst c; exact ⟨gd_X11_dig, 3, by omega, c_dig (by omega)⟩
  rw [if_neg c] at hh
  by_cases c : n = 68
  · subst c; exact ⟨gd_X10_ofCell, 2, by omega, c_x_ofCell (by omega)⟩
  rw [if_neg c] at hh
  by_cases c : n = 168
  · subst c; exact ⟨gd_X11_ofCell, 3, by omega, c_ofCell (by omega)⟩
  rw [if_neg c] at hh
  by_cases c : n = 69
  · subst c; exact ⟨gd_X10_head, 2, by omega, c_x_head (by omega)⟩
  rw [if_neg c] at hh
  by_cases c : n = 169
  · subst c; exact ⟨gd_X11_head, 3, by omega, c_head (by omega)⟩
  rw [if_neg c] at hh
  by_cases c : n = 71
  · subst c; exact ⟨gd_X10_ofHead, 5, by omega, c_x_ofHead (by omega)⟩
  rw [if_neg c] at hh
  by_cases c : n = 170
  · subst c; exact ⟨gd_X11_ofHead, 7, by omega, c_ofHead (by omega)⟩
  rw [if_neg c] at hh
  by_cases c : n = 72
  · subst c; exact ⟨gd_X10_delay, 2, by omega, c_x_delay (by omega)⟩
  rw [if_neg c] at hh
  by_cases c : n = 171
  · subst c; exact ⟨gd_X11_delay, 2, by omega, c_delay (by omega)⟩
  rw [if_neg c] at hh
  by_cases c : n = 73
  · subst c; exact ⟨gd_X10_engineer, 2, by omega, c_x_engineer (by omega)⟩
  rw [if_neg c] at hh
  by_cases c : n = 173
  · subst c; exact ⟨gd_X11_engineer, 3, by omega, c_engineer (by omega)⟩
  rw [if_neg c] at hh
  by_cases c : n = 74
  · subst c; exact ⟨gd_X10_ofEngineer, 4, by omega, c_x_ofEngineer (by omega)⟩
  rw [if_neg c] at hh
  by_cases c : n = 174
  · subst c; exact ⟨gd_X11_ofEngineer, 6, by omega, c_ofEngineer (by omega)⟩
  rw [if_neg c] at hh
  by_cases c : n = 75
  · subst c; exact ⟨gd_X10_change, 3, by omega, c_x_change (by omega)⟩
  rw [if_neg c] at hh
  by_cases c : n = 175
  · subst c; exact ⟨gd_X11_change, 3, by omega, c_change (by omega)⟩
  rw [if_neg c] at hh
  by_cases c : n = 76
  · subst c; exact ⟨gd_X10_become, 3, by omega, c_x_become (by omega)⟩
  rw [if_neg c] at hh
  by_cases c : n = 176
  · subst c; exact ⟨gd_X11_become, 3, by omega, c_become (by omega)⟩
  rw [if_neg c] at hh
  by_cases c : n = 77
  · subst c; exact ⟨gd_X10_as, 3, by omega, c_x_as (by omega)⟩
  rw [if_neg c] at hh
  by_cases c : n = 177
  · subst c; exact ⟨gd_X11_as, 3, by omega, c_as (by omega)⟩
  rw [if_neg c] at hh
  by_cases c : n = 78
  · subst c; exact ⟨gd_X10_feed, 2, by omega, c_x_feed (by omega)⟩
  rw [if_neg c] at hh
  by_cases c : n = 147
  · subst c; exact ⟨gd_X11_feed, 2, by omega, c_feed (by omega)⟩
  rw [if_neg c] at hh
  by_cases c : n = 79
  · subst c; exact ⟨gd_X10_text, 48, by omega, c_x_text (by omega)⟩
  rw [if_neg c] at hh
  by_cases c : n = 148
  · subst c; exact ⟨gd_X11_text, 46, by omega, c_text (by omega)⟩
  rw [if_neg c] at hh
  by_cases c : n = 80
  · subst c; exact ⟨gd_X10_law, 3, by omega, c_x_law (by omega)⟩
  rw [if_neg c] at hh
  by_cases c : n = 150
  · subst c; exact ⟨gd_X11_law, 4, by omega, c_law (by omega)⟩
  rw [if_neg c] at hh
  by_cases c : n = 81
  · subst c; exact ⟨gd_X10_years, 6, by omega, c_x_years (by omega)⟩
  rw [if_neg c] at hh
  by_cases c : n = 179
  · subst c; exact ⟨gd_X11_years, 9, by omega, c_years (by omega)⟩
  rw [if_neg c] at hh
  by_cases c : n = 82
  · subst c; exact ⟨gd_X10_loose, 6, by omega, c_x_loose (by omega)⟩
  rw [if_neg c] at hh
  by_cases c : n = 181
  · subst c; exact ⟨gd_X11_loose, 8, by omega, c_loose (by omega)⟩
  rw [if_neg c] at hh
  by_cases c : n = 83
  · subst c; exact ⟨gd_X10_then, 7, by omega, c_x_then (by omega)⟩
  rw [if_neg c] at hh
  by_cases c : n = 184
  · subst c; exact ⟨gd_X11_then, 9, by omega, c_then (by omega)⟩
  rw [if_neg c] at hh
  by_cases c : n = 84
  · subst c; exact ⟨gd_X10_meets, 6, by omega, c_x_meets (by omega)⟩
  rw [if_neg c] at hh
  by_cases c : n = 185
  · subst c; exact ⟨gd_X11_meets, 8, by omega, c_meets (by omega)⟩
  rw [if_neg c] at hh
  by_cases c : n = 85
  · subst c; exact ⟨gd_X10_apart, 7, by omega, c_x_apart (by omega)⟩
  rw [if_neg c] at hh
  by_cases c : n = 187
  · subst c; exact ⟨gd_X11_apart, 10, by omega, c_apart (by omega)⟩
  rw [if_neg c] at hh
  by_cases c : n = 86
  · subst c; exact ⟨gd_X10_delayFor, 7, by omega, c_x_delayFor (by omega)⟩
  rw [if_neg c] at hh
  by_cases c : n = 188
  · subst c; exact ⟨gd_X11_delayFor, 10, by omega, c_delayFor (by omega)⟩
  rw [if_neg c] at hh
  by_cases c : n = 87
  · subst c; exact ⟨gd_X10_powerFor, 7, by omega, c_x_powerFor (by omega)⟩
  rw [if_neg c] at hh
  by_cases c : n = 189
  · subst c; exact ⟨gd_X11_powerFor, 10, by omega, c_powerFor (by omega)⟩
  rw [if_neg c] at hh
  by_cases c : n = 88
  · subst c; exact ⟨gd_X10_needless, 7, by omega, c_x_needless (by omega)⟩
  rw [if_neg c] at hh
  by_cases c : n = 190
  · subst c; exact ⟨gd_X11_needless, 10, by omega, c_needless (by omega)⟩
  rw [if_neg c] at hh
  by_cases c : n = 89
  · subst c; exact ⟨gd_X10_heard, 7, by omega, c_x_heard (by omega)⟩
  rw [if_neg c] at hh
  by_cases c : n = 192
  · subst c; exact ⟨gd_X11_heard, 9, by omega, c_heard (by omega)⟩
  rw [if_neg c] at hh
  by_cases c : n = 90
  · subst c; exact ⟨gd_X10_which, 7, by omega, c_x_which (by omega)⟩
  rw [if_neg c] at hh
  by_cases c : n = 193
  · subst c; exact ⟨gd_X11_which, 9, by omega, c_which (by omega)⟩
  rw [if_neg c] at hh
  by_cases c : n = 91
  · subst c; exact ⟨gd_X10_join, 3, by omega, c_x_join (by omega)⟩
  rw [if_neg c] at hh
  by_cases c : n = 196
  · subst c; exact ⟨gd_X11_join, 3, by omega, c_join (by omega)⟩
  rw [if_neg c] at hh
  by_cases c : n = 92
  · subst c; exact ⟨gd_X10_steps, 4, by omega, c_x_steps (by omega)⟩
  rw [if_neg c] at hh
  by_cases c : n = 197
  · subst c; exact ⟨gd_X11_steps, 3, by omega, c_steps (by omega)⟩
  rw [if_neg c] at hh
  by_cases c : n = 93
  · subst c; exact ⟨gd_X10_hand, 4, by omega, c_x_hand (by omega)⟩
  rw [if_neg c] at hh
  by_cases c : n = 199
  · subst c; exact ⟨gd_X11_hand, 3, by omega, c_hand (by omega)⟩
  rw [if_neg c] at hh
  by_cases c : n = 94
  · subst c; exact ⟨gd_X10_parts, 4, by omega, c_x_parts (by omega)⟩
  rw [if_neg c] at hh
  by_cases c : n = 200
  · subst c; exact ⟨gd_X11_parts, 3, by omega, c_parts (by omega)⟩
  rw [if_neg c] at hh
  by_cases c : n = 95
  · subst c; exact ⟨gd_X10_odds, 7, by omega, c_x_odds (by omega)⟩
  rw [if_neg c] at hh
  by_cases c : n = 202
  · subst c; exact ⟨gd_X11_odds, 10, by omega, c_odds (by omega)⟩
  rw [if_neg c] at hh
  by_cases c : n = 96
  · subst c; exact ⟨gd_X10_seed, 1, by omega, c_x_seed (by omega)⟩
  rw [if_neg c] at hh
  by_cases c : n = 182
  · subst c; exact ⟨gd_X11_seed, 2, by omega, c_seed (by omega)⟩
  rw [if_neg c] at hh
  by_cases c : n = 97
  · subst c; exact ⟨gd_X10_voice, 20, by omega, c_x_voice (by omega)⟩
  rw [if_neg c] at hh
  by_cases c : n = 208
  · subst c; exact ⟨gd_X11_voice, 11, by omega, c_voice (by omega)⟩
  rw [if_neg c] at hh
  by_cases c : n = 98
  · subst c; exact ⟨gd_X10_trace, 2, by omega, c_x_trace (by omega)⟩
  rw [if_neg c] at hh
  by_cases c : n = 209
  · subst c; exact ⟨gd_X11_trace, 2, by omega, c_trace (by omega)⟩
  rw [if_neg c] at hh
  by_cases c : n = 99
  · subst c; exact ⟨gd_X10_sheet, 3, by omega, c_x_sheet (by omega)⟩
  rw [if_neg c] at hh
  by_cases c : n = 211
  · subst c; exact ⟨gd_X11_sheet, 3, by omega, c_sheet (by omega)⟩
  rw [if_neg c] at hh
  by_cases c : n = 100
  · subst c; exact ⟨gd_X10_put, 2, by omega, c_x_put (by omega)⟩
  rw [if_neg c] at hh
  by_cases c : n = 212
  · subst c; exact ⟨gd_X11_put, 3, by omega, c_put (by omega)⟩
  rw [if_neg c] at hh
  by_cases c : n = 101
  · subst c; exact ⟨gd_X10_move, 2, by omega, c_x_move (by omega)⟩
  rw [if_neg c] at hh
  by_cases c : n = 213
  · subst c; exact ⟨gd_X11_move, 3, by omega, c_move (by omega)⟩
  rw [if_neg c] at hh
  by_cases c : n = 102
  · subst c; exact ⟨gd_X10_rocks, 2, by omega, c_x_rocks (by omega)⟩
  rw [if_neg c] at hh
  by_cases c : n = 214
  · subst c; exact ⟨gd_X11_rocks, 3, by omega, c_rocks (by omega)⟩
  rw [if_neg c] at hh
  by_cases c : n = 103
  · subst c; exact ⟨gd_X10_judge, 2, by omega, c_x_judge (by omega)⟩
  rw [if_neg c] at hh
  by_cases c : n = 215
  · subst c; exact ⟨gd_X11_judge, 3, by omega, c_judge (by omega)⟩
  rw [if_neg c] at hh
  by_cases c : n = 104
  · subst c; exact ⟨gd_X10_image, 3, by omega, c_x_image (by omega)⟩
  rw [if_neg c] at hh
  by_cases c : n = 216
  · subst c; exact ⟨gd_X11_image, 1, by omega, c_image (by omega)⟩
  rw [if_neg c] at hh
  by_cases c : n = 105
  · subst c; exact ⟨gd_X10_restore, 3, by omega, c_x_restore (by omega)⟩
  rw [if_neg c] at hh
  by_cases c : n = 217
  · subst c; exact ⟨gd_X11_restore, 2, by omega, c_restore (by omega)⟩
  rw [if_neg c] at hh
  by_cases c : n = 106
  · subst c; exact ⟨gd_X10_tell, 2, by omega, c_x_tell (by omega)⟩
  rw [if_neg c] at hh
  by_cases c : n = 218
  · subst c; exact ⟨gd_X11_tell, 2, by omega, c_tell (by omega)⟩
  rw [if_neg c] at hh
  by_cases c : n = 107
  · subst c; exact ⟨gd_X10_check, 6, by omega, c_x_check (by omega)⟩
  rw [if_neg c] at hh
  by_cases c : n = 219
  · subst c; exact ⟨gd_X11_check, 8, by omega, c_check (by omega)⟩
  rw [if_neg c] at hh
  by_cases c : n = 108
  · subst c; exact ⟨gd_X10_count, 3, by omega, c_x_count (by omega)⟩
  rw [if_neg c] at hh
  by_cases c : n = 221
  · subst c; exact ⟨gd_X11_count, 4, by omega, c_count (by omega)⟩
  rw [if_neg c] at hh
  by_cases c : n = 109
  · subst c; exact ⟨gd_X10_told, 2, by omega, c_x_told (by omega)⟩
  rw [if_neg c] at hh
  by_cases c : n = 222
  · subst c; exact ⟨gd_X11_told, 2, by omega, c_told (by omega)⟩
  rw [if_neg c] at hh
  exact hh.elim
def Lin (n : Int) (M : ZMm) : Prop := Inq n (st M) ∧ Rc (st M) M ∧ M 87 15 = -1
def LX (X : ZK) (pc i : Nat) (st : List ZV) (M : ZMm) : Prop := X pc [some (.inr (.inr (.inr 3))), some (.inr (.inr (.inl 0))), some (.inr (.inr (.inl 87))), some (.inl (i : Int))] st (zG, M) (0, 0)
def Scr (E : ZE) (i : Nat) (xs : Nat → Int) : Prop := (∀ (M : ZMm) (r : List ZV) (kk : List ZV → Prop), zal E (zG, M) false (.inl ((i : Int) + 1) :: .inr (.inr (.inr 3)) :: r) kk = kk (.inl (xs (i + 1)) :: r)) ∧ (∀ (M : ZMm) (r : List ZV) (kk : List ZV → Prop), zal E (zG, M) false (.inl ((i : Int) + 2) :: .inr (.inr (.inr 3)) :: r) kk = kk (.inl (xs (i + 2)) :: r)) ∧ (∀ (M : ZMm) (r : List ZV) (kk : List ZV → Prop), zal E (zG, M) false (.inl ((i : Int) + 3) :: .inr (.inr (.inr 3)) :: r) kk = kk (.inl (xs (i + 3)) :: r)) ∧ (∀ (M : ZMm) (r : List ZV) (kk : List ZV → Prop), zal E (zG, M) false (.inl ((i : Int) + 4) :: .inr (.inr (.inr 3)) :: r) kk = kk (.inl (xs (i + 4)) :: r)) ∧ (∀ (M : ZMm) (r : List ZV) (kk : List ZV → Prop), zal E (zG, M) false (.inl ((i : Int) + 5) :: .inr (.inr (.inr 3)) :: r) kk = kk (.inl (xs (i + 5)) :: r))
theorem st_eq {M M2 : ZMm} (h : ∀ x, 87 ≤ x → M2 x = M x) : st M2 = st M := by
  funext x k
  unfold st
  by_cases q : 87 ≤ x
  · rw [h x q]
  · have e : kpt x k = false := by
      unfold kpt
      simp
      omega
    rw [e]
    rfl
theorem L_fin {n : Int} {S M2 M' : ZMm} {R : Int × ZMm} (i : Inq (n + 1) R.2) (r : Rc R.2 M2) (e1 : st M' = R.2) (e2 : M' 87 15 = -1) (e3 : ∀ x, x < 87 → M' x = M2 x) : Lin (n + 1) M' := by
  unfold Lin
  rw [e1]
  exact ⟨i, Rc_same r i.1.1 (fun x p _ _ => e3 x (by omega)), e2⟩
theorem lc_rock {E : ZE} {X : ZK} {Rt : ZR} (hX : zCl E zlaw 13 false ctL9 Rt X) {i : Nat} {xs : Nat → Int} (s9 : Scr E i xs) (hr : ∀ j, rg (xs j)) {n : Int} (hn : n < 4000) {M : ZMm} (hM : Lin n M) (nx : ∀ M2 : ZMm, Lin (n + 1) M2 → LX X 1569 i [] M2) : LX X 220 i [] M := by
  obtain ⟨s1, s2, s3, s4, s5⟩ := s9
  obtain ⟨h1, h2, h3⟩ := hM
  obtain ⟨S, hS⟩ : ∃ S, st M = S := ⟨_, rfl⟩
  rw [hS] at h1 h2
  have J : ∀ M2 : ZMm, Rc (R_rock S (xs (i + 1)) (xs (i + 2))).2 M2 → (∀ x, 87 ≤ x → M2 x = M x) → LX X 234 i [.inl (R_rock S (xs (i + 1)) (xs (i + 2))).1] M2 := by
    intro M2 r2 f2
    have eS : st M2 = S := (st_eq f2).trans hS
    refine bs_L_law_234 hX ?_
    simp only [bk_L_law_234, k_L_law_234, ↓e_rk1, ↓e_rk0, ↓e_sk0, ↓e_sks, ↓e_ldi0, ↓e_ldis, ↓e_ldl0, ↓e_ldls, ↓e_lda0, ↓e_ldas, ↓e_ok0, ↓e_okss, ↓e_ok1i, ↓e_ok1r, ↓e_ok1n, ↓e_sti, ↓e_sta, ↓e_1, ↓e_2, ↓e_l1, ↓e_l2, ↓e_li, ↓e_sw0, ↓e_sws, ↓e_ceq, ↓e_cne, ↓e_clt, ↓e_cge, ↓e_cgt, ↓e_cle, ↓e_nil, ↓e_cons, ↓e_iconst, ↓e_bipush, ↓e_sipush, ↓e_ldc, ↓e_ldcw, ↓e_ldc2, ↓e_lconst, ↓e_iloadn, ↓e_iload, ↓e_lloadn, ↓e_lload, ↓e_aloadn, ↓e_aload, ↓e_istoren, ↓e_istore, ↓e_astoren, ↓e_astore, ↓e_add, ↓e_iinc, ↓e_iadd, ↓e_isub, ↓e_imul, ↓e_iand, ↓e_ior, ↓e_ixor, ↓e_ishl, ↓e_iushr, ↓e_idiv, ↓e_irem, ↓e_ineg, ↓e_i2l, ↓e_i2b, ↓e_i2s, ↓e_l2i, ↓e_land, ↓e_lor, ↓e_lshl, ↓e_lshr, ↓e_lushr, ↓e_lcmp, ↓e_dupi, ↓e_dupr, ↓e_popi, ↓e_dup2, ↓e_goto, ↓e_if, ↓e_icmp, ↓e_tsw, ↓e_lsw, ↓e_getf, ↓e_putf, ↓e_gets, ↓e_iald, ↓e_cald, ↓e_iast, ↓e_aald, ↓e_aast, ↓e_len, ↓e_copy, ↓e_abs, ↓e_max, ↓e_min, ↓e_iret, ↓e_aret, ↓e_vret, ↓e_is0, ↓e_is1, ↓e_is2, ↓e_is3, ↓e_is4, ↓e_iv1, ↓e_iv2, ↓e_iv3, ↓e_iv4, ↓e_iv5, ↓e_iv6, ↓reduceIte, Nat.reduceAdd, Nat.reduceEqDiff, ↓zcl0, ↓zclv, List.map_nil, List.sum_nil, List.map_cons, List.sum_cons, zcat, true_and, and_true, Nat.reduceLeDiff, eq_self, forall_const, implies_true, not_true_eq_false, false_implies, v_0, v_87, ↓v_0, ↓v_87, ↓s1, ↓s2, ↓s3, ↓s4, ↓s5, ↓ctL9_rock, ↓r_rock, ↓B_rock, ↓pub, eS]
    repeat (refine And.intro (hr _) ?_)
    refine ⟨h1.1, by rw [f2 87 (by omega)]; exact h3, fun M3 e1 e2 e3 => ?_⟩
    exact nx M3 (L_fin (S := S) (R := R_rock S (xs (i + 1)) (xs (i + 2))) (I_rock h1) r2 e1 e2 e3)
  refine bs_L_law_220 hX ?_
  simp only [bk_L_law_220, k_L_law_220, ↓e_rk1, ↓e_rk0, ↓e_sk0, ↓e_sks, ↓e_ldi0, ↓e_ldis, ↓e_ldl0, ↓e_ldls, ↓e_lda0, ↓e_ldas, ↓e_ok0, ↓e_okss, ↓e_ok1i, ↓e_ok1r, ↓e_ok1n, ↓e_sti, ↓e_sta, ↓e_1, ↓e_2, ↓e_l1, ↓e_l2, ↓e_li, ↓e_sw0, ↓e_sws, ↓e_ceq, ↓e_cne, ↓e_clt, ↓e_cge, ↓e_cgt, ↓e_cle, ↓e_nil, ↓e_cons, ↓e_iconst, ↓e_bipush, ↓e_sipush, ↓e_ldc, ↓e_ldcw, ↓e_ldc2, ↓e_lconst, ↓e_iloadn, ↓e_iload, ↓e_lloadn, ↓e_lload, ↓e_aloadn, ↓e_aload, ↓e_istoren, ↓e_istore, ↓e_astoren, ↓e_astore, ↓e_add, ↓e_iinc, ↓e_iadd, ↓e_isub, ↓e_imul, ↓e_iand, ↓e_ior, ↓e_ixor, ↓e_ishl, ↓e_iushr, ↓e_idiv, ↓e_irem, ↓e_ineg, ↓e_i2l, ↓e_i2b, ↓e_i2s, ↓e_l2i, ↓e_land, ↓e_lor, ↓e_lshl, ↓e_lshr, ↓e_lushr, ↓e_lcmp, ↓e_dupi, ↓e_dupr, ↓e_popi, ↓e_dup2, ↓e_goto, ↓e_if, ↓e_icmp, ↓e_tsw, ↓e_lsw, ↓e_getf, ↓e_putf, ↓e_gets, ↓e_iald, ↓e_cald, ↓e_iast, ↓e_aald, ↓e_aast, ↓e_len, ↓e_copy, ↓e_abs, ↓e_max, ↓e_min, ↓e_iret, ↓e_aret, ↓e_vret, ↓e_is0, ↓e_is1, ↓e_is2, ↓e_is3, ↓e_is4, ↓e_iv1, ↓e_iv2, ↓e_iv3, ↓e_iv4, ↓e_iv5, ↓e_iv6, ↓reduceIte, Nat.reduceAdd, Nat.reduceEqDiff, ↓zcl0, ↓zclv, List.map_nil, List.sum_nil, List.map_cons, List.sum_cons, zcat, true_and, and_true, Nat.reduceLeDiff, eq_self, forall_const, implies_true, not_true_eq_false, false_implies, v_0, v_87, ↓v_0, ↓v_87, ↓s1, ↓s2, ↓s3, ↓s4, ↓s5, ↓ctL9_x_rock, ↓r_x_rock, ↓B_x_rock]
  repeat (refine And.intro (hr _) ?_)
  exact ⟨S, h1.1, h2, fun M2 r2 f2 => J M2 r2 f2⟩
theorem lc_dig {E : ZE} {X : ZK} {Rt : ZR} (hX : zCl E zlaw 13 false ctL9 Rt X) {i : Nat} {xs : Nat → Int} (s9 : Scr E i xs) (hr : ∀ j, rg (xs j)) {n : Int} (hn : n < 4000) {M : ZMm} (hM : Lin n M) (nx : ∀ M2 : ZMm, Lin (n + 1) M2 → LX X 1569 i [] M2) : LX X 253 i [] M := by
  obtain ⟨s1, s2, s3, s4, s5⟩ := s9
  obtain ⟨h1, h2, h3⟩ := hM
  obtain ⟨S, hS⟩ : ∃ S, st M = S := ⟨_, rfl⟩
  rw [hS] at h1 h2
  have J : ∀ M2 : ZMm, Rc (R_dig S (xs (i + 1)) (xs (i + 2))).2 M2 → (∀ x, 87 ≤ x → M2 x = M x) → LX X 267 i [.inl (R_dig S (xs (i + 1)) (xs (i + 2))).1] M2 := by
    intro M2 r2 f2
    have eS : st M2 = S := (st_eq f2).trans hS
    refine bs_L_law_267 hX ?_
    simp only [bk_L_law_267, k_L_law_267, ↓e_rk1, ↓e_rk0, ↓e_sk0, ↓e_sks, ↓e_ldi0, ↓e_ldis, ↓e_ldl0, ↓e_ldls, ↓e_lda0, ↓e_ldas, ↓e_ok0, ↓e_okss, ↓e_ok1i, ↓e_ok1r, ↓e_ok1n, ↓e_sti, ↓e_sta, ↓e_1, ↓e_2, ↓e_l1, ↓e_l2, ↓e_li, ↓e_sw0, ↓e_sws, ↓e_ceq, ↓e_cne, ↓e_clt, ↓e_cge, ↓e_cgt, ↓e_cle, ↓e_nil, ↓e_cons, ↓e_iconst, ↓e_bipush, ↓e_sipush, ↓e_ldc, ↓e_ldcw, ↓e_ldc2, ↓e_lconst, ↓e_iloadn, ↓e_iload, ↓e_lloadn, ↓e_lload, ↓e_aloadn, ↓e_aload, ↓e_istoren, ↓e_istore, ↓e_astoren, ↓e_astore, ↓e_add, ↓e_iinc, ↓e_iadd, ↓e_isub, ↓e_imul, ↓e_iand, ↓e_ior, ↓e_ixor, ↓e_ishl, ↓e_iushr, ↓e_idiv, ↓e_irem, ↓e_ineg, ↓e_i2l, ↓e_i2b, ↓e_i2s, ↓e_l2i, ↓e_land, ↓e_lor, ↓e_lshl, ↓e_lshr, ↓e_lushr, ↓e_lcmp, ↓e_dupi, ↓e_dupr, ↓e_popi, ↓e_dup2, ↓e_goto, ↓e_if, ↓e_icmp, ↓e_tsw, ↓e_lsw, ↓e_getf, ↓e_putf, ↓e_gets, ↓e_iald, ↓e_cald, ↓e_iast, ↓e_aald, ↓e_aast, ↓e_len, ↓e_copy, ↓e_abs, ↓e_max, ↓e_min, ↓e_iret, ↓e_aret, ↓e_vret, ↓e_is0, ↓e_is1, ↓e_is2, ↓e_is3, ↓e_is4, ↓e_iv1, ↓e_iv2, ↓e_iv3, ↓e_iv4, ↓e_iv5, ↓e_iv6, ↓reduceIte, Nat.reduceAdd, Nat.reduceEqDiff, ↓zcl0, ↓zclv, List.map_nil, List.sum_nil, List.map_cons, List.sum_cons, zcat, true_and, and_true, Nat.reduceLeDiff, eq_self, forall_const, implies_true, not_true_eq_false, false_implies, v_0, v_87, ↓v_0, ↓v_87, ↓s1, ↓s2, ↓s3, ↓s4, ↓s5, ↓ctL9_dig, ↓r_dig, ↓B_dig, ↓pub, eS]
    repeat (refine And.intro (hr _) ?_)
    refine ⟨h1.1, by rw [f2 87 (by omega)]; exact h3, fun M3 e1 e2 e3 => ?_⟩
    exact nx M3 (L_fin (S := S) (R := R_dig S (xs (i + 1)) (xs (i + 2))) (I_dig h1) r2 e1 e2 e3)
  refine bs_L_law_253 hX ?_
  simp only [bk_L_law_253, k_L_law_253, ↓e_rk1, ↓e_rk0, ↓e_sk0, ↓e_sks, ↓e_ldi0, ↓e_ldis, ↓e_ldl0, ↓e_ldls, ↓e_lda0, ↓e_ldas, ↓e_ok0, ↓e_okss, ↓e_ok1i, ↓e_ok1r, ↓e_ok1n, ↓e_sti, ↓e_sta, ↓e_1, ↓e_2, ↓e_l1, ↓e_l2, ↓e_li, ↓e_sw0, ↓e_sws, ↓e_ceq, ↓e_cne, ↓e_clt, ↓e_cge, ↓e_cgt, ↓e_cle, ↓e_nil, ↓e_cons, ↓e_iconst, ↓e_bipush, ↓e_sipush, ↓e_ldc, ↓e_ldcw, ↓e_ldc2, ↓e_lconst, ↓e_iloadn, ↓e_iload, ↓e_lloadn, ↓e_lload, ↓e_aloadn, ↓e_aload, ↓e_istoren, ↓e_istore, ↓e_astoren, ↓e_astore, ↓e_add, ↓e_iinc, ↓e_iadd, ↓e_isub, ↓e_imul, ↓e_iand, ↓e_ior, ↓e_ixor, ↓e_ishl, ↓e_iushr, ↓e_idiv, ↓e_irem, ↓e_ineg, ↓e_i2l, ↓e_i2b, ↓e_i2s, ↓e_l2i, ↓e_land, ↓e_lor, ↓e_lshl, ↓e_lshr, ↓e_lushr, ↓e_lcmp, ↓e_dupi, ↓e_dupr, ↓e_popi, ↓e_dup2, ↓e_goto, ↓e_if, ↓e_icmp, ↓e_tsw, ↓e_lsw, ↓e_getf, ↓e_putf, ↓e_gets, ↓e_iald, ↓e_cald, ↓e_iast, ↓e_aald, ↓e_aast, ↓e_len, ↓e_copy, ↓e_abs, ↓e_max, ↓e_min, ↓e_iret, ↓e_aret, ↓e_vret, ↓e_is0, ↓e_is1, ↓e_is2, ↓e_is3, ↓e_is4, ↓e_iv1, ↓e_iv2, ↓e_iv3, ↓e_iv4, ↓e_iv5, ↓e_iv6, ↓reduceIte, Nat.reduceAdd, Nat.reduceEqDiff, ↓zcl0, ↓zclv, List.map_nil, List.sum_nil, List.map_cons, List.sum_cons, zcat, true_and, and_true, Nat.reduceLeDiff, eq_self, forall_const, implies_true, not_true_eq_false, false_implies, v_0, v_87, ↓v_0, ↓v_87, ↓s1, ↓s2, ↓s3, ↓s4, ↓s5, ↓ctL9_x_dig, ↓r_x_dig, ↓B_x_dig]
  repeat (refine And.intro (hr _) ?_)
  exact ⟨S, h1.1, h2, fun M2 r2 f2 => J M2 r2 f2⟩
theorem lc_ofCell {E : ZE} {X : ZK} {Rt : ZR} (hX : zCl E zlaw 13 false ctL9 Rt X) {i : Nat} {xs : Nat → Int} (s9 : Scr E i xs) (hr : ∀ j, rg (xs j)) {n : Int} (hn : n < 4000) {M : ZMm} (hM : Lin n M) (nx : ∀ M2 : ZMm, Lin (n + 1) M2 → LX X 1569 i [] M2) : LX X 286 i [] M := by
  obtain ⟨s1, s2, s3, s4, s5⟩ := s9
  obtain ⟨h1, h2, h3⟩ := hM
  obtain ⟨S, hS⟩ : ∃ S, st M = S := ⟨_, rfl⟩
  rw [hS] at h1 h2
  have J : ∀ M2 : ZMm, Rc (R_ofCell S (xs (i + 1)) (xs (i + 2))).2 M2 → (∀ x, 87 ≤ x → M2 x = M x) → LX X 300 i [.inl (R_ofCell S (xs (i + 1)) (xs (i + 2))).1] M2 := by
    intro M2 r2 f2
    have eS : st M2 = S := (st_eq f2).trans hS
    refine bs_L_law_300 hX ?_
    simp only [bk_L_law_300, k_L_law_300, ↓e_rk1, ↓e_rk0, ↓e_sk0, ↓e_sks, ↓e_ldi0, ↓e_ldis, ↓e_ldl0, ↓e_ldls, ↓e_lda0, ↓e_ldas, ↓e_ok0, ↓e_okss, ↓e_ok1i, ↓e_ok1r, ↓e_ok1n, ↓e_sti, ↓e_sta, ↓e_1, ↓e_2, ↓e_l1, ↓e_l2, ↓e_li, ↓e_sw0, ↓e_sws, ↓e_ceq, ↓e_cne, ↓e_clt, ↓e_cge, ↓e_cgt, ↓e_cle, ↓e_nil, ↓e_cons, ↓e_iconst, ↓e_bipush, ↓e_sipush, ↓e_ldc, ↓e_ldcw, ↓e_ldc2, ↓e_lconst, ↓e_iloadn, ↓e_iload, ↓e_lloadn, ↓e_lload, ↓e_aloadn, ↓e_aload, ↓e_istoren, ↓e_istore, ↓e_astoren, ↓e_astore, ↓e_add, ↓e_iinc, ↓e_iadd, ↓e_isub, ↓e_imul, ↓e_iand, ↓e_ior, ↓e_ixor, ↓e_ishl, ↓e_iushr, ↓e_idiv, ↓e_irem, ↓e_ineg, ↓e_i2l, ↓e_i2b, ↓e_i2s, ↓e_l2i, ↓e_land, ↓e_lor, ↓e_lshl, ↓e_lshr, ↓e_lushr, ↓e_lcmp, ↓e_dupi, ↓e_dupr, ↓e_popi, ↓e_dup2, ↓e_goto, ↓e_if, ↓e_icmp, ↓e_tsw, ↓e_lsw, ↓e_getf, ↓e_putf, ↓e_gets, ↓e_iald, ↓e_cald, ↓e_iast, ↓e_aald, ↓e_aast, ↓e_len, ↓e_copy, ↓e_abs, ↓e_max, ↓e_min, ↓e_iret, ↓e_aret, ↓e_vret, ↓e_is0, ↓e_is1, ↓e_is2, ↓e_is3, ↓e_is4, ↓e_iv1, ↓e_iv2, ↓e_iv3, ↓e_iv4, ↓e_iv5, ↓e_iv6, ↓reduceIte, Nat.reduceAdd, Nat.reduceEqDiff, ↓zcl0, ↓zclv, List.map_nil, List.sum_nil, List.map_cons, List.sum_cons, zcat, true_and, and_true, Nat.reduceLeDiff, eq_self, forall_const, implies_true, not_true_eq_false, false_implies, v_0, v_87, ↓v_0, ↓v_87, ↓s1, ↓s2, ↓s3, ↓s4, ↓s5, ↓ctL9_ofCell, ↓r_ofCell, ↓B_ofCell, ↓pub, eS]
    repeat (refine And.intro (hr _) ?_)
    refine ⟨h1.1, by rw [f2 87 (by omega)]; exact h3, fun M3 e1 e2 e3 => ?_⟩
    exact nx M3 (L_fin (S := S) (R := R_ofCell S (xs (i + 1)) (xs (i + 2))) (I_ofCell h1) r2 e1 e2 e3)
  refine bs_L_law_286 hX ?_
  simp only [bk_L_law_286, k_L_law_286, ↓e_rk1, ↓e_rk0, ↓e_sk0, ↓e_sks, ↓e_ldi0, ↓e_ldis, ↓e_ldl0, ↓e_ldls, ↓e_lda0, ↓e_ldas, ↓e_ok0, ↓e_okss, ↓e_ok1i, ↓e_ok1r, ↓e_ok1n, ↓e_sti, ↓e_sta, ↓e_1, ↓e_2, ↓e_l1, ↓e_l2, ↓e_li, ↓e_sw0, ↓e_sws, ↓e_ceq, ↓e_cne, ↓e_clt, ↓e_cge, ↓e_cgt, ↓e_cle, ↓e_nil, ↓e_cons, ↓e_iconst, ↓e_bipush, ↓e_sipush, ↓e_ldc, ↓e_ldcw, ↓e_ldc2, ↓e_lconst, ↓e_iloadn, ↓e_iload, ↓e_lloadn, ↓e_lload, ↓e_aloadn, ↓e_aload, ↓e_istoren, ↓e_istore, ↓e_astoren, ↓e_astore, ↓e_add, ↓e_iinc, ↓e_iadd, ↓e_isub, ↓e_imul, ↓e_iand, ↓e_ior, ↓e_ixor, ↓e_ishl, ↓e_iushr, ↓e_idiv, ↓e_irem, ↓e_ineg, ↓e_i2l, ↓e_i2b, ↓e_i2s, ↓e_l2i, ↓e_land, ↓e_lor, ↓e_lshl, ↓e_lshr, ↓e_lushr, ↓e_lcmp, ↓e_dupi, ↓e_dupr, ↓e_popi, ↓e_dup2, ↓e_goto, ↓e_if, ↓e_icmp, ↓e_tsw, ↓e_lsw, ↓e_getf, ↓e_putf, ↓e_gets, ↓e_iald, ↓e_cald, ↓e_iast, ↓e_aald, ↓e_aast, ↓e_len, ↓e_copy, ↓e_abs, ↓e_max, ↓e_min, ↓e_iret, ↓e_aret, ↓e_vret, ↓e_is0, ↓e_is1, ↓e_is2, ↓e_is3, ↓e_is4, ↓e_iv1, ↓e_iv2, ↓e_iv3, ↓e_iv4, ↓e_iv5, ↓e_iv6, ↓reduceIte, Nat.reduceAdd, Nat.reduceEqDiff, ↓zcl0, ↓zclv, List.map_nil, List.sum_nil, List.map_cons, List.sum_cons, zcat, true_and, and_true, Nat.reduceLeDiff, eq_self, forall_const, implies_true, not_true_eq_false, false_implies, v_0, v_87, ↓v_0, ↓v_87, ↓s1, ↓s2, ↓s3, ↓s4, ↓s5, ↓ctL9_x_ofCell, ↓r_x_ofCell, ↓B_x_ofCell]
  repeat (refine And.intro (hr _) ?_)
  exact ⟨S, h1.1, h2, fun M2 r2 f2 => J M2 r2 f2⟩
theorem lc_head {E : ZE} {X : ZK} {Rt : ZR} (hX : zCl E zlaw 13 false ctL9 Rt X) {i : Nat} {xs : Nat → Int} (s9 : Scr E i xs) (hr : ∀ j, rg (xs j)) {n : Int} (hn : n < 4000) {M : ZMm} (hM : Lin n M) (nx : ∀ M2 : ZMm, Lin (n + 1) M2 → LX X 1569 i [] M2) : LX X 319 i [] M := by
  obtain ⟨s1, s2, s3, s4, s5⟩ := s9
  obtain ⟨h1, h2, h3⟩ := hM
  obtain ⟨S, hS⟩ : ∃ S, st M = S := ⟨_, rfl⟩
  rw [hS] at h1 h2
  have J : ∀ M2 : ZMm, Rc (R_head S (xs (i + 1)) (xs (i + 2)) (xs (i + 3))).2 M2 → (∀ x, 87 ≤ x → M2 x = M x) → LX X 338 i [.inl (R_head S (xs (i + 1)) (xs (i + 2)) (xs (i + 3))).1] M2 := by
    intro M2 r2 f2
    have eS : st M2 = S := (st_eq f2).trans hS
    refine bs_L_law_338 hX ?_
    simp only [bk_L_law_338, k_L_law_338, ↓e_rk1, ↓e_rk0, ↓e_sk0, ↓e_sks, ↓e_ldi0, ↓e_ldis, ↓e_ldl0, ↓e_ldls, ↓e_lda0, ↓e_ldas, ↓e_ok0, ↓e_okss, ↓e_ok1i, ↓e_ok1r, ↓e_ok1n, ↓e_sti, ↓e_sta, ↓e_1, ↓e_2, ↓e_l1, ↓e_l2, ↓e_li, ↓e_sw0, ↓e_sws, ↓e_ceq, ↓e_cne, ↓e_clt, ↓e_cge, ↓e_cgt, ↓e_cle, ↓e_nil, ↓e_cons, ↓e_iconst, ↓e_bipush, ↓e_sipush, ↓e_ldc, ↓e_ldcw, ↓e_ldc2, ↓e_lconst, ↓e_iloadn, ↓e_iload, ↓e_lloadn, ↓e_lload, ↓e_aloadn, ↓e_aload, ↓e_istoren, ↓e_istore, ↓e_astoren, ↓e_astore, ↓e_add, ↓e_iinc, ↓e_iadd, ↓e_isub, ↓e_imul, ↓e_iand, ↓e_ior, ↓e_ixor, ↓e_ishl, ↓e_iushr, ↓e_idiv, ↓e_irem, ↓e_ineg, ↓e_i2l, ↓e_i2b, ↓e_i2s, ↓e_l2i, ↓e_land, ↓e_lor, ↓e_lshl, ↓e_lshr, ↓e_lushr, ↓e_lcmp, ↓e_dupi, ↓e_dupr, ↓e_popi, ↓e_dup2, ↓e_goto, ↓e_if, ↓e_icmp, ↓e_tsw, ↓e_lsw, ↓e_getf, ↓e_putf, ↓e_gets, ↓e_iald, ↓e_cald, ↓e_iast, ↓e_aald, ↓e_aast, ↓e_len, ↓e_copy, ↓e_abs, ↓e_max, ↓e_min, ↓e_iret, ↓e_aret, ↓e_vret, ↓e_is0, ↓e_is1, ↓e_is2, ↓e_is3, ↓e_is4, ↓e_iv1, ↓e_iv2, ↓e_iv3, ↓e_iv4, ↓e_iv5, ↓e_iv6, ↓reduceIte, Nat.reduceAdd, Nat.reduceEqDiff, ↓zcl0, ↓zclv, List.map_nil, List.sum_nil, List.map_cons, List.sum_cons, zcat, true_and, and_true, Nat.reduceLeDiff, eq_self, forall_const, implies_true, not_true_eq_false, false_implies, v_0, v_87, ↓v_0, ↓v_87, ↓s1, ↓s2, ↓s3, ↓s4, ↓s5, ↓ctL9_head, ↓r_head, ↓B_head, ↓pub, eS]
    repeat (refine And.intro (hr _) ?_)
    refine ⟨h1.1, by rw [f2 87 (by omega)]; exact h3, fun M3 e1 e2 e3 => ?_⟩
    exact nx M3 (L_fin (S := S) (R := R_head S (xs (i + 1)) (xs (i + 2)) (xs (i + 3))) (I_head h1) r2 e1 e2 e3)
  refine bs_L_law_319 hX ?_
  simp only [bk_L_law_319, k_L_law_319, ↓e_rk1, ↓e_rk0, ↓e_sk0, ↓e_sks, ↓e_ldi0, ↓e_ldis, ↓e_ldl0, ↓e_ldls, ↓e_lda0, ↓e_ldas, ↓e_ok0, ↓e_okss, ↓e_ok1i, ↓e_ok1r, ↓e_ok1n, ↓e_sti, ↓e_sta, ↓e_1, ↓e_2, ↓e_l1, ↓e_l2, ↓e_li, ↓e_sw0, ↓e_sws, ↓e_ceq, ↓e_cne, ↓e_clt, ↓e_cge, ↓e_cgt, ↓e_cle, ↓e_nil, ↓e_cons, ↓e_iconst, ↓e_bipush, ↓e_sipush, ↓e_ldc, ↓e_ldcw, ↓e_ldc2, ↓e_lconst, ↓e_iloadn, ↓e_iload, ↓e_lloadn, ↓e_lload, ↓e_aloadn, ↓e_aload, ↓e_istoren, ↓e_istore, ↓e_astoren, ↓e_astore, ↓e_add, ↓e_iinc, ↓e_iadd, ↓e_isub, ↓e_imul, ↓e_iand, ↓e_ior, ↓e_ixor, ↓e_ishl, ↓e_iushr, ↓e_idiv, ↓e_irem, ↓e_ineg, ↓e_i2l, ↓e_i2b, ↓e_i2s, ↓e_l2i, ↓e_land, ↓e_lor, ↓e_lshl, ↓e_lshr, ↓e_lushr, ↓e_lcmp, ↓e_dupi, ↓e_dupr, ↓e_popi, ↓e_dup2, ↓e_goto, ↓e_if, ↓e_icmp, ↓e_tsw, ↓e_lsw, ↓e_getf, ↓e_putf, ↓e_gets, ↓e_iald, ↓e_cald, ↓e_iast, ↓e_aald, ↓e_aast, ↓e_len, ↓e_copy, ↓e_abs, ↓e_max, ↓e_min, ↓e_iret, ↓e_aret, ↓e_vret, ↓e_is0, ↓e_is1, ↓e_is2, ↓e_is3, ↓e_is4, ↓e_iv1, ↓e_iv2, ↓e_iv3, ↓e_iv4, ↓e_iv5, ↓e_iv6, ↓reduceIte, Nat.reduceAdd, Nat.reduceEqDiff, ↓zcl0, ↓zclv, List.map_nil, List.sum_nil, List.map_cons, List.sum_cons, zcat, true_and, and_true, Nat.reduceLeDiff, eq_self, forall_const, implies_true, not_true_eq_false, false_implies, v_0, v_87, ↓v_0, ↓v_87, ↓s1, ↓s2, ↓s3, ↓s4, ↓s5, ↓ctL9_x_head, ↓r_x_head, ↓B_x_head]
  repeat (refine And.intro (hr _) ?_)
  exact ⟨S, h1.1, h2, fun M2 r2 f2 => J M2 r2 f2⟩
theorem lc_ofHead {E : ZE} {X : ZK} {Rt : ZR} (hX : zCl E zlaw 13 false ctL9 Rt X) {i : Nat} {xs : Nat → Int} (s9 : Scr E i xs) (hr : ∀ j, rg (xs j)) {n : Int} (hn : n < 4000) {M : ZMm} (hM : Lin n M) (nx : ∀ M2 : ZMm, Lin (n + 1) M2 → LX X 1569 i [] M2) : LX X 362 i [] M := by
  obtain ⟨s1, s2, s3, s4, s5⟩ := s9
  obtain ⟨h1, h2, h3⟩ := hM
  obtain ⟨S, hS⟩ : ∃ S, st M = S := ⟨_, rfl⟩
  rw [hS] at h1 h2
  have J : ∀ M2 : ZMm, Rc (R_ofHead S (xs (i + 1)) (xs (i + 2))).2 M2 → (∀ x, 87 ≤ x → M2 x = M x) → LX X 376 i [.inl (R_ofHead S (xs (i + 1)) (xs (i + 2))).1] M2 := by
    intro M2 r2 f2
    have eS : st M2 = S := (st_eq f2).trans hS
    refine bs_L_law_376 hX ?_
    simp only [bk_L_law_376, k_L_law_376, ↓e_rk1, ↓e_rk0, ↓e_sk0, ↓e_sks, ↓e_ldi0, ↓e_ldis, ↓e_ldl0, ↓e_ldls, ↓e_lda0, ↓e_ldas, ↓e_ok0, ↓e_okss, ↓e_ok1i, ↓e_ok1r, ↓e_ok1n, ↓e_sti, ↓e_sta, ↓e_1, ↓e_2, ↓e_l1, ↓e_l2, ↓e_li, ↓e_sw0, ↓e_sws, ↓e_ceq, ↓e_cne, ↓e_clt, ↓e_cge, ↓e_cgt, ↓e_cle, ↓e_nil, ↓e_cons, ↓e_iconst, ↓e_bipush, ↓e_sipush, ↓e_ldc, ↓e_ldcw, ↓e_ldc2, ↓e_lconst, ↓e_iloadn, ↓e_iload, ↓e_lloadn, ↓e_lload, ↓e_aloadn, ↓e_aload, ↓e_istoren, ↓e_istore, ↓e_astoren, ↓e_astore, ↓e_add, ↓e_iinc, ↓e_iadd, ↓e_isub, ↓e_imul, ↓e_iand, ↓e_ior, ↓e_ixor, ↓e_ishl, ↓e_iushr, ↓e_idiv, ↓e_irem, ↓e_ineg, ↓e_i2l, ↓e_i2b, ↓e_i2s, ↓e_l2i, ↓e_land, ↓e_lor, ↓e_lshl, ↓e_lshr, ↓e_lushr, ↓e_lcmp, ↓e_dupi, ↓e_dupr, ↓e_popi, ↓e_dup2, ↓e_goto, ↓e_if, ↓e_icmp, ↓e_tsw, ↓e_lsw, ↓e_getf, ↓e_putf, ↓e_gets, ↓e_iald, ↓e_cald, ↓e_iast, ↓e_aald, ↓e_aast, ↓e_len, ↓e_copy, ↓e_abs, ↓e_max, ↓e_min, ↓e_iret, ↓e_aret, ↓e_vret, ↓e_is0, ↓e_is1, ↓e_is2, ↓e_is3, ↓e_is4, ↓e_iv1, ↓e_iv2, ↓e_iv3, ↓e_iv4, ↓e_iv5, ↓e_iv6, ↓reduceIte, Nat.reduceAdd, Nat.reduceEqDiff, ↓zcl0, ↓zclv, List.map_nil, List.sum_nil, List.map_cons, List.sum_cons, zcat, true_and, and_true, Nat.reduceLeDiff, eq_self, forall_const, implies_true, not_true_eq_false, false_implies, v_0, v_87, ↓v_0, ↓v_87, ↓s1, ↓s2, ↓s3, ↓s4, ↓s5, ↓ctL9_ofHead, ↓r_ofHead, ↓B_ofHead, ↓pub, eS]
    repeat (refine And.intro (hr _) ?_)
    refine ⟨h1.1, by rw [f2 87 (by omega)]; exact h3, fun M3 e1 e2 e3 => ?_⟩
    exact nx M3 (L_fin (S := S) (R := R_ofHead S (xs (i + 1)) (xs (i + 2))) (I_ofHead h1) r2 e1 e2 e3)
  refine bs_L_law_362 hX ?_
  simp only [bk_L_law_362, k_L_law_362, ↓e_rk1, ↓e_rk0, ↓e_sk0, ↓e_sks, ↓e_ldi0, ↓e_ldis, ↓e_ldl0, ↓e_ldls, ↓e_lda0, ↓e_ldas, ↓e_ok0, ↓e_okss, ↓e_ok1i, ↓e_ok1r, ↓e_ok1n, ↓e_sti, ↓e_sta, ↓e_1, ↓e_2, ↓e_l1, ↓e_l2, ↓e_li, ↓e_sw0, ↓e_sws, ↓e_ceq, ↓e_cne, ↓e_clt, ↓e_cge, ↓e_cgt, ↓e_cle, ↓e_nil, ↓e_cons, ↓e_iconst, ↓e_bipush, ↓e_sipush, ↓e_ldc, ↓e_ldcw, ↓e_ldc2, ↓e_lconst, ↓e_iloadn, ↓e_iload, ↓e_lloadn, ↓e_lload, ↓e_aloadn, ↓e_aload, ↓e_istoren, ↓e_istore, ↓e_astoren, ↓e_astore, ↓e_add, ↓e_iinc, ↓e_iadd, ↓e_isub, ↓e_imul, ↓e_iand, ↓e_ior, ↓e_ixor, ↓e_ishl, ↓e_iushr, ↓e_idiv, ↓e_irem, ↓e_ineg, ↓e_i2l, ↓e_i2b, ↓e_i2s, ↓e_l2i, ↓e_land, ↓e_lor, ↓e_lshl, ↓e_lshr, ↓e_lushr, ↓e_lcmp, ↓e_dupi, ↓e_dupr, ↓e_popi, ↓e_dup2, ↓e_goto, ↓e_if, ↓e_icmp, ↓e_tsw, ↓e_lsw, ↓e_getf, ↓e_putf, ↓e_gets, ↓e_iald, ↓e_cald, ↓e_iast, ↓e_aald, ↓e_aast, ↓e_len, ↓e_copy, ↓e_abs, ↓e_max, ↓e_min, ↓e_iret, ↓e_aret, ↓e_vret, ↓e_is0, ↓e_is1, ↓e_is2, ↓e_is3, ↓e_is4, ↓e_iv1, ↓e_iv2, ↓e_iv3, ↓e_iv4, ↓e_iv5, ↓e_iv6, ↓reduceIte, Nat.reduceAdd, Nat.reduceEqDiff, ↓zcl0, ↓zclv, List.map_nil, List.sum_nil, List.map_cons, List.sum_cons, zcat, true_and, and_true, Nat.reduceLeDiff, eq_self, forall_const, implies_true, not_true_eq_false, false_implies, v_0, v_87, ↓v_0, ↓v_87, ↓s1, ↓s2, ↓s3, ↓s4, ↓s5, ↓ctL9_x_ofHead, ↓r_x_ofHead, ↓B_x_ofHead]
  repeat (refine And.intro (hr _) ?_)
  exact ⟨S, h1.1, h2, fun M2 r2 f2 => J M2 r2 f2⟩
theorem lc_delay {E : ZE} {X : ZK} {Rt : ZR} (hX : zCl E zlaw 13 false ctL9 Rt X) {i : Nat} {xs : Nat → Int} (s9 : Scr E i xs) (hr : ∀ j, rg (xs j)) {n : Int} (hn : n < 4000) {M : ZMm} (hM : Lin n M) (nx : ∀ M2 : ZMm, Lin (n + 1) M2 → LX X 1569 i [] M2) : LX X 395 i [] M := by
  obtain ⟨s1, s2, s3, s4, s5⟩ := s9
  obtain ⟨h1, h2, h3⟩ := hM
  obtain ⟨S, hS⟩ : ∃ S, st M = S := ⟨_, rfl⟩
  rw [hS] at h1 h2
  have J : ∀ M2 : ZMm, Rc (R_delay S (xs (i + 1))).2 M2 → (∀ x, 87 ≤ x → M2 x = M x) → LX X 404 i [.inl (R_delay S (xs (i + 1))).1] M2 := by
    intro M2 r2 f2
    have eS : st M2 = S := (st_eq f2).trans hS
    refine bs_L_law_404 hX ?_
    simp only [bk_L_law_404, k_L_law_404, ↓e_rk1, ↓e_rk0, ↓e_sk0, ↓e_sks, ↓e_ldi0, ↓e_ldis, ↓e_ldl0, ↓e_ldls, ↓e_lda0, ↓e_ldas, ↓e_ok0, ↓e_okss, ↓e_ok1i, ↓e_ok1r, ↓e_ok1n, ↓e_sti, ↓e_sta, ↓e_1, ↓e_2, ↓e_l1, ↓e_l2, ↓e_li, ↓e_sw0, ↓e_sws, ↓e_ceq, ↓e_cne, ↓e_clt, ↓e_cge, ↓e_cgt, ↓e_cle, ↓e_nil, ↓e_cons, ↓e_iconst, ↓e_bipush, ↓e_sipush, ↓e_ldc, ↓e_ldcw, ↓e_ldc2, ↓e_lconst, ↓e_iloadn, ↓e_iload, ↓e_lloadn, ↓e_lload, ↓e_aloadn, ↓e_aload, ↓e_istoren, ↓e_istore, ↓e_astoren, ↓e_astore, ↓e_add, ↓e_iinc, ↓e_iadd, ↓e_isub, ↓e_imul, ↓e_iand, ↓e_ior, ↓e_ixor, ↓e_ishl, ↓e_iushr, ↓e_idiv, ↓e_irem, ↓e_ineg, ↓e_i2l, ↓e_i2b, ↓e_i2s, ↓e_l2i, ↓e_land, ↓e_lor, ↓e_lshl, ↓e_lshr, ↓e_lushr, ↓e_lcmp, ↓e_dupi, ↓e_dupr, ↓e_popi, ↓e_dup2, ↓e_goto, ↓e_if, ↓e_icmp, ↓e_tsw, ↓e_lsw, ↓e_getf, ↓e_putf, ↓e_gets, ↓e_iald, ↓e_cald, ↓e_iast, ↓e_aald, ↓e_aast, ↓e_len, ↓e_copy, ↓e_abs, ↓e_max, ↓e_min, ↓e_iret, ↓e_aret, ↓e_vret, ↓e_is0, ↓e_is1, ↓e_is2, ↓e_is3, ↓e_is4, ↓e_iv1, ↓e_iv2, ↓e_iv3, ↓e_iv4, ↓e_iv5, ↓e_iv6, ↓reduceIte, Nat.reduceAdd, Nat.reduceEqDiff, ↓zcl0, ↓zclv, List.map_nil, List.sum_nil, List.map_cons, List.sum_cons, zcat, true_and, and_true, Nat.reduceLeDiff, eq_self, forall_const, implies_true, not_true_eq_false, false_implies, v_0, v_87, ↓v_0, ↓v_87, ↓s1, ↓s2, ↓s3, ↓s4, ↓s5, ↓ctL9_delay, ↓r_delay, ↓B_delay, ↓pub, eS]
    repeat (refine And.intro (hr _) ?_)
    refine ⟨h1.1, by rw [f2 87 (by omega)]; exact h3, fun M3 e1 e2 e3 => ?_⟩
    exact nx M3 (L_fin (S := S) (R := R_delay S (xs (i + 1))) (I_delay h1) r2 e1 e2 e3)
  refine bs_L_law_395 hX ?_
  simp only [bk_L_law_395, k_L_law_395, ↓e_rk1, ↓e_rk0, ↓e_sk0, ↓e_sks, ↓e_ldi0, ↓e_ldis, ↓e_ldl0, ↓e_ldls, ↓e_lda0, ↓e_ldas, ↓e_ok0, ↓e_okss, ↓e_ok1i, ↓e_ok1r, ↓e_ok1n, ↓e_sti, ↓e_sta, ↓e_1, ↓e_2, ↓e_l1, ↓e_l2, ↓e_li, ↓e_sw0, ↓e_sws, ↓e_ceq, ↓e_cne, ↓e_clt, ↓e_cge, ↓e_cgt, ↓e_cle, ↓e_nil, ↓e_cons, ↓e_iconst, ↓e_bipush, ↓e_sipush, ↓e_ldc, ↓e_ldcw, ↓e_ldc2, ↓e_lconst, ↓e_iloadn, ↓e_iload, ↓e_lloadn, ↓e_lload, ↓e_aloadn, ↓e_aload, ↓e_istoren, ↓e_istore, ↓e_astoren, ↓e_astore, ↓e_add, ↓e_iinc, ↓e_iadd, ↓e_isub, ↓e_imul, ↓e_iand, ↓e_ior, ↓e_ixor, ↓e_ishl, ↓e_iushr, ↓e_idiv, ↓e_irem, ↓e_ineg, ↓e_i2l, ↓e_i2b, ↓e_i2s, ↓e_l2i, ↓e_land, ↓e_lor, ↓e_lshl, ↓e_lshr, ↓e_lushr, ↓e_lcmp, ↓e_dupi, ↓e_dupr, ↓e_popi, ↓e_dup2, ↓e_goto, ↓e_if, ↓e_icmp, ↓e_tsw, ↓e_lsw, ↓e_getf, ↓e_putf, ↓e_gets, ↓e_iald, ↓e_cald, ↓e_iast, ↓e_aald, ↓e_aast, ↓e_len, ↓e_copy, ↓e_abs, ↓e_max, ↓e_min, ↓e_iret, ↓e_aret, ↓e_vret, ↓e_is0, ↓e_is1, ↓e_is2, ↓e_is3, ↓e_is4, ↓e_iv1, ↓e_iv2, ↓e_iv3, ↓e_iv4, ↓e_iv5, ↓e_iv6, ↓reduceIte, Nat.reduceAdd, Nat.reduceEqDiff, ↓zcl0, ↓zclv, List.map_nil, List.sum_nil, List.map_cons, List.sum_cons, zcat, true_and, and_true, Nat.reduceLeDiff, eq_self, forall_const, implies_true, not_true_eq_false, false_implies, v_0, v_87, ↓v_0, ↓v_87, ↓s1, ↓s2, ↓s3, ↓s4, ↓s5, ↓ctL9_x_delay, ↓r_x_delay, ↓B_x_delay]
  repeat (refine And.intro (hr _) ?_)
  exact ⟨S, h1.1, h2, fun M2 r2 f2 => J M2 r2 f2⟩
theorem lc_engineer {E : ZE} {X : ZK} {Rt : ZR} (hX : zCl E zlaw 13 false ctL9 Rt X) {i : Nat} {xs : Nat → Int} (s9 : Scr E i xs) (hr : ∀ j, rg (xs j)) {n : Int} (hn : n < 4000) {M : ZMm} (hM : Lin n M) (nx : ∀ M2 : ZMm, Lin (n + 1) M2 → LX X 1569 i [] M2) : LX X 418 i [] M := by
  obtain ⟨s1, s2, s3, s4, s5⟩ := s9
  obtain ⟨h1, h2, h3⟩ := hM
  obtain ⟨S, hS⟩ : ∃ S, st M = S := ⟨_, rfl⟩
  rw [hS] at h1 h2
  have J : ∀ M2 : ZMm, Rc (R_engineer S (xs (i + 1)) (xs (i + 2))).2 M2 → (∀ x, 87 ≤ x → M2 x = M x) → LX X 432 i [.inl (R_engineer S (xs (i + 1)) (xs (i + 2))).1] M2 := by
    intro M2 r2 f2
    have eS : st M2 = S := (st_eq f2).trans hS
    refine bs_L_law_432 hX ?_
    simp only [bk_L_law_432, k_L_law_432, ↓e_rk1, ↓e_rk0, ↓e_sk0, ↓e_sks, ↓e_ldi0, ↓e_ldis, ↓e_ldl0, ↓e_ldls, ↓e_lda0, ↓e_ldas, ↓e_ok0, ↓e_okss, ↓e_ok1i, ↓e_ok1r, ↓e_ok1n, ↓e_sti, ↓e_sta, ↓e_1, ↓e_2, ↓e_l1, ↓e_l2, ↓e_li, ↓e_sw0, ↓e_sws, ↓e_ceq, ↓e_cne, ↓e_clt, ↓e_cge, ↓e_cgt, ↓e_cle, ↓e_nil, ↓e_cons, ↓e_iconst, ↓e_bipush, ↓e_sipush, ↓e_ldc, ↓e_ldcw, ↓e_ldc2, ↓e_lconst, ↓e_iloadn, ↓e_iload, ↓e_lloadn, ↓e_lload, ↓e_aloadn, ↓e_aload, ↓e_istoren, ↓e_istore, ↓e_astoren, ↓e_astore, ↓e_add, ↓e_iinc, ↓e_iadd, ↓e_isub, ↓e_imul, ↓e_iand, ↓e_ior, ↓e_ixor, ↓e_ishl, ↓e_iushr, ↓e_idiv, ↓e_irem, ↓e_ineg, ↓e_i2l, ↓e_i2b, ↓e_i2s, ↓e_l2i, ↓e_land, ↓e_lor, ↓e_lshl, ↓e_lshr, ↓e_lushr, ↓e_lcmp, ↓e_dupi, ↓e_dupr, ↓e_popi, ↓e_dup2, ↓e_goto, ↓e_if, ↓e_icmp, ↓e_tsw, ↓e_lsw, ↓e_getf, ↓e_putf, ↓e_gets, ↓e_iald, ↓e_cald, ↓e_iast, ↓e_aald, ↓e_aast, ↓e_len, ↓e_copy, ↓e_abs, ↓e_max, ↓e_min, ↓e_iret, ↓e_aret, ↓e_vret, ↓e_is0, ↓e_is1, ↓e_is2, ↓e_is3, ↓e_is4, ↓e_iv1, ↓e_iv2, ↓e_iv3, ↓e_iv4, ↓e_iv5, ↓e_iv6, ↓reduceIte, Nat.reduceAdd, Nat.reduceEqDiff, ↓zcl0, ↓zclv, List.map_nil, List.sum_nil, List.map_cons, List.sum_cons, zcat, true_and, and_true, Nat.reduceLeDiff, eq_self, forall_const, implies_true, not_true_eq_false, false_implies, v_0, v_87, ↓v_0, ↓v_87, ↓s1, ↓s2, ↓s3, ↓s4, ↓s5, ↓ctL9_engineer, ↓r_engineer, ↓B_engineer, ↓pub, eS]
    repeat (refine And.intro (hr _) ?_)
    refine ⟨h1.1, by rw [f2 87 (by omega)]; exact h3, fun M3 e1 e2 e3 => ?_⟩
    exact nx M3 (L_fin (S := S) (R := R_engineer S (xs (i + 1)) (xs (i + 2))) (I_engineer h1) r2 e1 e2 e3)
  refine bs_L_law_418 hX ?_
  simp only [bk_L_law_418, k_L_law_418, ↓e_rk1, ↓e_rk0, ↓e_sk0, ↓e_sks, ↓e_ldi0, ↓e_ldis, ↓e_ldl0, ↓e_ldls, ↓e_lda0, ↓e_ldas, ↓e_ok0, ↓e_okss, ↓e_ok1i, ↓e_ok1r, ↓e_ok1n, ↓e_sti, ↓e_sta, ↓e_1, ↓e_2, ↓e_l1, ↓e_l2, ↓e_li, ↓e_sw0, ↓e_sws, ↓e_ceq, ↓e_cne, ↓e_clt, ↓e_cge, ↓e_cgt, ↓e_cle, ↓e_nil, ↓e_cons, ↓e_iconst, ↓e_bipush, ↓e_sipush, ↓e_ldc, ↓e_ldcw, ↓e_ldc2, ↓e_lconst, ↓e_iloadn, ↓e_iload, ↓e_lloadn, ↓e_lload, ↓e_aloadn, ↓e_aload, ↓e_istoren, ↓e_istore, ↓e_astoren, ↓e_astore, ↓e_add, ↓e_iinc, ↓e_iadd, ↓e_isub, ↓e_imul, ↓e_iand, ↓e_ior, ↓e_ixor, ↓e_ishl, ↓e_iushr, ↓e_idiv, ↓e_irem, ↓e_ineg, ↓e_i2l, ↓e_i2b, ↓e_i2s, ↓e_l2i, ↓e_land, ↓e_lor, ↓e_lshl, ↓e_lshr, ↓e_lushr, ↓e_lcmp, ↓e_dupi, ↓e_dupr, ↓e_popi, ↓e_dup2, ↓e_goto, ↓e_if, ↓e_icmp, ↓e_tsw, ↓e_lsw, ↓e_getf, ↓e_putf, ↓e_gets, ↓e_iald, ↓e_cald, ↓e_iast, ↓e_aald, ↓e_aast, ↓e_len, ↓e_copy, ↓e_abs, ↓e_max, ↓e_min, ↓e_iret, ↓e_aret, ↓e_vret, ↓e_is0, ↓e_is1, ↓e_is2, ↓e_is3, ↓e_is4, ↓e_iv1, ↓e_iv2, ↓e_iv3, ↓e_iv4, ↓e_iv5, ↓e_iv6, ↓reduceIte, Nat.reduceAdd, Nat.reduceEqDiff, ↓zcl0, ↓zclv, List.map_nil, List.sum_nil, List.map_cons, List.sum_cons, zcat, true_and, and_true, Nat.reduceLeDiff, eq_self, forall_const, implies_true, not_true_eq_false, false_implies, v_0, v_87, ↓v_0, ↓v_87, ↓s1, ↓s2, ↓s3, ↓s4, ↓s5, ↓ctL9_x_engineer, ↓r_x_engineer, ↓B_x_engineer]
  repeat (refine And.intro (hr _) ?_)
  exact ⟨S, h1.1, h2, fun M2 r2 f2 => J M2 r2 f2⟩
theorem lc_ofEngineer {E : ZE} {X : ZK} {Rt : ZR} (hX : zCl E zlaw 13 false ctL9 Rt X) {i : Nat} {xs : Nat → Int} (s9 : Scr E i xs) (hr : ∀ j, rg (xs j)) {n : Int} (hn : n < 4000) {M : ZMm} (hM : Lin n M) (nx : ∀ M2 : ZMm, Lin (n + 1) M2 → LX X 1569 i [] M2) : LX X 451 i [] M := by
  obtain ⟨s1, s2, s3, s4, s5⟩ := s9
  obtain ⟨h1, h2, h3⟩ := hM
  obtain ⟨S, hS⟩ : ∃ S, st M = S := ⟨_, rfl⟩
  rw [hS] at h1 h2
  have J : ∀ M2 : ZMm, Rc (R_ofEngineer S (xs (i + 1)) (xs (i + 2))).2 M2 → (∀ x, 87 ≤ x → M2 x = M x) → LX X 465 i [.inl (R_ofEngineer S (xs (i + 1)) (xs (i + 2))).1] M2 := by
    intro M2 r2 f2
    have eS : st M2 = S := (st_eq f2).trans hS
    refine bs_L_law_465 hX ?_
    simp only [bk_L_law_465, k_L_law_465, ↓e_rk1, ↓e_rk0, ↓e_sk0, ↓e_sks, ↓e_ldi0, ↓e_ldis, ↓e_ldl0, ↓e_ldls, ↓e_lda0, ↓e_ldas, ↓e_ok0, ↓e_okss, ↓e_ok1i, ↓e_ok1r, ↓e_ok1n, ↓e_sti, ↓e_sta, ↓e_1, ↓e_2, ↓e_l1, ↓e_l2, ↓e_li, ↓e_sw0, ↓e_sws, ↓e_ceq, ↓e_cne, ↓e_clt, ↓e_cge, ↓e_cgt, ↓e_cle, ↓e_nil, ↓e_cons, ↓e_iconst, ↓e_bipush, ↓e_sipush, ↓e_ldc, ↓e_ldcw, ↓e_ldc2, ↓e_lconst, ↓e_iloadn, ↓e_iload, ↓e_lloadn, ↓e_lload, ↓e_aloadn, ↓e_aload, ↓e_istoren, ↓e_istore, ↓e_astoren, ↓e_astore, ↓e_add, ↓e_iinc, ↓e_iadd, ↓e_isub, ↓e_imul, ↓e_iand, ↓e_ior, ↓e_ixor, ↓e_ishl, ↓e_iushr, ↓e_idiv, ↓e_irem, ↓e_ineg, ↓e_i2l, ↓e_i2b, ↓e_i2s, ↓e_l2i, ↓e_land, ↓e_lor, ↓e_lshl, ↓e_lshr, ↓e_lushr, ↓e_lcmp, ↓e_dupi, ↓e_dupr, ↓e_popi, ↓e_dup2, ↓e_goto, ↓e_if, ↓e_icmp, ↓e_tsw, ↓e_lsw, ↓e_getf, ↓e_putf, ↓e_gets, ↓e_iald, ↓e_cald, ↓e_iast, ↓e_aald, ↓e_aast, ↓e_len, ↓e_copy, ↓e_abs, ↓e_max, ↓e_min, ↓e_iret, ↓e_aret, ↓e_vret, ↓e_is0, ↓e_is1, ↓e_is2, ↓e_is3, ↓e_is4, ↓e_iv1, ↓e_iv2, ↓e_iv3, ↓e_iv4, ↓e_iv5, ↓e_iv6, ↓reduceIte, Nat.reduceAdd, Nat.reduceEqDiff, ↓zcl0, ↓zclv, List.map_nil, List.sum_nil, List.map_cons, List.sum_cons, zcat, true_and, and_true, Nat.reduceLeDiff, eq_self, forall_const, implies_true, not_true_eq_false, false_implies, v_0, v_87, ↓v_0, ↓v_87, ↓s1, ↓s2, ↓s3, ↓s4, ↓s5, ↓ctL9_ofEngineer, ↓r_ofEngineer, ↓B_ofEngineer, ↓pub, eS]
    repeat (refine And.intro (hr _) ?_)
    refine ⟨h1.1, by rw [f2 87 (by omega)]; exact h3, fun M3 e1 e2 e3 => ?_⟩
    exact nx M3 (L_fin (S := S) (R := R_ofEngineer S (xs (i + 1)) (xs (i + 2))) (I_ofEngineer h1) r2 e1 e2 e3)
  refine bs_L_law_451 hX ?_
  simp only [bk_L_law_451, k_L_law_451, ↓e_rk1, ↓e_rk0, ↓e_sk0, ↓e_sks, ↓e_ldi0, ↓e_ldis, ↓e_ldl0, ↓e_ldls, ↓e_lda0, ↓e_ldas, ↓e_ok0, ↓e_okss, ↓e_ok1i, ↓e_ok1r, ↓e_ok1n, ↓e_sti, ↓e_sta, ↓e_1, ↓e_2, ↓e_l1, ↓e_l2, ↓e_li, ↓e_sw0, ↓e_sws, ↓e_ceq, ↓e_cne, ↓e_clt, ↓e_cge, ↓e_cgt, ↓e_cle, ↓e_nil, ↓e_cons, ↓e_iconst, ↓e_bipush, ↓e_sipush, ↓e_ldc, ↓e_ldcw, ↓e_ldc2, ↓e_lconst, ↓e_iloadn, ↓e_iload, ↓e_lloadn, ↓e_lload, ↓e_aloadn, ↓e_aload, ↓e_istoren, ↓e_istore, ↓e_astoren, ↓e_astore, ↓e_add, ↓e_iinc, ↓e_iadd, ↓e_isub, ↓e_imul, ↓e_iand, ↓e_ior, ↓e_ixor, ↓e_ishl, ↓e_iushr, ↓e_idiv, ↓e_irem, ↓e_ineg, ↓e_i2l, ↓e_i2b, ↓e_i2s, ↓e_l2i, ↓e_land, ↓e_lor, ↓e_lshl, ↓e_lshr, ↓e_lushr, ↓e_lcmp, ↓e_dupi, ↓e_dupr, ↓e_popi, ↓e_dup2, ↓e_goto, ↓e_if, ↓e_icmp, ↓e_tsw, ↓e_lsw, ↓e_getf, ↓e_putf, ↓e_gets, ↓e_iald, ↓e_cald, ↓e_iast, ↓e_aald, ↓e_aast, ↓e_len, ↓e_copy, ↓e_abs, ↓e_max, ↓e_min, ↓e_iret, ↓e_aret, ↓e_vret, ↓e_is0, ↓e_is1, ↓e_is2, ↓e_is3, ↓e_is4, ↓e_iv1, ↓e_iv2, ↓e_iv3, ↓e_iv4, ↓e_iv5, ↓e_iv6, ↓reduceIte, Nat.reduceAdd, Nat.reduceEqDiff, ↓zcl0, ↓zclv, List.map_nil, List.sum_nil, List.map_cons, List.sum_cons, zcat, true_and, and_true, Nat.reduceLeDiff, eq_self, forall_const, implies_true, not_true_eq_false, false_implies, v_0, v_87, ↓v_0, ↓v_87, ↓s1, ↓s2, ↓s3, ↓s4, ↓s5, ↓ctL9_x_ofEngineer, ↓r_x_ofEngineer, ↓B_x_ofEngineer]
  repeat (refine And.intro (hr _) ?_)
  exact ⟨S, h1.1, h2, fun M2 r2 f2 => J M2 r2 f2⟩
theorem lc_change {E : ZE} {X : ZK} {Rt : ZR} (hX : zCl E zlaw 13 false ctL9 Rt X) {i : Nat} {xs : Nat → Int} (s9 : Scr E i xs) (hr : ∀ j, rg (xs j)) {n : Int} (hn : n < 4000) {M : ZMm} (hM : Lin n M) (nx : ∀ M2 : ZMm, Lin (n + 1) M2 → LX X 1569 i [] M2) : LX X 484 i [] M := by
  obtain ⟨s1, s2, s3, s4, s5⟩ := s9
  obtain ⟨h1, h2, h3⟩ := hM
  obtain ⟨S, hS⟩ : ∃ S, st M = S := ⟨_, rfl⟩
  rw [hS] at h1 h2
  have J : ∀ M2 : ZMm, Rc (R_change S (xs (i + 1)) (xs (i + 2))).2 M2 → (∀ x, 87 ≤ x → M2 x = M x) → LX X 498 i [.inl (R_change S (xs (i + 1)) (xs (i + 2))).1] M2 := by
    intro M2 r2 f2
    have eS : st M2 = S := (st_eq f2).trans hS
    refine bs_L_law_498 hX ?_
    simp only [bk_L_law_498, k_L_law_498, ↓e_rk1, ↓e_rk0, ↓e_sk0, ↓e_sks, ↓e_ldi0, ↓e_ldis, ↓e_ldl0, ↓e_ldls, ↓e_lda0, ↓e_ldas, ↓e_ok0, ↓e_okss, ↓e_ok1i, ↓e_ok1r, ↓e_ok1n, ↓e_sti, ↓e_sta, ↓e_1, ↓e_2, ↓e_l1, ↓e_l2, ↓e_li, ↓e_sw0, ↓e_sws, ↓e_ceq, ↓e_cne, ↓e_clt, ↓e_cge, ↓e_cgt, ↓e_cle, ↓e_nil, ↓e_cons, ↓e_iconst, ↓e_bipush, ↓e_sipush, ↓e_ldc, ↓e_ldcw, ↓e_ldc2, ↓e_lconst, ↓e_iloadn, ↓e_iload, ↓e_lloadn, ↓e_lload, ↓e_aloadn, ↓e_aload, ↓e_istoren, ↓e_istore, ↓e_astoren, ↓e_astore, ↓e_add, ↓e_iinc, ↓e_iadd, ↓e_isub, ↓e_imul, ↓e_iand, ↓e_ior, ↓e_ixor, ↓e_ishl, ↓e_iushr, ↓e_idiv, ↓e_irem, ↓e_ineg, ↓e_i2l, ↓e_i2b, ↓e_i2s, ↓e_l2i, ↓e_land, ↓e_lor, ↓e_lshl, ↓e_lshr, ↓e_lushr, ↓e_lcmp, ↓e_dupi, ↓e_dupr, ↓e_popi, ↓e_dup2, ↓e_goto, ↓e_if, ↓e_icmp, ↓e_tsw, ↓e_lsw, ↓e_getf, ↓e_putf, ↓e_gets, ↓e_iald, ↓e_cald, ↓e_iast, ↓e_aald, ↓e_aast, ↓e_len, ↓e_copy, ↓e_abs, ↓e_max, ↓e_min, ↓e_iret, ↓e_aret, ↓e_vret, ↓e_is0, ↓e_is1, ↓e_is2, ↓e_is3, ↓e_is4, ↓e_iv1, ↓e_iv2, ↓e_iv3, ↓e_iv4, ↓e_iv5, ↓e_iv6, ↓reduceIte, Nat.reduceAdd, Nat.reduceEqDiff, ↓zcl0, ↓zclv, List.map_nil, List.sum_nil, List.map_cons, List.sum_cons, zcat, true_and, and_true, Nat.reduceLeDiff, eq_self, forall_const, implies_true, not_true_eq_false, false_implies, v_0, v_87, ↓v_0, ↓v_87, ↓s1, ↓s2, ↓s3, ↓s4, ↓s5, ↓ctL9_change, ↓r_change, ↓B_change, ↓pub, eS]
    repeat (refine And.intro (hr _) ?_)
    refine ⟨h1.1, by rw [f2 87 (by omega)]; exact h3, fun M3 e1 e2 e3 => ?_⟩
    exact nx M3 (L_fin (S := S) (R := R_change S (xs (i + 1)) (xs (i + 2))) (I_change h1) r2 e1 e2 e3)
  refine bs_L_law_484 hX ?_
  simp only [bk_L_law_484, k_L_law_484, ↓e_rk1, ↓e_rk0, ↓e_sk0, ↓e_sks, ↓e_ldi0, ↓e_ldis, ↓e_ldl0, ↓e_ldls, ↓e_lda0, ↓e_ldas, ↓e_ok0, ↓e_okss, ↓e_ok1i, ↓e_ok1r, ↓e_ok1n, ↓e_sti, ↓e_sta, ↓e_1, ↓e_2, ↓e_l1, ↓e_l2, ↓e_li, ↓e_sw0, ↓e_sws, ↓e_ceq, ↓e_cne, ↓e_clt, ↓e_cge, ↓e_cgt, ↓e_cle, ↓e_nil, ↓e_cons, ↓e_iconst, ↓e_bipush, ↓e_sipush, ↓e_ldc, ↓e_ldcw, ↓e_ldc2, ↓e_lconst, ↓e_iloadn, ↓e_iload, ↓e_lloadn, ↓e_lload, ↓e_aloadn, ↓e_aload, ↓e_istoren, ↓e_istore, ↓e_astoren, ↓e_astore, ↓e_add, ↓e_iinc, ↓e_iadd, ↓e_isub, ↓e_imul, ↓e_iand, ↓e_ior, ↓e_ixor, ↓e_ishl, ↓e_iushr, ↓e_idiv, ↓e_irem, ↓e_ineg, ↓e_i2l, ↓e_i2b, ↓e_i2s, ↓e_l2i, ↓e_land, ↓e_lor, ↓e_lshl, ↓e_lshr, ↓e_lushr, ↓e_lcmp, ↓e_dupi, ↓e_dupr, ↓e_popi, ↓e_dup2, ↓e_goto, ↓e_if, ↓e_icmp, ↓e_tsw, ↓e_lsw, ↓e_getf, ↓e_putf, ↓e_gets, ↓e_iald, ↓e_cald, ↓e_iast, ↓e_aald, ↓e_aast, ↓e_len, ↓e_copy, ↓e_abs, ↓e_max, ↓e_min, ↓e_iret, ↓e_aret, ↓e_vret, ↓e_is0, ↓e_is1, ↓e_is2, ↓e_is3, ↓e_is4, ↓e_iv1, ↓e_iv2, ↓e_iv3, ↓e_iv4, ↓e_iv5, ↓e_iv6, ↓reduceIte, Nat.reduceAdd, Nat.reduceEqDiff, ↓zcl0, ↓zclv, List.map_nil, List.sum_nil, List.map_cons, List.sum_cons, zcat, true_and, and_true, Nat.reduceLeDiff, eq_self, forall_const, implies_true, not_true_eq_false, false_implies, v_0, v_87, ↓v_0, ↓v_87, ↓s1, ↓s2, ↓s3, ↓s4, ↓s5, ↓ctL9_x_change, ↓r_x_change, ↓B_x_change]
  repeat (refine And.intro (hr _) ?_)
  exact ⟨S, h1.1, h2, fun M2 r2 f2 => J M2 r2 f2⟩
theorem lc_become {E : ZE} {X : ZK} {Rt : ZR} (hX : zCl E zlaw 13 false ctL9 Rt X) {i : Nat} {xs : Nat → Int} (s9 : Scr E i xs) (hr : ∀ j, rg (xs j)) {n : Int} (hn : n < 4000) {M : ZMm} (hM : Lin n M) (nx : ∀ M2 : ZMm, Lin (n + 1) M2 → LX X 1569 i [] M2) : LX X 517 i [] M := by
  obtain ⟨s1, s2, s3, s4, s5⟩ := s9
  obtain ⟨h1, h2, h3⟩ := hM
  obtain ⟨S, hS⟩ : ∃ S, st M = S := ⟨_, rfl⟩
  rw [hS] at h1 h2
  have J : ∀ M2 : ZMm, Rc (R_become S (xs (i + 1)) (xs (i + 2))).2 M2 → (∀ x, 87 ≤ x → M2 x = M x) → LX X 531 i [.inl (R_become S (xs (i + 1)) (xs (i + 2))).1] M2 := by
    intro M2 r2 f2
    have eS : st M2 = S := (st_eq f2).trans hS
    refine bs_L_law_531 hX ?_
    simp only [bk_L_law_531, k_L_law_531, ↓e_rk1, ↓e_rk0, ↓e_sk0, ↓e_sks, ↓e_ldi0, ↓e_ldis, ↓e_ldl0, ↓e_ldls, ↓e_lda0, ↓e_ldas, ↓e_ok0, ↓e_okss, ↓e_ok1i, ↓e_ok1r, ↓e_ok1n, ↓e_sti, ↓e_sta, ↓e_1, ↓e_2, ↓e_l1, ↓e_l2, ↓e_li, ↓e_sw0, ↓e_sws, ↓e_ceq, ↓e_cne, ↓e_clt, ↓e_cge, ↓e_cgt, ↓e_cle, ↓e_nil, ↓e_cons, ↓e_iconst, ↓e_bipush, ↓e_sipush, ↓e_ldc, ↓e_ldcw, ↓e_ldc2, ↓e_lconst, ↓e_iloadn, ↓e_iload, ↓e_lloadn, ↓e_lload, ↓e_aloadn, ↓e_aload, ↓e_istoren, ↓e_istore, ↓e_astoren, ↓e_astore, ↓e_add, ↓e_iinc, ↓e_iadd, ↓e_isub, ↓e_imul, ↓e_iand, ↓e_ior, ↓e_ixor, ↓e_ishl, ↓e_iushr, ↓e_idiv, ↓e_irem, ↓e_ineg, ↓e_i2l, ↓e_i2b, ↓e_i2s, ↓e_l2i, ↓e_land, ↓e_lor, ↓e_lshl, ↓e_lshr, ↓e_lushr, ↓e_lcmp, ↓e_dupi, ↓e_dupr, ↓e_popi, ↓e_dup2, ↓e_goto, ↓e_if, ↓e_icmp, ↓e_tsw, ↓e_lsw, ↓e_getf, ↓e_putf, ↓e_gets, ↓e_iald, ↓e_cald, ↓e_iast, ↓e_aald, ↓e_aast, ↓e_len, ↓e_copy, ↓e_abs, ↓e_max, ↓e_min, ↓e_iret, ↓e_aret, ↓e_vret, ↓e_is0, ↓e_is1, ↓e_is2, ↓e_is3, ↓e_is4, ↓e_iv1, ↓e_iv2, ↓e_iv3, ↓e_iv4, ↓e_iv5, ↓e_iv6, ↓reduceIte, Nat.reduceAdd, Nat.reduceEqDiff, ↓zcl0, ↓zclv, List.map_nil, List.sum_nil, List.map_cons, List.sum_cons, zcat, true_and, and_true, Nat.reduceLeDiff, eq_self, forall_const, implies_true, not_true_eq_false, false_implies, v_0, v_87, ↓v_0, ↓v_87, ↓s1, ↓s2, ↓s3, ↓s4, ↓s5, ↓ctL9_become, ↓r_become, ↓B_become, ↓pub, eS]
    repeat (refine And.intro (hr _) ?_)
    refine ⟨h1.1, by rw [f2 87 (by omega)]; exact h3, fun M3 e1 e2 e3 => ?_⟩
    exact nx M3 (L_fin (S := S) (R := R_become S (xs (i + 1)) (xs (i + 2))) (I_become h1) r2 e1 e2 e3)
  refine bs_L_law_517 hX ?_
  simp only [bk_L_law_517, k_L_law_517, ↓e_rk1, ↓e_rk0, ↓e_sk0, ↓e_sks, ↓e_ldi0, ↓e_ldis, ↓e_ldl0, ↓e_ldls, ↓e_lda0, ↓e_ldas, ↓e_ok0, ↓e_okss, ↓e_ok1i, ↓e_ok1r, ↓e_ok1n, ↓e_sti, ↓e_sta, ↓e_1, ↓e_2, ↓e_l1, ↓e_l2, ↓e_li, ↓e_sw0, ↓e_sws, ↓e_ceq, ↓e_cne, ↓e_clt, ↓e_cge, ↓e_cgt, ↓e_cle, ↓e_nil, ↓e_cons, ↓e_iconst, ↓e_bipush, ↓e_sipush, ↓e_ldc, ↓e_ldcw, ↓e_ldc2, ↓e_lconst, ↓e_iloadn, ↓e_iload, ↓e_lloadn, ↓e_lload, ↓e_aloadn, ↓e_aload, ↓e_istoren, ↓e_istore, ↓e_astoren, ↓e_astore, ↓e_add, ↓e_iinc, ↓e_iadd, ↓e_isub, ↓e_imul, ↓e_iand, ↓e_ior, ↓e_ixor, ↓e_ishl, ↓e_iushr, ↓e_idiv, ↓e_irem, ↓e_ineg, ↓e_i2l, ↓e_i2b, ↓e_i2s, ↓e_l2i, ↓e_land, ↓e_lor, ↓e_lshl, ↓e_lshr, ↓e_lushr, ↓e_lcmp, ↓e_dupi, ↓e_dupr, ↓e_popi, ↓e_dup2, ↓e_goto, ↓e_if, ↓e_icmp, ↓e_tsw, ↓e_lsw, ↓e_getf, ↓e_putf, ↓e_gets, ↓e_iald, ↓e_cald, ↓e_iast, ↓e_aald, ↓e_aast, ↓e_len, ↓e_copy, ↓e_abs, ↓e_max, ↓e_min, ↓e_iret, ↓e_aret, ↓e_vret, ↓e_is0, ↓e_is1, ↓e_is2, ↓e_is3, ↓e_is4, ↓e_iv1, ↓e_iv2, ↓e_iv3, ↓e_iv4, ↓e_iv5, ↓e_iv6, ↓reduceIte, Nat.reduceAdd, Nat.reduceEqDiff, ↓zcl0, ↓zclv, List.map_nil, List.sum_nil, List.map_cons, List.sum_cons, zcat, true_and, and_true, Nat.reduceLeDiff, eq_self, forall_const, implies_true, not_true_eq_false, false_implies, v_0, v_87, ↓v_0, ↓v_87, ↓s1, ↓s2, ↓s3, ↓s4, ↓s5, ↓ctL9_x_become, ↓r_x_become, ↓B_x_become]
  repeat (refine And.intro (hr _) ?_)
  exact ⟨S, h1.1, h2, fun M2 r2 f2 => J M2 r2 f2⟩
theorem lc_as {E : ZE} {X : ZK} {Rt : ZR} (hX : zCl E zlaw 13 false ctL9 Rt X) {i : Nat} {xs : Nat → Int} (s9 : Scr E i xs) (hr : ∀ j, rg (xs j)) {n : Int} (hn : n < 4000) {M : ZMm} (hM : Lin n M) (nx : ∀ M2 : ZMm, Lin (n + 1) M2 → LX X 1569 i [] M2) : LX X 550 i [] M := by
  obtain ⟨s1, s2, s3, s4, s5⟩ := s9
  obtain ⟨h1, h2, h3⟩ := hM
  obtain ⟨S, hS⟩ : ∃ S, st M = S := ⟨_, rfl⟩
  rw [hS] at h1 h2
  have J : ∀ M2 : ZMm, Rc (R_as S (xs (i + 1)) (xs (i + 2))).2 M2 → (∀ x, 87 ≤ x → M2 x = M x) → LX X 564 i [.inl (R_as S (xs (i + 1)) (xs (i + 2))).1] M2 := by
    intro M2 r2 f2
    have eS : st M2 = S := (st_eq f2).trans hS
    refine bs_L_law_564 hX ?_
    simp only [bk_L_law_564, k_L_law_564, ↓e_rk1, ↓e_rk0, ↓e_sk0, ↓e_sks, ↓e_ldi0, ↓e_ldis, ↓e_ldl0, ↓e_ldls, ↓e_lda0, ↓e_ldas, ↓e_ok0, ↓e_okss, ↓e_ok1i, ↓e_ok1r, ↓e_ok1n, ↓e_sti, ↓e_sta, ↓e_1, ↓e_2, ↓e_l1, ↓e_l2, ↓e_li, ↓e_sw0, ↓e_sws, ↓e_ceq, ↓e_cne, ↓e_clt, ↓e_cge, ↓e_cgt, ↓e_cle, ↓e_nil, ↓e_cons, ↓e_iconst, ↓e_bipush, ↓e_sipush, ↓e_ldc, ↓e_ldcw, ↓e_ldc2, ↓e_lconst, ↓e_iloadn, ↓e_iload, ↓e_lloadn, ↓e_lload, ↓e_aloadn, ↓e_aload, ↓e_istoren, ↓e_istore, ↓e_astoren, ↓e_astore, ↓e_add, ↓e_iinc, ↓e_iadd, ↓e_isub, ↓e_imul, ↓e_iand, ↓e_ior, ↓e_ixor, ↓e_ishl, ↓e_iushr, ↓e_idiv, ↓e_irem, ↓e_ineg, ↓e_i2l, ↓e_i2b, ↓e_i2s, ↓e_l2i, ↓e_land, ↓e_lor, ↓e_lshl, ↓e_lshr, ↓e_lushr, ↓e_lcmp, ↓e_dupi, ↓e_dupr, ↓e_popi, ↓e_dup2, ↓e_goto, ↓e_if, ↓e_icmp, ↓e_tsw, ↓e_lsw, ↓e_getf, ↓e_putf, ↓e_gets, ↓e_iald, ↓e_cald, ↓e_iast, ↓e_aald, ↓e_aast, ↓e_len, ↓e_copy, ↓e_abs, ↓e_max, ↓e_min, ↓e_iret, ↓e_aret, ↓e_vret, ↓e_is0, ↓e_is1, ↓e_is2, ↓e_is3, ↓e_is4, ↓e_iv1, ↓e_iv2, ↓e_iv3, ↓e_iv4, ↓e_iv5, ↓e_iv6, ↓reduceIte, Nat.reduceAdd, Nat.reduceEqDiff, ↓zcl0, ↓zclv, List.map_nil, List.sum_nil, List.map_cons, List.sum_cons, zcat, true_and, and_true, Nat.reduceLeDiff, eq_self, forall_const, implies_true, not_true_eq_false, false_implies, v_0, v_87, ↓v_0, ↓v_87, ↓s1, ↓s2, ↓s3, ↓s4, ↓s5, ↓ctL9_as, ↓r_as, ↓B_as, ↓pub, eS]
    repeat (refine And.intro (hr _) ?_)
    refine ⟨h1.1, by rw [f2 87 (by omega)]; exact h3, fun M3 e1 e2 e3 => ?_⟩
    exact nx M3 (L_fin (S := S) (R := R_as S (xs (i + 1)) (xs (i + 2))) (I_as h1) r2 e1 e2 e3)
  refine bs_L_law_550 hX ?_
  simp only [bk_L_law_550, k_L_law_550, ↓e_rk1, ↓e_rk0, ↓e_sk0, ↓e_sks, ↓e_ldi0, ↓e_ldis, ↓e_ldl0, ↓e_ldls, ↓e_lda0, ↓e_ldas, ↓e_ok0, ↓e_okss, ↓e_ok1i, ↓e_ok1r, ↓e_ok1n, ↓e_sti, ↓e_sta, ↓e_1, ↓e_2, ↓e_l1, ↓e_l2, ↓e_li, ↓e_sw0, ↓e_sws, ↓e_ceq, ↓e_cne, ↓e_clt, ↓e_cge, ↓e_cgt, ↓e_cle, ↓e_nil, ↓e_cons, ↓e_iconst, ↓e_bipush, ↓e_sipush, ↓e_ldc, ↓e_ldcw, ↓e_ldc2, ↓e_lconst, ↓e_iloadn, ↓e_iload, ↓e_lloadn, ↓e_lload, ↓e_aloadn, ↓e_aload, ↓e_istoren, ↓e_istore, ↓e_astoren, ↓e_astore, ↓e_add, ↓e_iinc, ↓e_iadd, ↓e_isub, ↓e_imul, ↓e_iand, ↓e_ior, ↓e_ixor, ↓e_ishl, ↓e_iushr, ↓e_idiv, ↓e_irem, ↓e_ineg, ↓e_i2l, ↓e_i2b, ↓e_i2s, ↓e_l2i, ↓e_land, ↓e_lor, ↓e_lshl, ↓e_lshr, ↓e_lushr, ↓e_lcmp, ↓e_dupi, ↓e_dupr, ↓e_popi, ↓e_dup2, ↓e_goto, ↓e_if, ↓e_icmp, ↓e_tsw, ↓e_lsw, ↓e_getf, ↓e_putf, ↓e_gets, ↓e_iald, ↓e_cald, ↓e_iast, ↓e_aald, ↓e_aast, ↓e_len, ↓e_copy, ↓e_abs, ↓e_max, ↓e_min, ↓e_iret, ↓e_aret, ↓e_vret, ↓e_is0, ↓e_is1, ↓e_is2, ↓e_is3, ↓e_is4, ↓e_iv1, ↓e_iv2, ↓e_iv3, ↓e_iv4, ↓e_iv5, ↓e_iv6, ↓reduceIte, Nat.reduceAdd, Nat.reduceEqDiff, ↓zcl0, ↓zclv, List.map_nil, List.sum_nil, List.map_cons, List.sum_cons, zcat, true_and, and_true, Nat.reduceLeDiff, eq_self, forall_const, implies_true, not_true_eq_false, false_implies, v_0, v_87, ↓v_0, ↓v_87, ↓s1, ↓s2, ↓s3, ↓s4, ↓s5, ↓ctL9_x_as, ↓r_x_as, ↓B_x_as]
  repeat (refine And.intro (hr _) ?_)
  exact ⟨S, h1.1, h2, fun M2 r2 f2 => J M2 r2 f2⟩
theorem lc_feed {E : ZE} {X : ZK} {Rt : ZR} (hX : zCl E zlaw 13 false ctL9 Rt X) {i : Nat} {xs : Nat → Int} (s9 : Scr E i xs) (hr : ∀ j, rg (xs j)) {n : Int} (hn : n < 4000) {M : ZMm} (hM : Lin n M) (nx : ∀ M2 : ZMm, Lin (n + 1) M2 → LX X 1569 i [] M2) : LX X 583 i [] M := by
  obtain ⟨s1, s2, s3, s4, s5⟩ := s9
  obtain ⟨h1, h2, h3⟩ := hM
  obtain ⟨S, hS⟩ : ∃ S, st M = S := ⟨_, rfl⟩
  rw [hS] at h1 h2
  have J : ∀ M2 : ZMm, Rc (R_feed S (zlorL (zlshl (zr (xs (i + 1))) 32) (zlandL (zr (xs (i + 2))) 4294967295)) (xs (i + 3))).2 M2 → (∀ x, 87 ≤ x → M2 x = M x) → LX X 612 i [.inl (R_feed S (zlorL (zlshl (zr (xs (i + 1))) 32) (zlandL (zr (xs (i + 2))) 4294967295)) (xs (i + 3))).1] M2 := by
    intro M2 r2 f2
    have eS : st M2 = S := (st_eq f2).trans hS
    refine bs_L_law_612 hX ?_
    simp only [bk_L_law_612, k_L_law_612, ↓e_rk1, ↓e_rk0, ↓e_sk0, ↓e_sks, ↓e_ldi0, ↓e_ldis, ↓e_ldl0, ↓e_ldls, ↓e_lda0, ↓e_ldas, ↓e_ok0, ↓e_okss, ↓e_ok1i, ↓e_ok1r, ↓e_ok1n, ↓e_sti, ↓e_sta, ↓e_1, ↓e_2, ↓e_l1, ↓e_l2, ↓e_li, ↓e_sw0, ↓e_sws, ↓e_ceq, ↓e_cne, ↓e_clt, ↓e_cge, ↓e_cgt, ↓e_cle, ↓e_nil, ↓e_cons, ↓e_iconst, ↓e_bipush, ↓e_sipush, ↓e_ldc, ↓e_ldcw, ↓e_ldc2, ↓e_lconst, ↓e_iloadn, ↓e_iload, ↓e_lloadn, ↓e_lload, ↓e_aloadn, ↓e_aload, ↓e_istoren, ↓e_istore, ↓e_astoren, ↓e_astore, ↓e_add, ↓e_iinc, ↓e_iadd, ↓e_isub, ↓e_imul, ↓e_iand, ↓e_ior, ↓e_ixor, ↓e_ishl, ↓e_iushr, ↓e_idiv, ↓e_irem, ↓e_ineg, ↓e_i2l, ↓e_i2b, ↓e_i2s, ↓e_l2i, ↓e_land, ↓e_lor, ↓e_lshl, ↓e_lshr, ↓e_lushr, ↓e_lcmp, ↓e_dupi, ↓e_dupr, ↓e_popi, ↓e_dup2, ↓e_goto, ↓e_if, ↓e_icmp, ↓e_tsw, ↓e_lsw, ↓e_getf, ↓e_putf, ↓e_gets, ↓e_iald, ↓e_cald, ↓e_iast, ↓e_aald, ↓e_aast, ↓e_len, ↓e_copy, ↓e_abs, ↓e_max, ↓e_min, ↓e_iret, ↓e_aret, ↓e_vret, ↓e_is0, ↓e_is1, ↓e_is2, ↓e_is3, ↓e_is4, ↓e_iv1, ↓e_iv2, ↓e_iv3, ↓e_iv4, ↓e_iv5, ↓e_iv6, ↓reduceIte, Nat.reduceAdd, Nat.reduceEqDiff, ↓zcl0, ↓zclv, List.map_nil, List.sum_nil, List.map_cons, List.sum_cons, zcat, true_and, and_true, Nat.reduceLeDiff, eq_self, forall_const, implies_true, not_true_eq_false, false_implies, v_0, v_87, ↓v_0, ↓v_87, ↓s1, ↓s2, ↓s3, ↓s4, ↓s5, ↓ctL9_feed, ↓r_feed, ↓B_feed, ↓pub, eS]
    repeat (refine And.intro (hr _) ?_)
    refine ⟨h1.1, by rw [f2 87 (by omega)]; exact h3, fun M3 e1 e2 e3 => ?_⟩
    exact nx M3 (L_fin (S := S) (R := R_feed S (zlorL (zlshl (zr (xs (i + 1))) 32) (zlandL (zr (xs (i + 2))) 4294967295)) (xs (i + 3))) (I_feed h1) r2 e1 e2 e3)
  refine bs_L_law_583 hX ?_
  simp only [bk_L_law_583, k_L_law_583, ↓e_rk1, ↓e_rk0, ↓e_sk0, ↓e_sks, ↓e_ldi0, ↓e_ldis, ↓e_ldl0, ↓e_ldls, ↓e_lda0, ↓e_ldas, ↓e_ok0, ↓e_okss, ↓e_ok1i, ↓e_ok1r, ↓e_ok1n, ↓e_sti, ↓e_sta, ↓e_1, ↓e_2, ↓e_l1, ↓e_l2, ↓e_li, ↓e_sw0, ↓e_sws, ↓e_ceq, ↓e_cne, ↓e_clt, ↓e_cge, ↓e_cgt, ↓e_cle, ↓e_nil, ↓e_cons, ↓e_iconst, ↓e_bipush, ↓e_sipush, ↓e_ldc, ↓e_ldcw, ↓e_ldc2, ↓e_lconst, ↓e_iloadn, ↓e_iload, ↓e_lloadn, ↓e_lload, ↓e_aloadn, ↓e_aload, ↓e_istoren, ↓e_istore, ↓e_astoren, ↓e_astore, ↓e_add, ↓e_iinc, ↓e_iadd, ↓e_isub, ↓e_imul, ↓e_iand, ↓e_ior, ↓e_ixor, ↓e_ishl, ↓e_iushr, ↓e_idiv, ↓e_irem, ↓e_ineg, ↓e_i2l, ↓e_i2b, ↓e_i2s, ↓e_l2i, ↓e_land, ↓e_lor, ↓e_lshl, ↓e_lshr, ↓e_lushr, ↓e_lcmp, ↓e_dupi, ↓e_dupr, ↓e_popi, ↓e_dup2, ↓e_goto, ↓e_if, ↓e_icmp, ↓e_tsw, ↓e_lsw, ↓e_getf, ↓e_putf, ↓e_gets, ↓e_iald, ↓e_cald, ↓e_iast, ↓e_aald, ↓e_aast, ↓e_len, ↓e_copy, ↓e_abs, ↓e_max, ↓e_min, ↓e_iret, ↓e_aret, ↓e_vret, ↓e_is0, ↓e_is1, ↓e_is2, ↓e_is3, ↓e_is4, ↓e_iv1, ↓e_iv2, ↓e_iv3, ↓e_iv4, ↓e_iv5, ↓e_iv6, ↓reduceIte, Nat.reduceAdd, Nat.reduceEqDiff, ↓zcl0, ↓zclv, List.map_nil, List.sum_nil, List.map_cons, List.sum_cons, zcat, true_and, and_true, Nat.reduceLeDiff, eq_self, forall_const, implies_true, not_true_eq_false, false_implies, v_0, v_87, ↓v_0, ↓v_87, ↓s1, ↓s2, ↓s3, ↓s4, ↓s5, ↓ctL9_x_feed, ↓r_x_feed, ↓B_x_feed]
  repeat (refine And.intro (hr _) ?_)
  exact ⟨S, h1.1, h2, fun M2 r2 f2 => J M2 r2 f2⟩
theorem lc_text {E : ZE} {X : ZK} {Rt : ZR} (hX : zCl E zlaw 13 false ctL9 Rt X) {i : Nat} {xs : Nat → Int} (s9 : Scr E i xs) (hr : ∀ j, rg (xs j)) {n : Int} (hn : n < 4000) {M : ZMm} (hM : Lin n M) (nx : ∀ M2 : ZMm, Lin (n + 1) M2 → LX X 1569 i [] M2) : LX X 646 i [] M := by
  obtain ⟨s1, s2, s3, s4, s5⟩ := s9
  obtain ⟨h1, h2, h3⟩ := hM
  obtain ⟨S, hS⟩ : ∃ S, st M = S := ⟨_, rfl⟩
  rw [hS] at h1 h2
  have J : ∀ M2 : ZMm, Rc (R_text S (xs (i + 1))).2 M2 → (∀ x, 87 ≤ x → M2 x = M x) → LX X 655 i [.inl (R_text S (xs (i + 1))).1] M2 := by
    intro M2 r2 f2
    have eS : st M2 = S := (st_eq f2).trans hS
    refine bs_L_law_655 hX ?_
    simp only [bk_L_law_655, k_L_law_655, ↓e_rk1, ↓e_rk0, ↓e_sk0, ↓e_sks, ↓e_ldi0, ↓e_ldis, ↓e_ldl0, ↓e_ldls, ↓e_lda0, ↓e_ldas, ↓e_ok0, ↓e_okss, ↓e_ok1i, ↓e_ok1r, ↓e_ok1n, ↓e_sti, ↓e_sta, ↓e_1, ↓e_2, ↓e_l1, ↓e_l2, ↓e_li, ↓e_sw0, ↓e_sws, ↓e_ceq, ↓e_cne, ↓e_clt, ↓e_cge, ↓e_cgt, ↓e_cle, ↓e_nil, ↓e_cons, ↓e_iconst, ↓e_bipush, ↓e_sipush, ↓e_ldc, ↓e_ldcw, ↓e_ldc2, ↓e_lconst, ↓e_iloadn, ↓e_iload, ↓e_lloadn, ↓e_lload, ↓e_aloadn, ↓e_aload, ↓e_istoren, ↓e_istore, ↓e_astoren, ↓e_astore, ↓e_add, ↓e_iinc, ↓e_iadd, ↓e_isub, ↓e_imul, ↓e_iand, ↓e_ior, ↓e_ixor, ↓e_ishl, ↓e_iushr, ↓e_idiv, ↓e_irem, ↓e_ineg, ↓e_i2l, ↓e_i2b, ↓e_i2s, ↓e_l2i, ↓e_land, ↓e_lor, ↓e_lshl, ↓e_lshr, ↓e_lushr, ↓e_lcmp, ↓e_dupi, ↓e_dupr, ↓e_popi, ↓e_dup2, ↓e_goto, ↓e_if, ↓e_icmp, ↓e_tsw, ↓e_lsw, ↓e_getf, ↓e_putf, ↓e_gets, ↓e_iald, ↓e_cald, ↓e_iast, ↓e_aald, ↓e_aast, ↓e_len, ↓e_copy, ↓e_abs, ↓e_max, ↓e_min, ↓e_iret, ↓e_aret, ↓e_vret, ↓e_is0, ↓e_is1, ↓e_is2, ↓e_is3, ↓e_is4, ↓e_iv1, ↓e_iv2, ↓e_iv3, ↓e_iv4, ↓e_iv5, ↓e_iv6, ↓reduceIte, Nat.reduceAdd, Nat.reduceEqDiff, ↓zcl0, ↓zclv, List.map_nil, List.sum_nil, List.map_cons, List.sum_cons, zcat, true_and, and_true, Nat.reduceLeDiff, eq_self, forall_const, implies_true, not_true_eq_false, false_implies, v_0, v_87, ↓v_0, ↓v_87, ↓s1, ↓s2, ↓s3, ↓s4, ↓s5, ↓ctL9_text, ↓r_text, ↓B_text, ↓B_text9, ↓pub, eS]
    repeat (refine And.intro (hr _) ?_)
    refine ⟨h1.1, by rw [f2 87 (by omega)]; exact h3, fun M3 e1 e2 e3 => ?_⟩
    exact nx M3 (L_fin (S := S) (R := R_text S (xs (i + 1))) (I_text h1) r2 e1 e2 e3)
  refine bs_L_law_646 hX ?_
  simp only [bk_L_law_646, k_L_law_646, ↓e_rk1, ↓e_rk0, ↓e_sk0, ↓e_sks, ↓e_ldi0, ↓e_ldis, ↓e_ldl0, ↓e_ldls, ↓e_lda0, ↓e_ldas, ↓e_ok0, ↓e_okss, ↓e_ok1i, ↓e_ok1r, ↓e_ok1n, ↓e_sti, ↓e_sta, ↓e_1, ↓e_2, ↓e_l1, ↓e_l2, ↓e_li, ↓e_sw0, ↓e_sws, ↓e_ceq, ↓e_cne, ↓e_clt, ↓e_cge, ↓e_cgt, ↓e_cle, ↓e_nil, ↓e_cons, ↓e_iconst, ↓e_bipush, ↓e_sipush, ↓e_ldc, ↓e_ldcw, ↓e_ldc2, ↓e_lconst, ↓e_iloadn, ↓e_iload, ↓e_lloadn, ↓e_lload, ↓e_aloadn, ↓e_aload, ↓e_istoren, ↓e_istore, ↓e_astoren, ↓e_astore, ↓e_add, ↓e_iinc, ↓e_iadd, ↓e_isub, ↓e_imul, ↓e_iand, ↓e_ior, ↓e_ixor, ↓e_ishl, ↓e_iushr, ↓e_idiv, ↓e_irem, ↓e_ineg, ↓e_i2l, ↓e_i2b, ↓e_i2s, ↓e_l2i, ↓e_land, ↓e_lor, ↓e_lshl, ↓e_lshr, ↓e_lushr, ↓e_lcmp, ↓e_dupi, ↓e_dupr, ↓e_popi, ↓e_dup2, ↓e_goto, ↓e_if, ↓e_icmp, ↓e_tsw, ↓e_lsw, ↓e_getf, ↓e_putf, ↓e_gets, ↓e_iald, ↓e_cald, ↓e_iast, ↓e_aald, ↓e_aast, ↓e_len, ↓e_copy, ↓e_abs, ↓e_max, ↓e_min, ↓e_iret, ↓e_aret, ↓e_vret, ↓e_is0, ↓e_is1, ↓e_is2, ↓e_is3, ↓e_is4, ↓e_iv1, ↓e_iv2, ↓e_iv3, ↓e_iv4, ↓e_iv5, ↓e_iv6, ↓reduceIte, Nat.reduceAdd, Nat.reduceEqDiff, ↓zcl0, ↓zclv, List.map_nil, List.sum_nil, List.map_cons, List.sum_cons, zcat, true_and, and_true, Nat.reduceLeDiff, eq_self, forall_const, implies_true, not_true_eq_false, false_implies, v_0, v_87, ↓v_0, ↓v_87, ↓s1, ↓s2, ↓s3, ↓s4, ↓s5, ↓ctL9_x_text, ↓r_x_text, ↓B_x_text, ↓B_xtext9]
  repeat (refine And.intro (hr _) ?_)
  exact ⟨S, h1.1, h2, fun M2 r2 f2 => J M2 r2 f2⟩
theorem lc_law {E : ZE} {X : ZK} {Rt : ZR} (hX : zCl E zlaw 13 false ctL9 Rt X) {i : Nat} {xs : Nat → Int} (s9 : Scr E i xs) (hr : ∀ j, rg (xs j)) {n : Int} (hn : n < 4000) {M : ZMm} (hM : Lin n M) (nx : ∀ M2 : ZMm, Lin (n + 1) M2 → LX X 1569 i [] M2) : LX X 669 i [] M := by
  obtain ⟨s1, s2, s3, s4, s5⟩ := s9
  obtain ⟨h1, h2, h3⟩ := hM
  obtain ⟨S, hS⟩ : ∃ S, st M = S := ⟨_, rfl⟩
  rw [hS] at h1 h2
  have J : ∀ M2 : ZMm, Rc (R_law S (xs (i + 1)) (xs (i + 2)) (xs (i + 3)) (xs (i + 4))).2 M2 → (∀ x, 87 ≤ x → M2 x = M x) → LX X 693 i [.inl (R_law S (xs (i + 1)) (xs (i + 2)) (xs (i + 3)) (xs (i + 4))).1] M2 := by
    intro M2 r2 f2
    have eS : st M2 = S := (st_eq f2).trans hS
    refine bs_L_law_693 hX ?_
    simp only [bk_L_law_693, k_L_law_693, ↓e_rk1, ↓e_rk0, ↓e_sk0, ↓e_sks, ↓e_ldi0, ↓e_ldis, ↓e_ldl0, ↓e_ldls, ↓e_lda0, ↓e_ldas, ↓e_ok0, ↓e_okss, ↓e_ok1i, ↓e_ok1r, ↓e_ok1n, ↓e_sti, ↓e_sta, ↓e_1, ↓e_2, ↓e_l1, ↓e_l2, ↓e_li, ↓e_sw0, ↓e_sws, ↓e_ceq, ↓e_cne, ↓e_clt, ↓e_cge, ↓e_cgt, ↓e_cle, ↓e_nil, ↓e_cons, ↓e_iconst, ↓e_bipush, ↓e_sipush, ↓e_ldc, ↓e_ldcw, ↓e_ldc2, ↓e_lconst, ↓e_iloadn, ↓e_iload, ↓e_lloadn, ↓e_lload, ↓e_aloadn, ↓e_aload, ↓e_istoren, ↓e_istore, ↓e_astoren, ↓e_astore, ↓e_add, ↓e_iinc, ↓e_iadd, ↓e_isub, ↓e_imul, ↓e_iand, ↓e_ior, ↓e_ixor, ↓e_ishl, ↓e_iushr, ↓e_idiv, ↓e_irem, ↓e_ineg, ↓e_i2l, ↓e_i2b, ↓e_i2s, ↓e_l2i, ↓e_land, ↓e_lor, ↓e_lshl, ↓e_lshr, ↓e_lushr, ↓e_lcmp, ↓e_dupi, ↓e_dupr, ↓e_popi, ↓e_dup2, ↓e_goto, ↓e_if, ↓e_icmp, ↓e_tsw, ↓e_lsw, ↓e_getf, ↓e_putf, ↓e_gets, ↓e_iald, ↓e_cald, ↓e_iast, ↓e_aald, ↓e_aast, ↓e_len, ↓e_copy, ↓e_abs, ↓e_max, ↓e_min, ↓e_iret, ↓e_aret, ↓e_vret, ↓e_is0, ↓e_is1, ↓e_is2, ↓e_is3, ↓e_is4, ↓e_iv1, ↓e_iv2, ↓e_iv3, ↓e_iv4, ↓e_iv5, ↓e_iv6, ↓reduceIte, Nat.reduceAdd, Nat.reduceEqDiff, ↓zcl0, ↓zclv, List.map_nil, List.sum_nil, List.map_cons, List.sum_cons, zcat, true_and, and_true, Nat.reduceLeDiff, eq_self, forall_const, implies_true, not_true_eq_false, false_implies, v_0, v_87, ↓v_0, ↓v_87, ↓s1, ↓s2, ↓s3, ↓s4, ↓s5, ↓ctL9_law, ↓r_law, ↓B_law, ↓pub, eS]
    repeat (refine And.intro (hr _) ?_)
    refine ⟨h1.1, by rw [f2 87 (by omega)]; exact h3, fun M3 e1 e2 e3 => ?_⟩
    exact nx M3 (L_fin (S := S) (R := R_law S (xs (i + 1)) (xs (i + 2)) (xs (i + 3)) (xs (i + 4))) (I_law h1) r2 e1 e2 e3)
  refine bs_L_law_669 hX ?_
  simp only [bk_L_law_669, k_L_law_669, ↓e_rk1, ↓e_rk0, ↓e_sk0, ↓e_sks, ↓e_ldi0, ↓e_ldis, ↓e_ldl0, ↓e_ldls, ↓e_lda0, ↓e_ldas, ↓e_ok0, ↓e_okss, ↓e_ok1i, ↓e_ok1r, ↓e_ok1n, ↓e_sti, ↓e_sta, ↓e_1, ↓e_2, ↓e_l1, ↓e_l2, ↓e_li, ↓e_sw0, ↓e_sws, ↓e_ceq, ↓e_cne, ↓e_clt, ↓e_cge, ↓e_cgt, ↓e_cle, ↓e_nil, ↓e_cons, ↓e_iconst, ↓e_bipush, ↓e_sipush, ↓e_ldc, ↓e_ldcw, ↓e_ldc2, ↓e_lconst, ↓e_iloadn, ↓e_iload, ↓e_lloadn, ↓e_lload, ↓e_aloadn, ↓e_aload, ↓e_istoren, ↓e_istore, ↓e_astoren, ↓e_astore, ↓e_add, ↓e_iinc, ↓e_iadd, ↓e_isub, ↓e_imul, ↓e_iand, ↓e_ior, ↓e_ixor, ↓e_ishl, ↓e_iushr, ↓e_idiv, ↓e_irem, ↓e_ineg, ↓e_i2l, ↓e_i2b, ↓e_i2s, ↓e_l2i, ↓e_land, ↓e_lor, ↓e_lshl, ↓e_lshr, ↓e_lushr, ↓e_lcmp, ↓e_dupi, ↓e_dupr, ↓e_popi, ↓e_dup2, ↓e_goto, ↓e_if, ↓e_icmp, ↓e_tsw, ↓e_lsw, ↓e_getf, ↓e_putf, ↓e_gets, ↓e_iald, ↓e_cald, ↓e_iast, ↓e_aald, ↓e_aast, ↓e_len, ↓e_copy, ↓e_abs, ↓e_max, ↓e_min, ↓e_iret, ↓e_aret, ↓e_vret, ↓e_is0, ↓e_is1, ↓e_is2, ↓e_is3, ↓e_is4, ↓e_iv1, ↓e_iv2, ↓e_iv3, ↓e_iv4, ↓e_iv5, ↓e_iv6, ↓reduceIte, Nat.reduceAdd, Nat.reduceEqDiff, ↓zcl0, ↓zclv, List.map_nil, List.sum_nil, List.map_cons, List.sum_cons, zcat, true_and, and_true, Nat.reduceLeDiff, eq_self, forall_const, implies_true, not_true_eq_false, false_implies, v_0, v_87, ↓v_0, ↓v_87, ↓s1, ↓s2, ↓s3, ↓s4, ↓s5, ↓ctL9_x_law, ↓r_x_law, ↓B_x_law]
  repeat (refine And.intro (hr _) ?_)
  exact ⟨S, h1.1, h2, fun M2 r2 f2 => J M2 r2 f2⟩
theorem lc_years {E : ZE} {X : ZK} {Rt : ZR} (hX : zCl E zlaw 13 false ctL9 Rt X) {i : Nat} {xs : Nat → Int} (s9 : Scr E i xs) (hr : ∀ j, rg (xs j)) {n : Int} (hn : n < 4000) {M : ZMm} (hM : Lin n M) (nx : ∀ M2 : ZMm, Lin (n + 1) M2 → LX X 1569 i [] M2) : LX X 722 i [] M := by
  obtain ⟨s1, s2, s3, s4, s5⟩ := s9
  obtain ⟨h1, h2, h3⟩ := hM
  obtain ⟨S, hS⟩ : ∃ S, st M = S := ⟨_, rfl⟩
  rw [hS] at h1 h2
  have J : ∀ M2 : ZMm, Rc (R_years S (xs (i + 1))).2 M2 → (∀ x, 87 ≤ x → M2 x = M x) → LX X 731 i [.inl (R_years S (xs (i + 1))).1] M2 := by
    intro M2 r2 f2
    have eS : st M2 = S := (st_eq f2).trans hS
    refine bs_L_law_731 hX ?_
    simp only [bk_L_law_731, k_L_law_731, ↓e_rk1, ↓e_rk0, ↓e_sk0, ↓e_sks, ↓e_ldi0, ↓e_ldis, ↓e_ldl0, ↓e_ldls, ↓e_lda0, ↓e_ldas, ↓e_ok0, ↓e_okss, ↓e_ok1i, ↓e_ok1r, ↓e_ok1n, ↓e_sti, ↓e_sta, ↓e_1, ↓e_2, ↓e_l1, ↓e_l2, ↓e_li, ↓e_sw0, ↓e_sws, ↓e_ceq, ↓e_cne, ↓e_clt, ↓e_cge, ↓e_cgt, ↓e_cle, ↓e_nil, ↓e_cons, ↓e_iconst, ↓e_bipush, ↓e_sipush, ↓e_ldc, ↓e_ldcw, ↓e_ldc2, ↓e_lconst, ↓e_iloadn, ↓e_iload, ↓e_lloadn, ↓e_lload, ↓e_aloadn, ↓e_aload, ↓e_istoren, ↓e_istore, ↓e_astoren, ↓e_astore, ↓e_add, ↓e_iinc, ↓e_iadd, ↓e_isub, ↓e_imul, ↓e_iand, ↓e_ior, ↓e_ixor, ↓e_ishl, ↓e_iushr, ↓e_idiv, ↓e_irem, ↓e_ineg, ↓e_i2l, ↓e_i2b, ↓e_i2s, ↓e_l2i, ↓e_land, ↓e_lor, ↓e_lshl, ↓e_lshr, ↓e_lushr, ↓e_lcmp, ↓e_dupi, ↓e_dupr, ↓e_popi, ↓e_dup2, ↓e_goto, ↓e_if, ↓e_icmp, ↓e_tsw, ↓e_lsw, ↓e_getf, ↓e_putf, ↓e_gets, ↓e_iald, ↓e_cald, ↓e_iast, ↓e_aald, ↓e_aast, ↓e_len, ↓e_copy, ↓e_abs, ↓e_max, ↓e_min, ↓e_iret, ↓e_aret, ↓e_vret, ↓e_is0, ↓e_is1, ↓e_is2, ↓e_is3, ↓e_is4, ↓e_iv1, ↓e_iv2, ↓e_iv3, ↓e_iv4, ↓e_iv5, ↓e_iv6, ↓reduceIte, Nat.reduceAdd, Nat.reduceEqDiff, ↓zcl0, ↓zclv, List.map_nil, List.sum_nil, List.map_cons, List.sum_cons, zcat, true_and, and_true, Nat.reduceLeDiff, eq_self, forall_const, implies_true, not_true_eq_false, false_implies, v_0, v_87, ↓v_0, ↓v_87, ↓s1, ↓s2, ↓s3, ↓s4, ↓s5, ↓ctL9_years, ↓r_years, ↓B_years, ↓pub, eS]
    repeat (refine And.intro (hr _) ?_)
    refine ⟨h1.1, by rw [f2 87 (by omega)]; exact h3, fun M3 e1 e2 e3 => ?_⟩
    exact nx M3 (L_fin (S := S) (R := R_years S (xs (i + 1))) (I_years h1) r2 e1 e2 e3)
  refine bs_L_law_722 hX ?_
  simp only [bk_L_law_722, k_L_law_722, ↓e_rk1, ↓e_rk0, ↓e_sk0, ↓e_sks, ↓e_ldi0, ↓e_ldis, ↓e_ldl0, ↓e_ldls, ↓e_lda0, ↓e_ldas, ↓e_ok0, ↓e_okss, ↓e_ok1i, ↓e_ok1r, ↓e_ok1n, ↓e_sti, ↓e_sta, ↓e_1, ↓e_2, ↓e_l1, ↓e_l2, ↓e_li, ↓e_sw0, ↓e_sws, ↓e_ceq, ↓e_cne, ↓e_clt, ↓e_cge, ↓e_cgt, ↓e_cle, ↓e_nil, ↓e_cons, ↓e_iconst, ↓e_bipush, ↓e_sipush, ↓e_ldc, ↓e_ldcw, ↓e_ldc2, ↓e_lconst, ↓e_iloadn, ↓e_iload, ↓e_lloadn, ↓e_lload, ↓e_aloadn, ↓e_aload, ↓e_istoren, ↓e_istore, ↓e_astoren, ↓e_astore, ↓e_add, ↓e_iinc, ↓e_iadd, ↓e_isub, ↓e_imul, ↓e_iand, ↓e_ior, ↓e_ixor, ↓e_ishl, ↓e_iushr, ↓e_idiv, ↓e_irem, ↓e_ineg, ↓e_i2l, ↓e_i2b, ↓e_i2s, ↓e_l2i, ↓e_land, ↓e_lor, ↓e_lshl, ↓e_lshr, ↓e_lushr, ↓e_lcmp, ↓e_dupi, ↓e_dupr, ↓e_popi, ↓e_dup2, ↓e_goto, ↓e_if, ↓e_icmp, ↓e_tsw, ↓e_lsw, ↓e_getf, ↓e_putf, ↓e_gets, ↓e_iald, ↓e_cald, ↓e_iast, ↓e_aald, ↓e_aast, ↓e_len, ↓e_copy, ↓e_abs, ↓e_max, ↓e_min, ↓e_iret, ↓e_aret, ↓e_vret, ↓e_is0, ↓e_is1, ↓e_is2, ↓e_is3, ↓e_is4, ↓e_iv1, ↓e_iv2, ↓e_iv3, ↓e_iv4, ↓e_iv5, ↓e_iv6, ↓reduceIte, Nat.reduceAdd, Nat.reduceEqDiff, ↓zcl0, ↓zclv, List.map_nil, List.sum_nil, List.map_cons, List.sum_cons, zcat, true_and, and_true, Nat.reduceLeDiff, eq_self, forall_const, implies_true, not_true_eq_false, false_implies, v_0, v_87, ↓v_0, ↓v_87, ↓s1, ↓s2, ↓s3, ↓s4, ↓s5, ↓ctL9_x_years, ↓r_x_years, ↓B_x_years]
  repeat (refine And.intro (hr _) ?_)
  exact ⟨S, h1.1, h2, fun M2 r2 f2 => J M2 r2 f2⟩
theorem lc_loose {E : ZE} {X : ZK} {Rt : ZR} (hX : zCl E zlaw 13 false ctL9 Rt X) {i : Nat} {xs : Nat → Int} (s9 : Scr E i xs) (hr : ∀ j, rg (xs j)) {n : Int} (hn : n < 4000) {M : ZMm} (hM : Lin n M) (nx : ∀ M2 : ZMm, Lin (n + 1) M2 → LX X 1569 i [] M2) : LX X 745 i [] M := by
  obtain ⟨s1, s2, s3, s4, s5⟩ := s9
  obtain ⟨h1, h2, h3⟩ := hM
  obtain ⟨S, hS⟩ : ∃ S, st M = S := ⟨_, rfl⟩
  rw [hS] at h1 h2
  have J : ∀ M2 : ZMm, Rc (R_loose S (xs (i + 1))).2 M2 → (∀ x, 87 ≤ x → M2 x = M x) → LX X 754 i [.inl (R_loose S (xs (i + 1))).1] M2 := by
    intro M2 r2 f2
    have eS : st M2 = S := (st_eq f2).trans hS
    refine bs_L_law_754 hX ?_
    simp only [bk_L_law_754, k_L_law_754, ↓e_rk1, ↓e_rk0, ↓e_sk0, ↓e_sks, ↓e_ldi0, ↓e_ldis, ↓e_ldl0, ↓e_ldls, ↓e_lda0, ↓e_ldas, ↓e_ok0, ↓e_okss, ↓e_ok1i, ↓e_ok1r, ↓e_ok1n, ↓e_sti, ↓e_sta, ↓e_1, ↓e_2, ↓e_l1, ↓e_l2, ↓e_li, ↓e_sw0, ↓e_sws, ↓e_ceq, ↓e_cne, ↓e_clt, ↓e_cge, ↓e_cgt, ↓e_cle, ↓e_nil, ↓e_cons, ↓e_iconst, ↓e_bipush, ↓e_sipush, ↓e_ldc, ↓e_ldcw, ↓e_ldc2, ↓e_lconst, ↓e_iloadn, ↓e_iload, ↓e_lloadn, ↓e_lload, ↓e_aloadn, ↓e_aload, ↓e_istoren, ↓e_istore, ↓e_astoren, ↓e_astore, ↓e_add, ↓e_iinc, ↓e_iadd, ↓e_isub, ↓e_imul, ↓e_iand, ↓e_ior, ↓e_ixor, ↓e_ishl, ↓e_iushr, ↓e_idiv, ↓e_irem, ↓e_ineg, ↓e_i2l, ↓e_i2b, ↓e_i2s, ↓e_l2i, ↓e_land, ↓e_lor, ↓e_lshl, ↓e_lshr, ↓e_lushr, ↓e_lcmp, ↓e_dupi, ↓e_dupr, ↓e_popi, ↓e_dup2, ↓e_goto, ↓e_if, ↓e_icmp, ↓e_tsw, ↓e_lsw, ↓e_getf, ↓e_putf, ↓e_gets, ↓e_iald, ↓e_cald, ↓e_iast, ↓e_aald, ↓e_aast, ↓e_len, ↓e_copy, ↓e_abs, ↓e_max, ↓e_min, ↓e_iret, ↓e_aret, ↓e_vret, ↓e_is0, ↓e_is1, ↓e_is2, ↓e_is3, ↓e_is4, ↓e_iv1, ↓e_iv2, ↓e_iv3, ↓e_iv4, ↓e_iv5, ↓e_iv6, ↓reduceIte, Nat.reduceAdd, Nat.reduceEqDiff, ↓zcl0, ↓zclv, List.map_nil, List.sum_nil, List.map_cons, List.sum_cons, zcat, true_and, and_true, Nat.reduceLeDiff, eq_self, forall_const, implies_true, not_true_eq_false, false_implies, v_0, v_87, ↓v_0, ↓v_87, ↓s1, ↓s2, ↓s3, ↓s4, ↓s5, ↓ctL9_loose, ↓r_loose, ↓B_loose, ↓pub, eS]
    repeat (refine And.intro (hr _) ?_)
    refine ⟨h1.1, by rw [f2 87 (by omega)]; exact h3, fun M3 e1 e2 e3 => ?_⟩
    exact nx M3 (L_fin (S := S) (R := R_loose S (xs (i + 1))) (I_loose h1) r2 e1 e2 e3)
  refine bs_L_law_745 hX ?_
  simp only [bk_L_law_745, k_L_law_745, ↓e_rk1, ↓e_rk0, ↓e_sk0, ↓e_sks, ↓e_ldi0, ↓e_ldis, ↓e_ldl0, ↓e_ldls, ↓e_lda0, ↓e_ldas, ↓e_ok0, ↓e_okss, ↓e_ok1i, ↓e_ok1r, ↓e_ok1n, ↓e_sti, ↓e_sta, ↓e_1, ↓e_2, ↓e_l1, ↓e_l2, ↓e_li, ↓e_sw0, ↓e_sws, ↓e_ceq, ↓e_cne, ↓e_clt, ↓e_cge, ↓e_cgt, ↓e_cle, ↓e_nil, ↓e_cons, ↓e_iconst, ↓e_bipush, ↓e_sipush, ↓e_ldc, ↓e_ldcw, ↓e_ldc2, ↓e_lconst, ↓e_iloadn, ↓e_iload, ↓e_lloadn, ↓e_lload, ↓e_aloadn, ↓e_aload, ↓e_istoren, ↓e_istore, ↓e_astoren, ↓e_astore, ↓e_add, ↓e_iinc, ↓e_iadd, ↓e_isub, ↓e_imul, ↓e_iand, ↓e_ior, ↓e_ixor, ↓e_ishl, ↓e_iushr, ↓e_idiv, ↓e_irem, ↓e_ineg, ↓e_i2l, ↓e_i2b, ↓e_i2s, ↓e_l2i, ↓e_land, ↓e_lor, ↓e_lshl, ↓e_lshr, ↓e_lushr, ↓e_lcmp, ↓e_dupi, ↓e_dupr, ↓e_popi, ↓e_dup2, ↓e_goto, ↓e_if, ↓e_icmp, ↓e_tsw, ↓e_lsw, ↓e_getf, ↓e_putf, ↓e_gets, ↓e_iald, ↓e_cald, ↓e_iast, ↓e_aald, ↓e_aast, ↓e_len, ↓e_copy, ↓e_abs, ↓e_max, ↓e_min, ↓e_iret, ↓e_aret, ↓e_vret, ↓e_is0, ↓e_is1, ↓e_is2, ↓e_is3, ↓e_is4, ↓e_iv1, ↓e_iv2, ↓e_iv3, ↓e_iv4, ↓e_iv5, ↓e_iv6, ↓reduceIte, Nat.reduceAdd, Nat.reduceEqDiff, ↓zcl0, ↓zclv, List.map_nil, List.sum_nil, List.map_cons, List.sum_cons, zcat, true_and, and_true, Nat.reduceLeDiff, eq_self, forall_const, implies_true, not_true_eq_false, false_implies, v_0, v_87, ↓v_0, ↓v_87, ↓s1, ↓s2, ↓s3, ↓s4, ↓s5, ↓ctL9_x_loose, ↓r_x_loose, ↓B_x_loose]
  repeat (refine And.intro (hr _) ?_)
  exact ⟨S, h1.1, h2, fun M2 r2 f2 => J M2 r2 f2⟩
theorem lc_then {E : ZE} {X : ZK} {Rt : ZR} (hX : zCl E zlaw 13 false ctL9 Rt X) {i : Nat} {xs : Nat → Int} (s9 : Scr E i xs) (hr : ∀ j, rg (xs j)) {n : Int} (hn : n < 4000) {M : ZMm} (hM : Lin n M) (nx : ∀ M2 : ZMm, Lin (n + 1) M2 → LX X 1569 i [] M2) : LX X 768 i [] M := by
  obtain ⟨s1, s2, s3, s4, s5⟩ := s9
  obtain ⟨h1, h2, h3⟩ := hM
  obtain ⟨S, hS⟩ : ∃ S, st M = S := ⟨_, rfl⟩
  rw [hS] at h1 h2
  have J : ∀ M2 : ZMm, Rc (R_then S (xs (i + 1)) (xs (i + 2)) (xs (i + 3))).2 M2 → (∀ x, 87 ≤ x → M2 x = M x) → LX X 787 i [.inl (R_then S (xs (i + 1)) (xs (i + 2)) (xs (i + 3))).1] M2 := by
    intro M2 r2 f2
    have eS : st M2 = S := (st_eq f2).trans hS
    refine bs_L_law_787 hX ?_
    simp only [bk_L_law_787, k_L_law_787, ↓e_rk1, ↓e_rk0, ↓e_sk0, ↓e_sks, ↓e_ldi0, ↓e_ldis, ↓e_ldl0, ↓e_ldls, ↓e_lda0, ↓e_ldas, ↓e_ok0, ↓e_okss, ↓e_ok1i, ↓e_ok1r, ↓e_ok1n, ↓e_sti, ↓e_sta, ↓e_1, ↓e_2, ↓e_l1, ↓e_l2, ↓e_li, ↓e_sw0, ↓e_sws, ↓e_ceq, ↓e_cne, ↓e_clt, ↓e_cge, ↓e_cgt, ↓e_cle, ↓e_nil, ↓e_cons, ↓e_iconst, ↓e_bipush, ↓e_sipush, ↓e_ldc, ↓e_ldcw, ↓e_ldc2, ↓e_lconst, ↓e_iloadn, ↓e_iload, ↓e_lloadn, ↓e_lload, ↓e_aloadn, ↓e_aload, ↓e_istoren, ↓e_istore, ↓e_astoren, ↓e_astore, ↓e_add, ↓e_iinc, ↓e_iadd, ↓e_isub, ↓e_imul, ↓e_iand, ↓e_ior, ↓e_ixor, ↓e_ishl, ↓e_iushr, ↓e_idiv, ↓e_irem, ↓e_ineg, ↓e_i2l, ↓e_i2b, ↓e_i2s, ↓e_l2i, ↓e_land, ↓e_lor, ↓e_lshl, ↓e_lshr, ↓e_lushr, ↓e_lcmp, ↓e_dupi, ↓e_dupr, ↓e_popi, ↓e_dup2, ↓e_goto, ↓e_if, ↓e_icmp, ↓e_tsw, ↓e_lsw, ↓e_getf, ↓e_putf, ↓e_gets, ↓e_iald, ↓e_cald, ↓e_iast, ↓e_aald, ↓e_aast, ↓e_len, ↓e_copy, ↓e_abs, ↓e_max, ↓e_min, ↓e_iret, ↓e_aret, ↓e_vret, ↓e_is0, ↓e_is1, ↓e_is2, ↓e_is3, ↓e_is4, ↓e_iv1, ↓e_iv2, ↓e_iv3, ↓e_iv4, ↓e_iv5, ↓e_iv6, ↓reduceIte, Nat.reduceAdd, Nat.reduceEqDiff, ↓zcl0, ↓zclv, List.map_nil, List.sum_nil, List.map_cons, List.sum_cons, zcat, true_and, and_true, Nat.reduceLeDiff, eq_self, forall_const, implies_true, not_true_eq_false, false_implies, v_0, v_87, ↓v_0, ↓v_87, ↓s1, ↓s2, ↓s3, ↓s4, ↓s5, ↓ctL9_then, ↓r_then, ↓B_then, ↓pub, eS]
    repeat (refine And.intro (hr _) ?_)
    refine ⟨h1.1, by rw [f2 87 (by omega)]; exact h3, fun M3 e1 e2 e3 => ?_⟩
    exact nx M3 (L_fin (S := S) (R := R_then S (xs (i + 1)) (xs (i + 2)) (xs (i + 3))) (I_then h1) r2 e1 e2 e3)
  refine bs_L_law_768 hX ?_
  simp only [bk_L_law_768, k_L_law_768, ↓e_rk1, ↓e_rk0, ↓e_sk0, ↓e_sks, ↓e_ldi0, ↓e_ldis, ↓e_ldl0, ↓e_ldls, ↓e_lda0, ↓e_ldas, ↓e_ok0, ↓e_okss, ↓e_ok1i, ↓e_ok1r, ↓e_ok1n, ↓e_sti, ↓e_sta, ↓e_1, ↓e_2, ↓e_l1, ↓e_l2, ↓e_li, ↓e_sw0, ↓e_sws, ↓e_ceq, ↓e_cne, ↓e_clt, ↓e_cge, ↓e_cgt, ↓e_cle, ↓e_nil, ↓e_cons, ↓e_iconst, ↓e_bipush, ↓e_sipush, ↓e_ldc, ↓e_ldcw, ↓e_ldc2, ↓e_lconst, ↓e_iloadn, ↓e_iload, ↓e_lloadn, ↓e_lload, ↓e_aloadn, ↓e_aload, ↓e_istoren, ↓e_istore, ↓e_astoren, ↓e_astore, ↓e_add, ↓e_iinc, ↓e_iadd, ↓e_isub, ↓e_imul, ↓e_iand, ↓e_ior, ↓e_ixor, ↓e_ishl, ↓e_iushr, ↓e_idiv, ↓e_irem, ↓e_ineg, ↓e_i2l, ↓e_i2b, ↓e_i2s, ↓e_l2i, ↓e_land, ↓e_lor, ↓e_lshl, ↓e_lshr, ↓e_lushr, ↓e_lcmp, ↓e_dupi, ↓e_dupr, ↓e_popi, ↓e_dup2, ↓e_goto, ↓e_if, ↓e_icmp, ↓e_tsw, ↓e_lsw, ↓e_getf, ↓e_putf, ↓e_gets, ↓e_iald, ↓e_cald, ↓e_iast, ↓e_aald, ↓e_aast, ↓e_len, ↓e_copy, ↓e_abs, ↓e_max, ↓e_min, ↓e_iret, ↓e_aret, ↓e_vret, ↓e_is0, ↓e_is1, ↓e_is2, ↓e_is3, ↓e_is4, ↓e_iv1, ↓e_iv2, ↓e_iv3, ↓e_iv4, ↓e_iv5, ↓e_iv6, ↓reduceIte, Nat.reduceAdd, Nat.reduceEqDiff, ↓zcl0, ↓zclv, List.map_nil, List.sum_nil, List.map_cons, List.sum_cons, zcat, true_and, and_true, Nat.reduceLeDiff, eq_self, forall_const, implies_true, not_true_eq_false, false_implies, v_0, v_87, ↓v_0, ↓v_87, ↓s1, ↓s2, ↓s3, ↓s4, ↓s5, ↓ctL9_x_then, ↓r_x_then, ↓B_x_then]
  repeat (refine And.intro (hr _) ?_)
  exact ⟨S, h1.1, h2, fun M2 r2 f2 => J M2 r2 f2⟩
theorem lc_meets {E : ZE} {X : ZK} {Rt : ZR} (hX : zCl E zlaw 13 false ctL9 Rt X) {i : Nat} {xs : Nat → Int} (s9 : Scr E i xs) (hr : ∀ j, rg (xs j)) {n : Int} (hn : n < 4000) {M : ZMm} (hM : Lin n M) (nx : ∀ M2 : ZMm, Lin (n + 1) M2 → LX X 1569 i [] M2) : LX X 811 i [] M := by
  obtain ⟨s1, s2, s3, s4, s5⟩ := s9
  obtain ⟨h1, h2, h3⟩ := hM
  obtain ⟨S, hS⟩ : ∃ S, st M = S := ⟨_, rfl⟩
  rw [hS] at h1 h2
  have J : ∀ M2 : ZMm, Rc (R_meets S).2 M2 → (∀ x, 87 ≤ x → M2 x = M x) → LX X 815 i [.inl (R_meets S).1] M2 := by
    intro M2 r2 f2
    have eS : st M2 = S := (st_eq f2).trans hS
    refine bs_L_law_815 hX ?_
    simp only [bk_L_law_815, k_L_law_815, ↓e_rk1, ↓e_rk0, ↓e_sk0, ↓e_sks, ↓e_ldi0, ↓e_ldis, ↓e_ldl0, ↓e_ldls, ↓e_lda0, ↓e_ldas, ↓e_ok0, ↓e_okss, ↓e_ok1i, ↓e_ok1r, ↓e_ok1n, ↓e_sti, ↓e_sta, ↓e_1, ↓e_2, ↓e_l1, ↓e_l2, ↓e_li, ↓e_sw0, ↓e_sws, ↓e_ceq, ↓e_cne, ↓e_clt, ↓e_cge, ↓e_cgt, ↓e_cle, ↓e_nil, ↓e_cons, ↓e_iconst, ↓e_bipush, ↓e_sipush, ↓e_ldc, ↓e_ldcw, ↓e_ldc2, ↓e_lconst, ↓e_iloadn, ↓e_iload, ↓e_lloadn, ↓e_lload, ↓e_aloadn, ↓e_aload, ↓e_istoren, ↓e_istore, ↓e_astoren, ↓e_astore, ↓e_add, ↓e_iinc, ↓e_iadd, ↓e_isub, ↓e_imul, ↓e_iand, ↓e_ior, ↓e_ixor, ↓e_ishl, ↓e_iushr, ↓e_idiv, ↓e_irem, ↓e_ineg, ↓e_i2l, ↓e_i2b, ↓e_i2s, ↓e_l2i, ↓e_land, ↓e_lor, ↓e_lshl, ↓e_lshr, ↓e_lushr, ↓e_lcmp, ↓e_dupi, ↓e_dupr, ↓e_popi, ↓e_dup2, ↓e_goto, ↓e_if, ↓e_icmp, ↓e_tsw, ↓e_lsw, ↓e_getf, ↓e_putf, ↓e_gets, ↓e_iald, ↓e_cald, ↓e_iast, ↓e_aald, ↓e_aast, ↓e_len, ↓e_copy, ↓e_abs, ↓e_max, ↓e_min, ↓e_iret, ↓e_aret, ↓e_vret, ↓e_is0, ↓e_is1, ↓e_is2, ↓e_is3, ↓e_is4, ↓e_iv1, ↓e_iv2, ↓e_iv3, ↓e_iv4, ↓e_iv5, ↓e_iv6, ↓reduceIte, Nat.reduceAdd, Nat.reduceEqDiff, ↓zcl0, ↓zclv, List.map_nil, List.sum_nil, List.map_cons, List.sum_cons, zcat, true_and, and_true, Nat.reduceLeDiff, eq_self, forall_const, implies_true, not_true_eq_false, false_implies, v_0, v_87, ↓v_0, ↓v_87, ↓s1, ↓s2, ↓s3, ↓s4, ↓s5, ↓ctL9_meets, ↓r_meets, ↓B_meets, ↓pub, eS]
    repeat (refine And.intro (hr _) ?_)
    refine ⟨h1.1, by rw [f2 87 (by omega)]; exact h3, fun M3 e1 e2 e3 => ?_⟩
    exact nx M3 (L_fin (S := S) (R := R_meets S) (I_meets h1) r2 e1 e2 e3)
  refine bs_L_law_811 hX ?_
  simp only [bk_L_law_811, k_L_law_811, ↓e_rk1, ↓e_rk0, ↓e_sk0, ↓e_sks, ↓e_ldi0, ↓e_ldis, ↓e_ldl0, ↓e_ldls, ↓e_lda0, ↓e_ldas, ↓e_ok0, ↓e_okss, ↓e_ok1i, ↓e_ok1r, ↓e_ok1n, ↓e_sti, ↓e_sta, ↓e_1, ↓e_2, ↓e_l1, ↓e_l2, ↓e_li, ↓e_sw0, ↓e_sws, ↓e_ceq, ↓e_cne, ↓e_clt, ↓e_cge, ↓e_cgt, ↓e_cle, ↓e_nil, ↓e_cons, ↓e_iconst, ↓e_bipush, ↓e_sipush, ↓e_ldc, ↓e_ldcw, ↓e_ldc2, ↓e_lconst, ↓e_iloadn, ↓e_iload, ↓e_lloadn, ↓e_lload, ↓e_aloadn, ↓e_aload, ↓e_istoren, ↓e_istore, ↓e_astoren, ↓e_astore, ↓e_add, ↓e_iinc, ↓e_iadd, ↓e_isub, ↓e_imul, ↓e_iand, ↓e_ior, ↓e_ixor, ↓e_ishl, ↓e_iushr, ↓e_idiv, ↓e_irem, ↓e_ineg, ↓e_i2l, ↓e_i2b, ↓e_i2s, ↓e_l2i, ↓e_land, ↓e_lor, ↓e_lshl, ↓e_lshr, ↓e_lushr, ↓e_lcmp, ↓e_dupi, ↓e_dupr, ↓e_popi, ↓e_dup2, ↓e_goto, ↓e_if, ↓e_icmp, ↓e_tsw, ↓e_lsw, ↓e_getf, ↓e_putf, ↓e_gets, ↓e_iald, ↓e_cald, ↓e_iast, ↓e_aald, ↓e_aast, ↓e_len, ↓e_copy, ↓e_abs, ↓e_max, ↓e_min, ↓e_iret, ↓e_aret, ↓e_vret, ↓e_is0, ↓e_is1, ↓e_is2, ↓e_is3, ↓e_is4, ↓e_iv1, ↓e_iv2, ↓e_iv3, ↓e_iv4, ↓e_iv5, ↓e_iv6, ↓reduceIte, Nat.reduceAdd, Nat.reduceEqDiff, ↓zcl0, ↓zclv, List.map_nil, List.sum_nil, List.map_cons, List.sum_cons, zcat, true_and, and_true, Nat.reduceLeDiff, eq_self, forall_const, implies_true, not_true_eq_false, false_implies, v_0, v_87, ↓v_0, ↓v_87, ↓s1, ↓s2, ↓s3, ↓s4, ↓s5, ↓ctL9_x_meets, ↓r_x_meets, ↓B_x_meets]
  repeat (refine And.intro (hr _) ?_)
  exact ⟨S, h1.1, h2, fun M2 r2 f2 => J M2 r2 f2⟩
theorem lc_apart {E : ZE} {X : ZK} {Rt : ZR} (hX : zCl E zlaw 13 false ctL9 Rt X) {i : Nat} {xs : Nat → Int} (s9 : Scr E i xs) (hr : ∀ j, rg (xs j)) {n : Int} (hn : n < 4000) {M : ZMm} (hM : Lin n M) (nx : ∀ M2 : ZMm, Lin (n + 1) M2 → LX X 1569 i [] M2) : LX X 824 i [] M := by
  obtain ⟨s1, s2, s3, s4, s5⟩ := s9
  obtain ⟨h1, h2, h3⟩ := hM
  obtain ⟨S, hS⟩ : ∃ S, st M = S := ⟨_, rfl⟩
  rw [hS] at h1 h2
  have J : ∀ M2 : ZMm, Rc (R_apart S (xs (i + 1))).2 M2 → (∀ x, 87 ≤ x → M2 x = M x) → LX X 833 i [.inl (R_apart S (xs (i + 1))).1] M2 := by
    intro M2 r2 f2
    have eS : st M2 = S := (st_eq f2).trans hS
    refine bs_L_law_833 hX ?_
    simp only [bk_L_law_833, k_L_law_833, ↓e_rk1, ↓e_rk0, ↓e_sk0, ↓e_sks, ↓e_ldi0, ↓e_ldis, ↓e_ldl0, ↓e_ldls, ↓e_lda0, ↓e_ldas, ↓e_ok0, ↓e_okss, ↓e_ok1i, ↓e_ok1r, ↓e_ok1n, ↓e_sti, ↓e_sta, ↓e_1, ↓e_2, ↓e_l1, ↓e_l2, ↓e_li, ↓e_sw0, ↓e_sws, ↓e_ceq, ↓e_cne, ↓e_clt, ↓e_cge, ↓e_cgt, ↓e_cle, ↓e_nil, ↓e_cons, ↓e_iconst, ↓e_bipush, ↓e_sipush, ↓e_ldc, ↓e_ldcw, ↓e_ldc2, ↓e_lconst, ↓e_iloadn, ↓e_iload, ↓e_lloadn, ↓e_lload, ↓e_aloadn, ↓e_aload, ↓e_istoren, ↓e_istore, ↓e_astoren, ↓e_astore, ↓e_add, ↓e_iinc, ↓e_iadd, ↓e_isub, ↓e_imul, ↓e_iand, ↓e_ior, ↓e_ixor, ↓e_ishl, ↓e_iushr, ↓e_idiv, ↓e_irem, ↓e_ineg, ↓e_i2l, ↓e_i2b, ↓e_i2s, ↓e_l2i, ↓e_land, ↓e_lor, ↓e_lshl, ↓e_lshr, ↓e_lushr, ↓e_lcmp, ↓e_dupi, ↓e_dupr, ↓e_popi, ↓e_dup2, ↓e_goto, ↓e_if, ↓e_icmp, ↓e_tsw, ↓e_lsw, ↓e_getf, ↓e_putf, ↓e_gets, ↓e_iald, ↓e_cald, ↓e_iast, ↓e_aald, ↓e_aast, ↓e_len, ↓e_copy, ↓e_abs, ↓e_max, ↓e_min, ↓e_iret, ↓e_aret, ↓e_vret, ↓e_is0, ↓e_is1, ↓e_is2, ↓e_is3, ↓e_is4, ↓e_iv1, ↓e_iv2, ↓e_iv3, ↓e_iv4, ↓e_iv5, ↓e_iv6, ↓reduceIte, Nat.reduceAdd, Nat.reduceEqDiff, ↓zcl0, ↓zclv, List.map_nil, List.sum_nil, List.map_cons, List.sum_cons, zcat, true_and, and_true, Nat.reduceLeDiff, eq_self, forall_const, implies_true, not_true_eq_false, false_implies, v_0, v_87, ↓v_0, ↓v_87, ↓s1, ↓s2, ↓s3, ↓s4, ↓s5, ↓ctL9_apart, ↓r_apart, ↓B_apart, ↓pub, eS]
    repeat (refine And.intro (hr _) ?_)
    refine ⟨h1.1, by rw [f2 87 (by omega)]; exact h3, fun M3 e1 e2 e3 => ?_⟩
    exact nx M3 (L_fin (S := S) (R := R_apart S (xs (i + 1))) (I_apart h1) r2 e1 e2 e3)
  refine bs_L_law_824 hX ?_
  simp only [bk_L_law_824, k_L_law_824, ↓e_rk1, ↓e_rk0, ↓e_sk0, ↓e_sks, ↓e_ldi0, ↓e_ldis, ↓e_ldl0, ↓e_ldls, ↓e_lda0, ↓e_ldas, ↓e_ok0, ↓e_okss, ↓e_ok1i, ↓e_ok1r, ↓e_ok1n, ↓e_sti, ↓e_sta, ↓e_1, ↓e_2, ↓e_l1, ↓e_l2, ↓e_li, ↓e_sw0, ↓e_sws, ↓e_ceq, ↓e_cne, ↓e_clt, ↓e_cge, ↓e_cgt, ↓e_cle, ↓e_nil, ↓e_cons, ↓e_iconst, ↓e_bipush, ↓e_sipush, ↓e_ldc, ↓e_ldcw, ↓e_ldc2, ↓e_lconst, ↓e_iloadn, ↓e_iload, ↓e_lloadn, ↓e_lload, ↓e_aloadn, ↓e_aload, ↓e_istoren, ↓e_istore, ↓e_astoren, ↓e_astore, ↓e_add, ↓e_iinc, ↓e_iadd, ↓e_isub, ↓e_imul, ↓e_iand, ↓e_ior, ↓e_ixor, ↓e_ishl, ↓e_iushr, ↓e_idiv, ↓e_irem, ↓e_ineg, ↓e_i2l, ↓e_i2b, ↓e_i2s, ↓e_l2i, ↓e_land, ↓e_lor, ↓e_lshl, ↓e_lshr, ↓e_lushr, ↓e_lcmp, ↓e_dupi, ↓e_dupr, ↓e_popi, ↓e_dup2, ↓e_goto, ↓e_if, ↓e_icmp, ↓e_tsw, ↓e_lsw, ↓e_getf, ↓e_putf, ↓e_gets, ↓e_iald, ↓e_cald, ↓e_iast, ↓e_aald, ↓e_aast, ↓e_len, ↓e_copy, ↓e_abs, ↓e_max, ↓e_min, ↓e_iret, ↓e_aret, ↓e_vret, ↓e_is0, ↓e_is1, ↓e_is2, ↓e_is3, ↓e_is4, ↓e_iv1, ↓e_iv2, ↓e_iv3, ↓e_iv4, ↓e_iv5, ↓e_iv6, ↓reduceIte, Nat.reduceAdd, Nat.reduceEqDiff, ↓zcl0, ↓zclv, List.map_nil, List.sum_nil, List.map_cons, List.sum_cons, zcat, true_and, and_true, Nat.reduceLeDiff, eq_self, forall_const, implies_true, not_true_eq_false, false_implies, v_0, v_87, ↓v_0, ↓v_87, ↓s1, ↓s2, ↓s3, ↓s4, ↓s5, ↓ctL9_x_apart, ↓r_x_apart, ↓B_x_apart]
  repeat (refine And.intro (hr _) ?_)
  exact ⟨S, h1.1, h2, fun M2 r2 f2 => J M2 r2 f2⟩
theorem lc_delayFor {E : ZE} {X : ZK} {Rt : ZR} (hX : zCl E zlaw 13 false ctL9 Rt X) {i : Nat} {xs : Nat → Int} (s9 : Scr E i xs) (hr : ∀ j, rg (xs j)) {n : Int} (hn : n < 4000) {M : ZMm} (hM : Lin n M) (nx : ∀ M2 : ZMm, Lin (n + 1) M2 → LX X 1569 i [] M2) : LX X 847 i [] M := by
  obtain ⟨s1, s2, s3, s4, s5⟩ := s9
  obtain ⟨h1, h2, h3⟩ := hM
  obtain ⟨S, hS⟩ : ∃ S, st M = S := ⟨_, rfl⟩
  rw [hS] at h1 h2
  have J : ∀ M2 : ZMm, Rc (R_delayFor S (xs (i + 1))).2 M2 → (∀ x, 87 ≤ x → M2 x = M x) → LX X 856 i [.inl (R_delayFor S (xs (i + 1))).1] M2 := by
    intro M2 r2 f2
    have eS : st M2 = S := (st_eq f2).trans hS
    refine bs_L_law_856 hX ?_
    simp only [bk_L_law_856, k_L_law_856, ↓e_rk1, ↓e_rk0, ↓e_sk0, ↓e_sks, ↓e_ldi0, ↓e_ldis, ↓e_ldl0, ↓e_ldls, ↓e_lda0, ↓e_ldas, ↓e_ok0, ↓e_okss, ↓e_ok1i, ↓e_ok1r, ↓e_ok1n, ↓e_sti, ↓e_sta, ↓e_1, ↓e_2, ↓e_l1, ↓e_l2, ↓e_li, ↓e_sw0, ↓e_sws, ↓e_ceq, ↓e_cne, ↓e_clt, ↓e_cge, ↓e_cgt, ↓e_cle, ↓e_nil, ↓e_cons, ↓e_iconst, ↓e_bipush, ↓e_sipush, ↓e_ldc, ↓e_ldcw, ↓e_ldc2, ↓e_lconst, ↓e_iloadn, ↓e_iload, ↓e_lloadn, ↓e_lload, ↓e_aloadn, ↓e_aload, ↓e_istoren, ↓e_istore, ↓e_astoren, ↓e_astore, ↓e_add, ↓e_iinc, ↓e_iadd, ↓e_isub, ↓e_imul, ↓e_iand, ↓e_ior, ↓e_ixor, ↓e_ishl, ↓e_iushr, ↓e_idiv, ↓e_irem, ↓e_ineg, ↓e_i2l, ↓e_i2b, ↓e_i2s, ↓e_l2i, ↓e_land, ↓e_lor, ↓e_lshl, ↓e_lshr, ↓e_lushr, ↓e_lcmp, ↓e_dupi, ↓e_dupr, ↓e_popi, ↓e_dup2, ↓e_goto, ↓e_if, ↓e_icmp, ↓e_tsw, ↓e_lsw, ↓e_getf, ↓e_putf, ↓e_gets, ↓e_iald, ↓e_cald, ↓e_iast, ↓e_aald, ↓e_aast, ↓e_len, ↓e_copy, ↓e_abs, ↓e_max, ↓e_min, ↓e_iret, ↓e_aret, ↓e_vret, ↓e_is0, ↓e_is1, ↓e_is2, ↓e_is3, ↓e_is4, ↓e_iv1, ↓e_iv2, ↓e_iv3, ↓e_iv4, ↓e_iv5, ↓e_iv6, ↓reduceIte, Nat.reduceAdd, Nat.reduceEqDiff, ↓zcl0, ↓zclv, List.map_nil, List.sum_nil, List.map_cons, List.sum_cons, zcat, true_and, and_true, Nat.reduceLeDiff, eq_self, forall_const, implies_true, not_true_eq_false, false_implies, v_0, v_87, ↓v_0, ↓v_87, ↓s1, ↓s2, ↓s3, ↓s4, ↓s5, ↓ctL9_delayFor, ↓r_delayFor, ↓B_delayFor, ↓pub, eS]
    repeat (refine And.intro (hr _) ?_)
    refine ⟨h1.1, by rw [f2 87 (by omega)]; exact h3, fun M3 e1 e2 e3 => ?_⟩
    exact nx M3 (L_fin (S := S) (R := R_delayFor S (xs (i + 1))) (I_delayFor h1) r2 e1 e2 e3)
  refine bs_L_law_847 hX ?_
  simp only [bk_L_law_847, k_L_law_847, ↓e_rk1, ↓e_rk0, ↓e_sk0, ↓e_sks, ↓e_ldi0, ↓e_ldis, ↓e_ldl0, ↓e_ldls, ↓e_lda0, ↓e_ldas, ↓e_ok0, ↓e_okss, ↓e_ok1i, ↓e_ok1r, ↓e_ok1n, ↓e_sti, ↓e_sta, ↓e_1, ↓e_2, ↓e_l1, ↓e_l2, ↓e_li, ↓e_sw0, ↓e_sws, ↓e_ceq, ↓e_cne, ↓e_clt, ↓e_cge, ↓e_cgt, ↓e_cle, ↓e_nil, ↓e_cons, ↓e_iconst, ↓e_bipush, ↓e_sipush, ↓e_ldc, ↓e_ldcw, ↓e_ldc2, ↓e_lconst, ↓e_iloadn, ↓e_iload, ↓e_lloadn, ↓e_lload, ↓e_aloadn, ↓e_aload, ↓e_istoren, ↓e_istore, ↓e_astoren, ↓e_astore, ↓e_add, ↓e_iinc, ↓e_iadd, ↓e_isub, ↓e_imul, ↓e_iand, ↓e_ior, ↓e_ixor, ↓e_ishl, ↓e_iushr, ↓e_idiv, ↓e_irem, ↓e_ineg, ↓e_i2l, ↓e_i2b, ↓e_i2s, ↓e_l2i, ↓e_land, ↓e_lor, ↓e_lshl, ↓e_lshr, ↓e_lushr, ↓e_lcmp, ↓e_dupi, ↓e_dupr, ↓e_popi, ↓e_dup2, ↓e_goto, ↓e_if, ↓e_icmp, ↓e_tsw, ↓e_lsw, ↓e_getf, ↓e_putf, ↓e_gets, ↓e_iald, ↓e_cald, ↓e_iast, ↓e_aald, ↓e_aast, ↓e_len, ↓e_copy, ↓e_abs, ↓e_max, ↓e_min, ↓e_iret, ↓e_aret, ↓e_vret, ↓e_is0, ↓e_is1, ↓e_is2, ↓e_is3, ↓e_is4, ↓e_iv1, ↓e_iv2, ↓e_iv3, ↓e_iv4, ↓e_iv5, ↓e_iv6, ↓reduceIte, Nat.reduceAdd, Nat.reduceEqDiff, ↓zcl0, ↓zclv, List.map_nil, List.sum_nil, List.map_cons, List.sum_cons, zcat, true_and, and_true, Nat.reduceLeDiff, eq_self, forall_const, implies_true, not_true_eq_false, false_implies, v_0, v_87, ↓v_0, ↓v_87, ↓s1, ↓s2, ↓s3, ↓s4, ↓s5, ↓ctL9_x_delayFor, ↓r_x_delayFor, ↓B_x_delayFor]
  repeat (refine And.intro (hr _) ?_)
  exact ⟨S, h1.1, h2, fun M2 r2 f2 => J M2 r2 f2⟩
theorem lc_powerFor {E : ZE} {X : ZK} {Rt : ZR} (hX : zCl E zlaw 13 false ctL9 Rt X) {i : Nat} {xs : Nat → Int} (s9 : Scr E i xs) (hr : ∀ j, rg (xs j)) {n : Int} (hn : n < 4000) {M : ZMm} (hM : Lin n M) (nx : ∀ M2 : ZMm, Lin (n + 1) M2 → LX X 1569 i [] M2) : LX X 870 i [] M := by
  obtain ⟨s1, s2, s3, s4, s5⟩ := s9
  obtain ⟨h1, h2, h3⟩ := hM
  obtain ⟨S, hS⟩ : ∃ S, st M = S := ⟨_, rfl⟩
  rw [hS] at h1 h2
  have J : ∀ M2 : ZMm, Rc (R_powerFor S (xs (i + 1)) (xs (i + 2)) (xs (i + 3))).2 M2 → (∀ x, 87 ≤ x → M2 x = M x) → LX X 889 i [.inl (R_powerFor S (xs (i + 1)) (xs (i + 2)) (xs (i + 3))).1] M2 := by
    intro M2 r2 f2
    have eS : st M2 = S := (st_eq f2).trans hS
    refine bs_L_law_889 hX ?_
    simp only [bk_L_law_889, k_L_law_889, ↓e_rk1, ↓e_rk0, ↓e_sk0, ↓e_sks, ↓e_ldi0, ↓e_ldis, ↓e_ldl0, ↓e_ldls, ↓e_lda0, ↓e_ldas, ↓e_ok0, ↓e_okss, ↓e_ok1i, ↓e_ok1r, ↓e_ok1n, ↓e_sti, ↓e_sta, ↓e_1, ↓e_2, ↓e_l1, ↓e_l2, ↓e_li, ↓e_sw0, ↓e_sws, ↓e_ceq, ↓e_cne, ↓e_clt, ↓e_cge, ↓e_cgt, ↓e_cle, ↓e_nil, ↓e_cons, ↓e_iconst, ↓e_bipush, ↓e_sipush, ↓e_ldc, ↓e_ldcw, ↓e_ldc2, ↓e_lconst, ↓e_iloadn, ↓e_iload, ↓e_lloadn, ↓e_lload, ↓e_aloadn, ↓e_aload, ↓e_istoren, ↓e_istore, ↓e_astoren, ↓e_astore, ↓e_add, ↓e_iinc, ↓e_iadd, ↓e_isub, ↓e_imul, ↓e_iand, ↓e_ior, ↓e_ixor, ↓e_ishl, ↓e_iushr, ↓e_idiv, ↓e_irem, ↓e_ineg, ↓e_i2l, ↓e_i2b, ↓e_i2s, ↓e_l2i, ↓e_land, ↓e_lor, ↓e_lshl, ↓e_lshr, ↓e_lushr, ↓e_lcmp, ↓e_dupi, ↓e_dupr, ↓e_popi, ↓e_dup2, ↓e_goto, ↓e_if, ↓e_icmp, ↓e_tsw, ↓e_lsw, ↓e_getf, ↓e_putf, ↓e_gets, ↓e_iald, ↓e_cald, ↓e_iast, ↓e_aald, ↓e_aast, ↓e_len, ↓e_copy, ↓e_abs, ↓e_max, ↓e_min, ↓e_iret, ↓e_aret, ↓e_vret, ↓e_is0, ↓e_is1, ↓e_is2, ↓e_is3, ↓e_is4, ↓e_iv1, ↓e_iv2, ↓e_iv3, ↓e_iv4, ↓e_iv5, ↓e_iv6, ↓reduceIte, Nat.reduceAdd, Nat.reduceEqDiff, ↓zcl0, ↓zclv, List.map_nil, List.sum_nil, List.map_cons, List.sum_cons, zcat, true_and, and_true, Nat.reduceLeDiff, eq_self, forall_const, implies_true, not_true_eq_false, false_implies, v_0, v_87, ↓v_0, ↓v_87, ↓s1, ↓s2, ↓s3, ↓s4, ↓s5, ↓ctL9_powerFor, ↓r_powerFor, ↓B_powerFor, ↓pub, eS]
    repeat (refine And.intro (hr _) ?_)
    refine ⟨h1.1, by rw [f2 87 (by omega)]; exact h3, fun M3 e1 e2 e3 => ?_⟩
    exact nx M3 (L_fin (S := S) (R := R_powerFor S (xs (i + 1)) (xs (i + 2)) (xs (i + 3))) (I_powerFor h1) r2 e1 e2 e3)
  refine bs_L_law_870 hX ?_
  simp only [bk_L_law_870, k_L_law_870, ↓e_rk1, ↓e_rk0, ↓e_sk0, ↓e_sks, ↓e_ldi0, ↓e_ldis, ↓e_ldl0, ↓e_ldls, ↓e_lda0, ↓e_ldas, ↓e_ok0, ↓e_okss, ↓e_ok1i, ↓e_ok1r, ↓e_ok1n, ↓e_sti, ↓e_sta, ↓e_1, ↓e_2, ↓e_l1, ↓e_l2, ↓e_li, ↓e_sw0, ↓e_sws, ↓e_ceq, ↓e_cne, ↓e_clt, ↓e_cge, ↓e_cgt, ↓e_cle, ↓e_nil, ↓e_cons, ↓e_iconst, ↓e_bipush, ↓e_sipush, ↓e_ldc, ↓e_ldcw, ↓e_ldc2, ↓e_lconst, ↓e_iloadn, ↓e_iload, ↓e_lloadn, ↓e_lload, ↓e_aloadn, ↓e_aload, ↓e_istoren, ↓e_istore, ↓e_astoren, ↓e_astore, ↓e_add, ↓e_iinc, ↓e_iadd, ↓e_isub, ↓e_imul, ↓e_iand, ↓e_ior, ↓e_ixor, ↓e_ishl, ↓e_iushr, ↓e_idiv, ↓e_irem, ↓e_ineg, ↓e_i2l, ↓e_i2b, ↓e_i2s, ↓e_l2i, ↓e_land, ↓e_lor, ↓e_lshl, ↓e_lshr, ↓e_lushr, ↓e_lcmp, ↓e_dupi, ↓e_dupr, ↓e_popi, ↓e_dup2, ↓e_goto, ↓e_if, ↓e_icmp, ↓e_tsw, ↓e_lsw, ↓e_getf, ↓e_putf, ↓e_gets, ↓e_iald, ↓e_cald, ↓e_iast, ↓e_aald, ↓e_aast, ↓e_len, ↓e_copy, ↓e_abs, ↓e_max, ↓e_min, ↓e_iret, ↓e_aret, ↓e_vret, ↓e_is0, ↓e_is1, ↓e_is2, ↓e_is3, ↓e_is4, ↓e_iv1, ↓e_iv2, ↓e_iv3, ↓e_iv4, ↓e_iv5, ↓e_iv6, ↓reduceIte, Nat.reduceAdd, Nat.reduceEqDiff, ↓zcl0, ↓zclv, List.map_nil, List.sum_nil, List.map_cons, List.sum_cons, zcat, true_and, and_true, Nat.reduceLeDiff, eq_self, forall_const, implies_true, not_true_eq_false, false_implies, v_0, v_87, ↓v_0, ↓v_87, ↓s1, ↓s2, ↓s3, ↓s4, ↓s5, ↓ctL9_x_powerFor, ↓r_x_powerFor, ↓B_x_powerFor]
  repeat (refine And.intro (hr _) ?_)
  exact ⟨S, h1.1, h2, fun M2 r2 f2 => J M2 r2 f2⟩
theorem lc_needless {E : ZE} {X : ZK} {Rt : ZR} (hX : zCl E zlaw 13 false ctL9 Rt X) {i : Nat} {xs : Nat → Int} (s9 : Scr E i xs) (hr : ∀ j, rg (xs j)) {n : Int} (hn : n < 4000) {M : ZMm} (hM : Lin n M) (nx : ∀ M2 : ZMm, Lin (n + 1) M2 → LX X 1569 i [] M2) : LX X 913 i [] M := by
  obtain ⟨s1, s2, s3, s4, s5⟩ := s9
  obtain ⟨h1, h2, h3⟩ := hM
  obtain ⟨S, hS⟩ : ∃ S, st M = S := ⟨_, rfl⟩
  rw [hS] at h1 h2
  have J : ∀ M2 : ZMm, Rc (R_needless S (xs (i + 1))).2 M2 → (∀ x, 87 ≤ x → M2 x = M x) → LX X 922 i [.inl (R_needless S (xs (i + 1))).1] M2 := by
    intro M2 r2 f2
    have eS : st M2 = S := (st_eq f2).trans hS
    refine bs_L_law_922 hX ?_
    simp only [bk_L_law_922, k_L_law_922, ↓e_rk1, ↓e_rk0, ↓e_sk0, ↓e_sks, ↓e_ldi0, ↓e_ldis, ↓e_ldl0, ↓e_ldls, ↓e_lda0, ↓e_ldas, ↓e_ok0, ↓e_okss, ↓e_ok1i, ↓e_ok1r, ↓e_ok1n, ↓e_sti, ↓e_sta, ↓e_1, ↓e_2, ↓e_l1, ↓e_l2, ↓e_li, ↓e_sw0, ↓e_sws, ↓e_ceq, ↓e_cne, ↓e_clt, ↓e_cge, ↓e_cgt, ↓e_cle, ↓e_nil, ↓e_cons, ↓e_iconst, ↓e_bipush, ↓e_sipush, ↓e_ldc, ↓e_ldcw, ↓e_ldc2, ↓e_lconst, ↓e_iloadn, ↓e_iload, ↓e_lloadn, ↓e_lload, ↓e_aloadn, ↓e_aload, ↓e_istoren, ↓e_istore, ↓e_astoren, ↓e_astore, ↓e_add, ↓e_iinc, ↓e_iadd, ↓e_isub, ↓e_imul, ↓e_iand, ↓e_ior, ↓e_ixor, ↓e_ishl, ↓e_iushr, ↓e_idiv, ↓e_irem, ↓e_ineg, ↓e_i2l, ↓e_i2b, ↓e_i2s, ↓e_l2i, ↓e_land, ↓e_lor, ↓e_lshl, ↓e_lshr, ↓e_lushr, ↓e_lcmp, ↓e_dupi, ↓e_dupr, ↓e_popi, ↓e_dup2, ↓e_goto, ↓e_if, ↓e_icmp, ↓e_tsw, ↓e_lsw, ↓e_getf, ↓e_putf, ↓e_gets, ↓e_iald, ↓e_cald, ↓e_iast, ↓e_aald, ↓e_aast, ↓e_len, ↓e_copy, ↓e_abs, ↓e_max, ↓e_min, ↓e_iret, ↓e_aret, ↓e_vret, ↓e_is0, ↓e_is1, ↓e_is2, ↓e_is3, ↓e_is4, ↓e_iv1, ↓e_iv2, ↓e_iv3, ↓e_iv4, ↓e_iv5, ↓e_iv6, ↓reduceIte, Nat.reduceAdd, Nat.reduceEqDiff, ↓zcl0, ↓zclv, List.map_nil, List.sum_nil, List.map_cons, List.sum_cons, zcat, true_and, and_true, Nat.reduceLeDiff, eq_self, forall_const, implies_true, not_true_eq_false, false_implies, v_0, v_87, ↓v_0, ↓v_87, ↓s1, ↓s2, ↓s3, ↓s4, ↓s5, ↓ctL9_needless, ↓r_needless, ↓B_needless, ↓pub, eS]
    repeat (refine And.intro (hr _) ?_)
    refine ⟨h1.1, by rw [f2 87 (by omega)]; exact h3, fun M3 e1 e2 e3 => ?_⟩
    exact nx M3 (L_fin (S := S) (R := R_needless S (xs (i + 1))) (I_needless h1) r2 e1 e2 e3)
  refine bs_L_law_913 hX ?_
  simp only [bk_L_law_913, k_L_law_913, ↓e_rk1, ↓e_rk0, ↓e_sk0, ↓e_sks, ↓e_ldi0, ↓e_ldis, ↓e_ldl0, ↓e_ldls, ↓e_lda0, ↓e_ldas, ↓e_ok0, ↓e_okss, ↓e_ok1i, ↓e_ok1r, ↓e_ok1n, ↓e_sti, ↓e_sta, ↓e_1, ↓e_2, ↓e_l1, ↓e_l2, ↓e_li, ↓e_sw0, ↓e_sws, ↓e_ceq, ↓e_cne, ↓e_clt, ↓e_cge, ↓e_cgt, ↓e_cle, ↓e_nil, ↓e_cons, ↓e_iconst, ↓e_bipush, ↓e_sipush, ↓e_ldc, ↓e_ldcw, ↓e_ldc2, ↓e_lconst, ↓e_iloadn, ↓e_iload, ↓e_lloadn, ↓e_lload, ↓e_aloadn, ↓e_aload, ↓e_istoren, ↓e_istore, ↓e_astoren, ↓e_astore, ↓e_add, ↓e_iinc, ↓e_iadd, ↓e_isub, ↓e_imul, ↓e_iand, ↓e_ior, ↓e_ixor, ↓e_ishl, ↓e_iushr, ↓e_idiv, ↓e_irem, ↓e_ineg, ↓e_i2l, ↓e_i2b, ↓e_i2s, ↓e_l2i, ↓e_land, ↓e_lor, ↓e_lshl, ↓e_lshr, ↓e_lushr, ↓e_lcmp, ↓e_dupi, ↓e_dupr, ↓e_popi, ↓e_dup2, ↓e_goto, ↓e_if, ↓e_icmp, ↓e_tsw, ↓e_lsw, ↓e_getf, ↓e_putf, ↓e_gets, ↓e_iald, ↓e_cald, ↓e_iast, ↓e_aald, ↓e_aast, ↓e_len, ↓e_copy, ↓e_abs, ↓e_max, ↓e_min, ↓e_iret, ↓e_aret, ↓e_vret, ↓e_is0, ↓e_is1, ↓e_is2, ↓e_is3, ↓e_is4, ↓e_iv1, ↓e_iv2, ↓e_iv3, ↓e_iv4, ↓e_iv5, ↓e_iv6, ↓reduceIte, Nat.reduceAdd, Nat.reduceEqDiff, ↓zcl0, ↓zclv, List.map_nil, List.sum_nil, List.map_cons, List.sum_cons, zcat, true_and, and_true, Nat.reduceLeDiff, eq_self, forall_const, implies_true, not_true_eq_false, false_implies, v_0, v_87, ↓v_0, ↓v_87, ↓s1, ↓s2, ↓s3, ↓s4, ↓s5, ↓ctL9_x_needless, ↓r_x_needless, ↓B_x_needless]
  repeat (refine And.intro (hr _) ?_)
  exact ⟨S, h1.1, h2, fun M2 r2 f2 => J M2 r2 f2⟩
theorem lc_heard {E : ZE} {X : ZK} {Rt : ZR} (hX : zCl E zlaw 13 false ctL9 Rt X) {i : Nat} {xs : Nat → Int} (s9 : Scr E i xs) (hr : ∀ j, rg (xs j)) {n : Int} (hn : n < 4000) {M : ZMm} (hM : Lin n M) (nx : ∀ M2 : ZMm, Lin (n + 1) M2 → LX X 1569 i [] M2) : LX X 936 i [] M := by
  obtain ⟨s1, s2, s3, s4, s5⟩ := s9
  obtain ⟨h1, h2, h3⟩ := hM
  obtain ⟨S, hS⟩ : ∃ S, st M = S := ⟨_, rfl⟩
  rw [hS] at h1 h2
  have J : ∀ M2 : ZMm, Rc (R_heard S (xs (i + 1)) (xs (i + 2)) (xs (i + 3))).2 M2 → (∀ x, 87 ≤ x → M2 x = M x) → LX X 955 i [.inl (R_heard S (xs (i + 1)) (xs (i + 2)) (xs (i + 3))).1] M2 := by
    intro M2 r2 f2
    have eS : st M2 = S := (st_eq f2).trans hS
    refine bs_L_law_955 hX ?_
    simp only [bk_L_law_955, k_L_law_955, ↓e_rk1, ↓e_rk0, ↓e_sk0, ↓e_sks, ↓e_ldi0, ↓e_ldis, ↓e_ldl0, ↓e_ldls, ↓e_lda0, ↓e_ldas, ↓e_ok0, ↓e_okss, ↓e_ok1i, ↓e_ok1r, ↓e_ok1n, ↓e_sti, ↓e_sta, ↓e_1, ↓e_2, ↓e_l1, ↓e_l2, ↓e_li, ↓e_sw0, ↓e_sws, ↓e_ceq, ↓e_cne, ↓e_clt, ↓e_cge, ↓e_cgt, ↓e_cle, ↓e_nil, ↓e_cons, ↓e_iconst, ↓e_bipush, ↓e_sipush, ↓e_ldc, ↓e_ldcw, ↓e_ldc2, ↓e_lconst, ↓e_iloadn, ↓e_iload, ↓e_lloadn, ↓e_lload, ↓e_aloadn, ↓e_aload, ↓e_istoren, ↓e_istore, ↓e_astoren, ↓e_astore, ↓e_add, ↓e_iinc, ↓e_iadd, ↓e_isub, ↓e_imul, ↓e_iand, ↓e_ior, ↓e_ixor, ↓e_ishl, ↓e_iushr, ↓e_idiv, ↓e_irem, ↓e_ineg, ↓e_i2l, ↓e_i2b, ↓e_i2s, ↓e_l2i, ↓e_land, ↓e_lor, ↓e_lshl, ↓e_lshr, ↓e_lushr, ↓e_lcmp, ↓e_dupi, ↓e_dupr, ↓e_popi, ↓e_dup2, ↓e_goto, ↓e_if, ↓e_icmp, ↓e_tsw, ↓e_lsw, ↓e_getf, ↓e_putf, ↓e_gets, ↓e_iald, ↓e_cald, ↓e_iast, ↓e_aald, ↓e_aast, ↓e_len, ↓e_copy, ↓e_abs, ↓e_max, ↓e_min, ↓e_iret, ↓e_aret, ↓e_vret, ↓e_is0, ↓e_is1, ↓e_is2, ↓e_is3, ↓e_is4, ↓e_iv1, ↓e_iv2, ↓e_iv3, ↓e_iv4, ↓e_iv5, ↓e_iv6, ↓reduceIte, Nat.reduceAdd, Nat.reduceEqDiff, ↓zcl0, ↓zclv, List.map_nil, List.sum_nil, List.map_cons, List.sum_cons, zcat, true_and, and_true, Nat.reduceLeDiff, eq_self, forall_const, implies_true, not_true_eq_false, false_implies, v_0, v_87, ↓v_0, ↓v_87, ↓s1, ↓s2, ↓s3, ↓s4, ↓s5, ↓ctL9_heard, ↓r_heard, ↓B_heard, ↓pub, eS]
    repeat (refine And.intro (hr _) ?_)
    refine ⟨h1.1, by rw [f2 87 (by omega)]; exact h3, fun M3 e1 e2 e3 => ?_⟩
    exact nx M3 (L_fin (S := S) (R := R_heard S (xs (i + 1)) (xs (i + 2)) (xs (i + 3))) (I_heard h1) r2 e1 e2 e3)
  refine bs_L_law_936 hX ?_
  simp only [bk_L_law_936, k_L_law_936, ↓e_rk1, ↓e_rk0, ↓e_sk0, ↓e_sks, ↓e_ldi0, ↓e_ldis, ↓e_ldl0, ↓e_ldls, ↓e_lda0, ↓e_ldas, ↓e_ok0, ↓e_okss, ↓e_ok1i, ↓e_ok1r, ↓e_ok1n, ↓e_sti, ↓e_sta, ↓e_1, ↓e_2, ↓e_l1, ↓e_l2, ↓e_li, ↓e_sw0, ↓e_sws, ↓e_ceq, ↓e_cne, ↓e_clt, ↓e_cge, ↓e_cgt, ↓e_cle, ↓e_nil, ↓e_cons, ↓e_iconst, ↓e_bipush, ↓e_sipush, ↓e_ldc, ↓e_ldcw, ↓e_ldc2, ↓e_lconst, ↓e_iloadn, ↓e_iload, ↓e_lloadn, ↓e_lload, ↓e_aloadn, ↓e_aload, ↓e_istoren, ↓e_istore, ↓e_astoren, ↓e_astore, ↓e_add, ↓e_iinc, ↓e_iadd, ↓e_isub, ↓e_imul, ↓e_iand, ↓e_ior, ↓e_ixor, ↓e_ishl, ↓e_iushr, ↓e_idiv, ↓e_irem, ↓e_ineg, ↓e_i2l, ↓e_i2b, ↓e_i2s, ↓e_l2i, ↓e_land, ↓e_lor, ↓e_lshl, ↓e_lshr, ↓e_lushr, ↓e_lcmp, ↓e_dupi, ↓e_dupr, ↓e_popi, ↓e_dup2, ↓e_goto, ↓e_if, ↓e_icmp, ↓e_tsw, ↓e_lsw, ↓e_getf, ↓e_putf, ↓e_gets, ↓e_iald, ↓e_cald, ↓e_iast, ↓e_aald, ↓e_aast, ↓e_len, ↓e_copy, ↓e_abs, ↓e_max, ↓e_min, ↓e_iret, ↓e_aret, ↓e_vret, ↓e_is0, ↓e_is1, ↓e_is2, ↓e_is3, ↓e_is4, ↓e_iv1, ↓e_iv2, ↓e_iv3, ↓e_iv4, ↓e_iv5, ↓e_iv6, ↓reduceIte, Nat.reduceAdd, Nat.reduceEqDiff, ↓zcl0, ↓zclv, List.map_nil, List.sum_nil, List.map_cons, List.sum_cons, zcat, true_and, and_true, Nat.reduceLeDiff, eq_self, forall_const, implies_true, not_true_eq_false, false_implies, v_0, v_87, ↓v_0, ↓v_87, ↓s1, ↓s2, ↓s3, ↓s4, ↓s5, ↓ctL9_x_heard, ↓r_x_heard, ↓B_x_heard]
  repeat (refine And.intro (hr _) ?_)
  exact ⟨S, h1.1, h2, fun M2 r2 f2 => J M2 r2 f2⟩
theorem lc_which {E : ZE} {X : ZK} {Rt : ZR} (hX : zCl E zlaw 13 false ctL9 Rt X) {i : Nat} {xs : Nat → Int} (s9 : Scr E i xs) (hr : ∀ j, rg (xs j)) {n : Int} (hn : n < 4000) {M : ZMm} (hM : Lin n M) (nx : ∀ M2 : ZMm, Lin (n + 1) M2 → LX X 1569 i [] M2) : LX X 979 i [] M := by
  obtain ⟨s1, s2, s3, s4, s5⟩ := s9
  obtain ⟨h1, h2, h3⟩ := hM
  obtain ⟨S, hS⟩ : ∃ S, st M = S := ⟨_, rfl⟩
  rw [hS] at h1 h2
  have J : ∀ M2 : ZMm, Rc (R_which S (xs (i + 1)) (xs (i + 2))).2 M2 → (∀ x, 87 ≤ x → M2 x = M x) → LX X 993 i [.inl (R_which S (xs (i + 1)) (xs (i + 2))).1] M2 := by
    intro M2 r2 f2
    have eS : st M2 = S := (st_eq f2).trans hS
    refine bs_L_law_993 hX ?_
    simp only [bk_L_law_993, k_L_law_993, ↓e_rk1, ↓e_rk0, ↓e_sk0, ↓e_sks, ↓e_ldi0, ↓e_ldis, ↓e_ldl0, ↓e_ldls, ↓e_lda0, ↓e_ldas, ↓e_ok0, ↓e_okss, ↓e_ok1i, ↓e_ok1r, ↓e_ok1n, ↓e_sti, ↓e_sta, ↓e_1, ↓e_2, ↓e_l1, ↓e_l2, ↓e_li, ↓e_sw0, ↓e_sws, ↓e_ceq, ↓e_cne, ↓e_clt, ↓e_cge, ↓e_cgt, ↓e_cle, ↓e_nil, ↓e_cons, ↓e_iconst, ↓e_bipush, ↓e_sipush, ↓e_ldc, ↓e_ldcw, ↓e_ldc2, ↓e_lconst, ↓e_iloadn, ↓e_iload, ↓e_lloadn, ↓e_lload, ↓e_aloadn, ↓e_aload, ↓e_istoren, ↓e_istore, ↓e_astoren, ↓e_astore, ↓e_add, ↓e_iinc, ↓e_iadd, ↓e_isub, ↓e_imul, ↓e_iand, ↓e_ior, ↓e_ixor, ↓e_ishl, ↓e_iushr, ↓e_idiv, ↓e_irem, ↓e_ineg, ↓e_i2l, ↓e_i2b, ↓e_i2s, ↓e_l2i, ↓e_land, ↓e_lor, ↓e_lshl, ↓e_lshr, ↓e_lushr, ↓e_lcmp, ↓e_dupi, ↓e_dupr, ↓e_popi, ↓e_dup2, ↓e_goto, ↓e_if, ↓e_icmp, ↓e_tsw, ↓e_lsw, ↓e_getf, ↓e_putf, ↓e_gets, ↓e_iald, ↓e_cald, ↓e_iast, ↓e_aald, ↓e_aast, ↓e_len, ↓e_copy, ↓e_abs, ↓e_max, ↓e_min, ↓e_iret, ↓e_aret, ↓e_vret, ↓e_is0, ↓e_is1, ↓e_is2, ↓e_is3, ↓e_is4, ↓e_iv1, ↓e_iv2, ↓e_iv3, ↓e_iv4, ↓e_iv5, ↓e_iv6, ↓reduceIte, Nat.reduceAdd, Nat.reduceEqDiff, ↓zcl0, ↓zclv, List.map_nil, List.sum_nil, List.map_cons, List.sum_cons, zcat, true_and, and_true, Nat.reduceLeDiff, eq_self, forall_const, implies_true, not_true_eq_false, false_implies, v_0, v_87, ↓v_0, ↓v_87, ↓s1, ↓s2, ↓s3, ↓s4, ↓s5, ↓ctL9_which, ↓r_which, ↓B_which, ↓pub, eS]
    repeat (refine And.intro (hr _) ?_)
    refine ⟨h1.1, by rw [f2 87 (by omega)]; exact h3, fun M3 e1 e2 e3 => ?_⟩
    exact nx M3 (L_fin (S := S) (R := R_which S (xs (i + 1)) (xs (i + 2))) (I_which h1) r2 e1 e2 e3)
  refine bs_L_law_979 hX ?_
  simp only [bk_L_law_979, k_L_law_979, ↓e_rk1, ↓e_rk0, ↓e_sk0, ↓e_sks, ↓e_ldi0, ↓e_ldis, ↓e_ldl0, ↓e_ldls, ↓e_lda0, ↓e_ldas, ↓e_ok0, ↓e_okss, ↓e_ok1i, ↓e_ok1r, ↓e_ok1n, ↓e_sti, ↓e_sta, ↓e_1, ↓e_2, ↓e_l1, ↓e_l2, ↓e_li, ↓e_sw0, ↓e_sws, ↓e_ceq, ↓e_cne, ↓e_clt, ↓e_cge, ↓e_cgt, ↓e_cle, ↓e_nil, ↓e_cons, ↓e_iconst, ↓e_bipush, ↓e_sipush, ↓e_ldc, ↓e_ldcw, ↓e_ldc2, ↓e_lconst, ↓e_iloadn, ↓e_iload, ↓e_lloadn, ↓e_lload, ↓e_aloadn, ↓e_aload, ↓e_istoren, ↓e_istore, ↓e_astoren, ↓e_astore, ↓e_add, ↓e_iinc, ↓e_iadd, ↓e_isub, ↓e_imul, ↓e_iand, ↓e_ior, ↓e_ixor, ↓e_ishl, ↓e_iushr, ↓e_idiv, ↓e_irem, ↓e_ineg, ↓e_i2l, ↓e_i2b, ↓e_i2s, ↓e_l2i, ↓e_land, ↓e_lor, ↓e_lshl, ↓e_lshr, ↓e_lushr, ↓e_lcmp, ↓e_dupi, ↓e_dupr, ↓e_popi, ↓e_dup2, ↓e_goto, ↓e_if, ↓e_icmp, ↓e_tsw, ↓e_lsw, ↓e_getf, ↓e_putf, ↓e_gets, ↓e_iald, ↓e_cald, ↓e_iast, ↓e_aald, ↓e_aast, ↓e_len, ↓e_copy, ↓e_abs, ↓e_max, ↓e_min, ↓e_iret, ↓e_aret, ↓e_vret, ↓e_is0, ↓e_is1, ↓e_is2, ↓e_is3, ↓e_is4, ↓e_iv1, ↓e_iv2, ↓e_iv3, ↓e_iv4, ↓e_iv5, ↓e_iv6, ↓reduceIte, Nat.reduceAdd, Nat.reduceEqDiff, ↓zcl0, ↓zclv, List.map_nil, List.sum_nil, List.map_cons, List.sum_cons, zcat, true_and, and_true, Nat.reduceLeDiff, eq_self, forall_const, implies_true, not_true_eq_false, false_implies, v_0, v_87, ↓v_0, ↓v_87, ↓s1, ↓s2, ↓s3, ↓s4, ↓s5, ↓ctL9_x_which, ↓r_x_which, ↓B_x_which]
  repeat (refine And.intro (hr _) ?_)
  exact ⟨S, h1.1, h2, fun M2 r2 f2 => J M2 r2 f2⟩
theorem lc_join {E : ZE} {X : ZK} {Rt : ZR} (hX : zCl E zlaw 13 false ctL9 Rt X) {i : Nat} {xs : Nat → Int} (s9 : Scr E i xs) (hr : ∀ j, rg (xs j)) {n : Int} (hn : n < 4000) {M : ZMm} (hM : Lin n M) (nx : ∀ M2 : ZMm, Lin (n + 1) M2 → LX X 1569 i [] M2) : LX X 1012 i [] M := by
  obtain ⟨s1, s2, s3, s4, s5⟩ := s9
  obtain ⟨h1, h2, h3⟩ := hM
  obtain ⟨S, hS⟩ : ∃ S, st M = S := ⟨_, rfl⟩
  rw [hS] at h1 h2
  have J : ∀ M2 : ZMm, Rc (R_join S (xs (i + 1)) (xs (i + 2))).2 M2 → (∀ x, 87 ≤ x → M2 x = M x) → LX X 1026 i [.inl (R_join S (xs (i + 1)) (xs (i + 2))).1] M2 := by
    intro M2 r2 f2
    have eS : st M2 = S := (st_eq f2).trans hS
    refine bs_L_law_1026 hX ?_
    simp only [bk_L_law_1026, k_L_law_1026, ↓e_rk1, ↓e_rk0, ↓e_sk0, ↓e_sks, ↓e_ldi0, ↓e_ldis, ↓e_ldl0, ↓e_ldls, ↓e_lda0, ↓e_ldas, ↓e_ok0, ↓e_okss, ↓e_ok1i, ↓e_ok1r, ↓e_ok1n, ↓e_sti, ↓e_sta, ↓e_1, ↓e_2, ↓e_l1, ↓e_l2, ↓e_li, ↓e_sw0, ↓e_sws, ↓e_ceq, ↓e_cne, ↓e_clt, ↓e_cge, ↓e_cgt, ↓e_cle, ↓e_nil, ↓e_cons, ↓e_iconst, ↓e_bipush, ↓e_sipush, ↓e_ldc, ↓e_ldcw, ↓e_ldc2, ↓e_lconst, ↓e_iloadn, ↓e_iload, ↓e_lloadn, ↓e_lload, ↓e_aloadn, ↓e_aload, ↓e_istoren, ↓e_istore, ↓e_astoren, ↓e_astore, ↓e_add, ↓e_iinc, ↓e_iadd, ↓e_isub, ↓e_imul, ↓e_iand, ↓e_ior, ↓e_ixor, ↓e_ishl, ↓e_iushr, ↓e_idiv, ↓e_irem, ↓e_ineg, ↓e_i2l, ↓e_i2b, ↓e_i2s, ↓e_l2i, ↓e_land, ↓e_lor, ↓e_lshl, ↓e_lshr, ↓e_lushr, ↓e_lcmp, ↓e_dupi, ↓e_dupr, ↓e_popi, ↓e_dup2, ↓e_goto, ↓e_if, ↓e_icmp, ↓e_tsw, ↓e_lsw, ↓e_getf, ↓e_putf, ↓e_gets, ↓e_iald, ↓e_cald, ↓e_iast, ↓e_aald, ↓e_aast, ↓e_len, ↓e_copy, ↓e_abs, ↓e_max, ↓e_min, ↓e_iret, ↓e_aret, ↓e_vret, ↓e_is0, ↓e_is1, ↓e_is2, ↓e_is3, ↓e_is4, ↓e_iv1, ↓e_iv2, ↓e_iv3, ↓e_iv4, ↓e_iv5, ↓e_iv6, ↓reduceIte, Nat.reduceAdd, Nat.reduceEqDiff, ↓zcl0, ↓zclv, List.map_nil, List.sum_nil, List.map_cons, List.sum_cons, zcat, true_and, and_true, Nat.reduceLeDiff, eq_self, forall_const, implies_true, not_true_eq_false, false_implies, v_0, v_87, ↓v_0, ↓v_87, ↓s1, ↓s2, ↓s3, ↓s4, ↓s5, ↓ctL9_join, ↓r_join, ↓B_join, ↓pub, eS]
    repeat (refine And.intro (hr _) ?_)
    refine ⟨h1.1, by rw [f2 87 (by omega)]; exact h3, fun M3 e1 e2 e3 => ?_⟩
    exact nx M3 (L_fin (S := S) (R := R_join S (xs (i + 1)) (xs (i + 2))) (I_join h1) r2 e1 e2 e3)
  refine bs_L_law_1012 hX ?_
  simp only [bk_L_law_1012, k_L_law_1012, ↓e_rk1, ↓e_rk0, ↓e_sk0, ↓e_sks, ↓e_ldi0, ↓e_ldis, ↓e_ldl0, ↓e_ldls, ↓e_lda0, ↓e_ldas, ↓e_ok0, ↓e_okss, ↓e_ok1i, ↓e_ok1r, ↓e_ok1n, ↓e_sti, ↓e_sta, ↓e_1, ↓e_2, ↓e_l1, ↓e_l2, ↓e_li, ↓e_sw0, ↓e_sws, ↓e_ceq, ↓e_cne, ↓e_clt, ↓e_cge, ↓e_cgt, ↓e_cle, ↓e_nil, ↓e_cons, ↓e_iconst, ↓e_bipush, ↓e_sipush, ↓e_ldc, ↓e_ldcw, ↓e_ldc2, ↓e_lconst, ↓e_iloadn, ↓e_iload, ↓e_lloadn, ↓e_lload, ↓e_aloadn, ↓e_aload, ↓e_istoren, ↓e_istore, ↓e_astoren, ↓e_astore, ↓e_add, ↓e_iinc, ↓e_iadd, ↓e_isub, ↓e_imul, ↓e_iand, ↓e_ior, ↓e_ixor, ↓e_ishl, ↓e_iushr, ↓e_idiv, ↓e_irem, ↓e_ineg, ↓e_i2l, ↓e_i2b, ↓e_i2s, ↓e_l2i, ↓e_land, ↓e_lor, ↓e_lshl, ↓e_lshr, ↓e_lushr, ↓e_lcmp, ↓e_dupi, ↓e_dupr, ↓e_popi, ↓e_dup2, ↓e_goto, ↓e_if, ↓e_icmp, ↓e_tsw, ↓e_lsw, ↓e_getf, ↓e_putf, ↓e_gets, ↓e_iald, ↓e_cald, ↓e_iast, ↓e_aald, ↓e_aast, ↓e_len, ↓e_copy, ↓e_abs, ↓e_max, ↓e_min, ↓e_iret, ↓e_aret, ↓e_vret, ↓e_is0, ↓e_is1, ↓e_is2, ↓e_is3, ↓e_is4, ↓e_iv1, ↓e_iv2, ↓e_iv3, ↓e_iv4, ↓e_iv5, ↓e_iv6, ↓reduceIte, Nat.reduceAdd, Nat.reduceEqDiff, ↓zcl0, ↓zclv, List.map_nil, List.sum_nil, List.map_cons, List.sum_cons, zcat, true_and, and_true, Nat.reduceLeDiff, eq_self, forall_const, implies_true, not_true_eq_false, false_implies, v_0, v_87, ↓v_0, ↓v_87, ↓s1, ↓s2, ↓s3, ↓s4, ↓s5, ↓ctL9_x_join, ↓r_x_join, ↓B_x_join]
  repeat (refine And.intro (hr _) ?_)
  exact ⟨S, h1.1, h2, fun M2 r2 f2 => J M2 r2 f2⟩
theorem lc_steps {E : ZE} {X : ZK} {Rt : ZR} (hX : zCl E zlaw 13 false ctL9 Rt X) {i : Nat} {xs : Nat → Int} (s9 : Scr E i xs) (hr : ∀ j, rg (xs j)) {n : Int} (hn : n < 4000) {M : ZMm} (hM : Lin n M) (nx : ∀ M2 : ZMm, Lin (n + 1) M2 → LX X 1569 i [] M2) : LX X 1045 i [] M := by
  obtain ⟨s1, s2, s3, s4, s5⟩ := s9
  obtain ⟨h1, h2, h3⟩ := hM
  obtain ⟨S, hS⟩ : ∃ S, st M = S := ⟨_, rfl⟩
  rw [hS] at h1 h2
  have J : ∀ M2 : ZMm, Rc (R_steps S (xs (i + 1)) (xs (i + 2))).2 M2 → (∀ x, 87 ≤ x → M2 x = M x) → LX X 1059 i [.inl (R_steps S (xs (i + 1)) (xs (i + 2))).1] M2 := by
    intro M2 r2 f2
    have eS : st M2 = S := (st_eq f2).trans hS
    refine bs_L_law_1059 hX ?_
    simp only [bk_L_law_1059, k_L_law_1059, ↓e_rk1, ↓e_rk0, ↓e_sk0, ↓e_sks, ↓e_ldi0, ↓e_ldis, ↓e_ldl0, ↓e_ldls, ↓e_lda0, ↓e_ldas, ↓e_ok0, ↓e_okss, ↓e_ok1i, ↓e_ok1r, ↓e_ok1n, ↓e_sti, ↓e_sta, ↓e_1, ↓e_2, ↓e_l1, ↓e_l2, ↓e_li, ↓e_sw0, ↓e_sws, ↓e_ceq, ↓e_cne, ↓e_clt, ↓e_cge, ↓e_cgt, ↓e_cle, ↓e_nil, ↓e_cons, ↓e_iconst, ↓e_bipush, ↓e_sipush, ↓e_ldc, ↓e_ldcw, ↓e_ldc2, ↓e_lconst, ↓e_iloadn, ↓e_iload, ↓e_lloadn, ↓e_lload, ↓e_aloadn, ↓e_aload, ↓e_istoren, ↓e_istore, ↓e_astoren, ↓e_astore, ↓e_add, ↓e_iinc, ↓e_iadd, ↓e_isub, ↓e_imul, ↓e_iand, ↓e_ior, ↓e_ixor, ↓e_ishl, ↓e_iushr, ↓e_idiv, ↓e_irem, ↓e_ineg, ↓e_i2l, ↓e_i2b, ↓e_i2s, ↓e_l2i, ↓e_land, ↓e_lor, ↓e_lshl, ↓e_lshr, ↓e_lushr, ↓e_lcmp, ↓e_dupi, ↓e_dupr, ↓e_popi, ↓e_dup2, ↓e_goto, ↓e_if, ↓e_icmp, ↓e_tsw, ↓e_lsw, ↓e_getf, ↓e_putf, ↓e_gets, ↓e_iald, ↓e_cald, ↓e_iast, ↓e_aald, ↓e_aast, ↓e_len, ↓e_copy, ↓e_abs, ↓e_max, ↓e_min, ↓e_iret, ↓e_aret, ↓e_vret, ↓e_is0, ↓e_is1, ↓e_is2, ↓e_is3, ↓e_is4, ↓e_iv1, ↓e_iv2, ↓e_iv3, ↓e_iv4, ↓e_iv5, ↓e_iv6, ↓reduceIte, Nat.reduceAdd, Nat.reduceEqDiff, ↓zcl0, ↓zclv, List.map_nil, List.sum_nil, List.map_cons, List.sum_cons, zcat, true_and, and_true, Nat.reduceLeDiff, eq_self, forall_const, implies_true, not_true_eq_false, false_implies, v_0, v_87, ↓v_0, ↓v_87, ↓s1, ↓s2, ↓s3, ↓s4, ↓s5, ↓ctL9_steps, ↓r_steps, ↓B_steps, ↓pub, eS]
    repeat (refine And.intro (hr _) ?_)
    refine ⟨h1.1, by rw [f2 87 (by omega)]; exact h3, fun M3 e1 e2 e3 => ?_⟩
    exact nx M3 (L_fin (S := S) (R := R_steps S (xs (i + 1)) (xs (i + 2))) (I_steps h1) r2 e1 e2 e3)
  refine bs_L_law_1045 hX ?_
  simp only [bk_L_law_1045, k_L_law_1045, ↓e_rk1, ↓e_rk0, ↓e_sk0, ↓e_sks, ↓e_ldi0, ↓e_ldis, ↓e_ldl0, ↓e_ldls, ↓e_lda0, ↓e_ldas, ↓e_ok0, ↓e_okss, ↓e_ok1i, ↓e_ok1r, ↓e_ok1n, ↓e_sti, ↓e_sta, ↓e_1, ↓e_2, ↓e_l1, ↓e_l2, ↓e_li, ↓e_sw0, ↓e_sws, ↓e_ceq, ↓e_cne, ↓e_clt, ↓e_cge, ↓e_cgt, ↓e_cle, ↓e_nil, ↓e_cons, ↓e_iconst, ↓e_bipush, ↓e_sipush, ↓e_ldc, ↓e_ldcw, ↓e_ldc2, ↓e_lconst, ↓e_iloadn, ↓e_iload, ↓e_lloadn, ↓e_lload, ↓e_aloadn, ↓e_aload, ↓e_istoren, ↓e_istore, ↓e_astoren, ↓e_astore, ↓e_add, ↓e_iinc, ↓e_iadd, ↓e_isub, ↓e_imul, ↓e_iand, ↓e_ior, ↓e_ixor, ↓e_ishl, ↓e_iushr, ↓e_idiv, ↓e_irem, ↓e_ineg, ↓e_i2l, ↓e_i2b, ↓e_i2s, ↓e_l2i, ↓e_land, ↓e_lor, ↓e_lshl, ↓e_lshr, ↓e_lushr, ↓e_lcmp, ↓e_dupi, ↓e_dupr, ↓e_popi, ↓e_dup2, ↓e_goto, ↓e_if, ↓e_icmp, ↓e_tsw, ↓e_lsw, ↓e_getf, ↓e_putf, ↓e_gets, ↓e_iald, ↓e_cald, ↓e_iast, ↓e_aald, ↓e_aast, ↓e_len, ↓e_copy, ↓e_abs, ↓e_max, ↓e_min, ↓e_iret, ↓e_aret, ↓e_vret, ↓e_is0, ↓e_is1, ↓e_is2, ↓e_is3, ↓e_is4, ↓e_iv1, ↓e_iv2, ↓e_iv3, ↓e_iv4, ↓e_iv5, ↓e_iv6, ↓reduceIte, Nat.reduceAdd, Nat.reduceEqDiff, ↓zcl0, ↓zclv, List.map_nil, List.sum_nil, List.map_cons, List.sum_cons, zcat, true_and, and_true, Nat.reduceLeDiff, eq_self, forall_const, implies_true, not_true_eq_false, false_implies, v_0, v_87, ↓v_0, ↓v_87, ↓s1, ↓s2, ↓s3, ↓s4, ↓s5, ↓ctL9_x_steps, ↓r_x_steps, ↓B_x_steps]
  repeat (refine And.intro (hr _) ?_)
  exact ⟨S, h1.1, h2, fun M2 r2 f2 => J M2 r2 f2⟩
theorem lc_hand {E : ZE} {X : ZK} {Rt : ZR} (hX : zCl E zlaw 13 false ctL9 Rt X) {i : Nat} {xs : Nat → Int} (s9 : Scr E i xs) (hr : ∀ j, rg (xs j)) {n : Int} (hn : n < 4000) {M : ZMm} (hM : Lin n M) (nx : ∀ M2 : ZMm, Lin (n + 1) M2 → LX X 1569 i [] M2) : LX X 1078 i [] M := by
  obtain ⟨s1, s2, s3, s4, s5⟩ := s9
  obtain ⟨h1, h2, h3⟩ := hM
  obtain ⟨S, hS⟩ : ∃ S, st M = S := ⟨_, rfl⟩
  rw [hS] at h1 h2
  have J : ∀ M2 : ZMm, Rc (R_hand S (xs (i + 1)) (xs (i + 2)) (xs (i + 3))).2 M2 → (∀ x, 87 ≤ x → M2 x = M x) → LX X 1097 i [.inl (R_hand S (xs (i + 1)) (xs (i + 2)) (xs (i + 3))).1] M2 := by
    intro M2 r2 f2
    have eS : st M2 = S := (st_eq f2).trans hS
    refine bs_L_law_1097 hX ?_
    simp only [bk_L_law_1097, k_L_law_1097, ↓e_rk1, ↓e_rk0, ↓e_sk0, ↓e_sks, ↓e_ldi0, ↓e_ldis, ↓e_ldl0, ↓e_ldls, ↓e_lda0, ↓e_ldas, ↓e_ok0, ↓e_okss, ↓e_ok1i, ↓e_ok1r, ↓e_ok1n, ↓e_sti, ↓e_sta, ↓e_1, ↓e_2, ↓e_l1, ↓e_l2, ↓e_li, ↓e_sw0, ↓e_sws, ↓e_ceq, ↓e_cne, ↓e_clt, ↓e_cge, ↓e_cgt, ↓e_cle, ↓e_nil, ↓e_cons, ↓e_iconst, ↓e_bipush, ↓e_sipush, ↓e_ldc, ↓e_ldcw, ↓e_ldc2, ↓e_lconst, ↓e_iloadn, ↓e_iload, ↓e_lloadn, ↓e_lload, ↓e_aloadn, ↓e_aload, ↓e_istoren, ↓e_istore, ↓e_astoren, ↓e_astore, ↓e_add, ↓e_iinc, ↓e_iadd, ↓e_isub, ↓e_imul, ↓e_iand, ↓e_ior, ↓e_ixor, ↓e_ishl, ↓e_iushr, ↓e_idiv, ↓e_irem, ↓e_ineg, ↓e_i2l, ↓e_i2b, ↓e_i2s, ↓e_l2i, ↓e_land, ↓e_lor, ↓e_lshl, ↓e_lshr, ↓e_lushr, ↓e_lcmp, ↓e_dupi, ↓e_dupr, ↓e_popi, ↓e_dup2, ↓e_goto, ↓e_if, ↓e_icmp, ↓e_tsw, ↓e_lsw, ↓e_getf, ↓e_putf, ↓e_gets, ↓e_iald, ↓e_cald, ↓e_iast, ↓e_aald, ↓e_aast, ↓e_len, ↓e_copy, ↓e_abs, ↓e_max, ↓e_min, ↓e_iret, ↓e_aret, ↓e_vret, ↓e_is0, ↓e_is1, ↓e_is2, ↓e_is3, ↓e_is4, ↓e_iv1, ↓e_iv2, ↓e_iv3, ↓e_iv4, ↓e_iv5, ↓e_iv6, ↓reduceIte, Nat.reduceAdd, Nat.reduceEqDiff, ↓zcl0, ↓zclv, List.map_nil, List.sum_nil, List.map_cons, List.sum_cons, zcat, true_and, and_true, Nat.reduceLeDiff, eq_self, forall_const, implies_true, not_true_eq_false, false_implies, v_0, v_87, ↓v_0, ↓v_87, ↓s1, ↓s2, ↓s3, ↓s4, ↓s5, ↓ctL9_hand, ↓r_hand, ↓B_hand, ↓pub, eS]
    repeat (refine And.intro (hr _) ?_)
    refine ⟨h1.1, by rw [f2 87 (by omega)]; exact h3, fun M3 e1 e2 e3 => ?_⟩
    exact nx M3 (L_fin (S := S) (R := R_hand S (xs (i + 1)) (xs (i + 2)) (xs (i + 3))) (I_hand h1) r2 e1 e2 e3)
  refine bs_L_law_1078 hX ?_
  simp only [bk_L_law_1078, k_L_law_1078, ↓e_rk1, ↓e_rk0, ↓e_sk0, ↓e_sks, ↓e_ldi0, ↓e_ldis, ↓e_ldl0, ↓e_ldls, ↓e_lda0, ↓e_ldas, ↓e_ok0, ↓e_okss, ↓e_ok1i, ↓e_ok1r, ↓e_ok1n, ↓e_sti, ↓e_sta, ↓e_1, ↓e_2, ↓e_l1, ↓e_l2, ↓e_li, ↓e_sw0, ↓e_sws, ↓e_ceq, ↓e_cne, ↓e_clt, ↓e_cge, ↓e_cgt, ↓e_cle, ↓e_nil, ↓e_cons, ↓e_iconst, ↓e_bipush, ↓e_sipush, ↓e_ldc, ↓e_ldcw, ↓e_ldc2, ↓e_lconst, ↓e_iloadn, ↓e_iload, ↓e_lloadn, ↓e_lload, ↓e_aloadn, ↓e_aload, ↓e_istoren, ↓e_istore, ↓e_astoren, ↓e_astore, ↓e_add, ↓e_iinc, ↓e_iadd, ↓e_isub, ↓e_imul, ↓e_iand, ↓e_ior, ↓e_ixor, ↓e_ishl, ↓e_iushr, ↓e_idiv, ↓e_irem, ↓e_ineg, ↓e_i2l, ↓e_i2b, ↓e_i2s, ↓e_l2i, ↓e_land, ↓e_lor, ↓e_lshl, ↓e_lshr, ↓e_lushr, ↓e_lcmp, ↓e_dupi, ↓e_dupr, ↓e_popi, ↓e_dup2, ↓e_goto, ↓e_if, ↓e_icmp, ↓e_tsw, ↓e_lsw, ↓e_getf, ↓e_putf, ↓e_gets, ↓e_iald, ↓e_cald, ↓e_iast, ↓e_aald, ↓e_aast, ↓e_len, ↓e_copy, ↓e_abs, ↓e_max, ↓e_min, ↓e_iret, ↓e_aret, ↓e_vret, ↓e_is0, ↓e_is1, ↓e_is2, ↓e_is3, ↓e_is4, ↓e_iv1, ↓e_iv2, ↓e_iv3, ↓e_iv4, ↓e_iv5, ↓e_iv6, ↓reduceIte, Nat.reduceAdd, Nat.reduceEqDiff, ↓zcl0, ↓zclv, List.map_nil, List.sum_nil, List.map_cons, List.sum_cons, zcat, true_and, and_true, Nat.reduceLeDiff, eq_self, forall_const, implies_true, not_true_eq_false, false_implies, v_0, v_87, ↓v_0, ↓v_87, ↓s1, ↓s2, ↓s3, ↓s4, ↓s5, ↓ctL9_x_hand, ↓r_x_hand, ↓B_x_hand]
  repeat (refine And.intro (hr _) ?_)
  exact ⟨S, h1.1, h2, fun M2 r2 f2 => J M2 r2 f2⟩
theorem lc_parts {E : ZE} {X : ZK} {Rt : ZR} (hX : zCl E zlaw 13 false ctL9 Rt X) {i : Nat} {xs : Nat → Int} (s9 : Scr E i xs) (hr : ∀ j, rg (xs j)) {n : Int} (hn : n < 4000) {M : ZMm} (hM : Lin n M) (nx : ∀ M2 : ZMm, Lin (n + 1) M2 → LX X 1569 i [] M2) : LX X 1121 i [] M := by
  obtain ⟨s1, s2, s3, s4, s5⟩ := s9
  obtain ⟨h1, h2, h3⟩ := hM
  obtain ⟨S, hS⟩ : ∃ S, st M = S := ⟨_, rfl⟩
  rw [hS] at h1 h2
  have J : ∀ M2 : ZMm, Rc (R_parts S).2 M2 → (∀ x, 87 ≤ x → M2 x = M x) → LX X 1125 i [.inl (R_parts S).1] M2 := by
    intro M2 r2 f2
    have eS : st M2 = S := (st_eq f2).trans hS
    refine bs_L_law_1125 hX ?_
    simp only [bk_L_law_1125, k_L_law_1125, ↓e_rk1, ↓e_rk0, ↓e_sk0, ↓e_sks, ↓e_ldi0, ↓e_ldis, ↓e_ldl0, ↓e_ldls, ↓e_lda0, ↓e_ldas, ↓e_ok0, ↓e_okss, ↓e_ok1i, ↓e_ok1r, ↓e_ok1n, ↓e_sti, ↓e_sta, ↓e_1, ↓e_2, ↓e_l1, ↓e_l2, ↓e_li, ↓e_sw0, ↓e_sws, ↓e_ceq, ↓e_cne, ↓e_clt, ↓e_cge, ↓e_cgt, ↓e_cle, ↓e_nil, ↓e_cons, ↓e_iconst, ↓e_bipush, ↓e_sipush, ↓e_ldc, ↓e_ldcw, ↓e_ldc2, ↓e_lconst, ↓e_iloadn, ↓e_iload, ↓e_lloadn, ↓e_lload, ↓e_aloadn, ↓e_aload, ↓e_istoren, ↓e_istore, ↓e_astoren, ↓e_astore, ↓e_add, ↓e_iinc, ↓e_iadd, ↓e_isub, ↓e_imul, ↓e_iand, ↓e_ior, ↓e_ixor, ↓e_ishl, ↓e_iushr, ↓e_idiv, ↓e_irem, ↓e_ineg, ↓e_i2l, ↓e_i2b, ↓e_i2s, ↓e_l2i, ↓e_land, ↓e_lor, ↓e_lshl, ↓e_lshr, ↓e_lushr, ↓e_lcmp, ↓e_dupi, ↓e_dupr, ↓e_popi, ↓e_dup2, ↓e_goto, ↓e_if, ↓e_icmp, ↓e_tsw, ↓e_lsw, ↓e_getf, ↓e_putf, ↓e_gets, ↓e_iald, ↓e_cald, ↓e_iast, ↓e_aald, ↓e_aast, ↓e_len, ↓e_copy, ↓e_abs, ↓e_max, ↓e_min, ↓e_iret, ↓e_aret, ↓e_vret, ↓e_is0, ↓e_is1, ↓e_is2, ↓e_is3, ↓e_is4, ↓e_iv1, ↓e_iv2, ↓e_iv3, ↓e_iv4, ↓e_iv5, ↓e_iv6, ↓reduceIte, Nat.reduceAdd, Nat.reduceEqDiff, ↓zcl0, ↓zclv, List.map_nil, List.sum_nil, List.map_cons, List.sum_cons, zcat, true_and, and_true, Nat.reduceLeDiff, eq_self, forall_const, implies_true, not_true_eq_false, false_implies, v_0, v_87, ↓v_0, ↓v_87, ↓s1, ↓s2, ↓s3, ↓s4, ↓s5, ↓ctL9_parts, ↓r_parts, ↓B_parts, ↓pub, eS]
    repeat (refine And.intro (hr _) ?_)
    refine ⟨h1.1, by rw [f2 87 (by omega)]; exact h3, fun M3 e1 e2 e3 => ?_⟩
    exact nx M3 (L_fin (S := S) (R := R_parts S) (I_parts h1) r2 e1 e2 e3)
  refine bs_L_law_1121 hX ?_
  simp only [bk_L_law_1121, k_L_law_1121, ↓e_rk1, ↓e_rk0, ↓e_sk0, ↓e_sks, ↓e_ldi0, ↓e_ldis, ↓e_ldl0, ↓e_ldls, ↓e_lda0, ↓e_ldas, ↓e_ok0, ↓e_okss, ↓e_ok1i, ↓e_ok1r, ↓e_ok1n, ↓e_sti, ↓e_sta, ↓e_1, ↓e_2, ↓e_l1, ↓e_l2, ↓e_li, ↓e_sw0, ↓e_sws, ↓e_ceq, ↓e_cne, ↓e_clt, ↓e_cge, ↓e_cgt, ↓e_cle, ↓e_nil, ↓e_cons, ↓e_iconst, ↓e_bipush, ↓e_sipush, ↓e_ldc, ↓e_ldcw, ↓e_ldc2, ↓e_lconst, ↓e_iloadn, ↓e_iload, ↓e_lloadn, ↓e_lload, ↓e_aloadn, ↓e_aload, ↓e_istoren, ↓e_istore, ↓e_astoren, ↓e_astore, ↓e_add, ↓e_iinc, ↓e_iadd, ↓e_isub, ↓e_imul, ↓e_iand, ↓e_ior, ↓e_ixor, ↓e_ishl, ↓e_iushr, ↓e_idiv, ↓e_irem, ↓e_ineg, ↓e_i2l, ↓e_i2b, ↓e_i2s, ↓e_l2i, ↓e_land, ↓e_lor, ↓e_lshl, ↓e_lshr, ↓e_lushr, ↓e_lcmp, ↓e_dupi, ↓e_dupr, ↓e_popi, ↓e_dup2, ↓e_goto, ↓e_if, ↓e_icmp, ↓e_tsw, ↓e_lsw, ↓e_getf, ↓e_putf, ↓e_gets, ↓e_iald, ↓e_cald, ↓e_iast, ↓e_aald, ↓e_aast, ↓e_len, ↓e_copy, ↓e_abs, ↓e_max, ↓e_min, ↓e_iret, ↓e_aret, ↓e_vret, ↓e_is0, ↓e_is1, ↓e_is2, ↓e_is3, ↓e_is4, ↓e_iv1, ↓e_iv2, ↓e_iv3, ↓e_iv4, ↓e_iv5, ↓e_iv6, ↓reduceIte, Nat.reduceAdd, Nat.reduceEqDiff, ↓zcl0, ↓zclv, List.map_nil, List.sum_nil, List.map_cons, List.sum_cons, zcat, true_and, and_true, Nat.reduceLeDiff, eq_self, forall_const, implies_true, not_true_eq_false, false_implies, v_0, v_87, ↓v_0, ↓v_87, ↓s1, ↓s2, ↓s3, ↓s4, ↓s5, ↓ctL9_x_parts, ↓r_x_parts, ↓B_x_parts]
  repeat (refine And.intro (hr _) ?_)
  exact ⟨S, h1.1, h2, fun M2 r2 f2 => J M2 r2 f2⟩
theorem lc_odds {E : ZE} {X : ZK} {Rt : ZR} (hX : zCl E zlaw 13 false ctL9 Rt X) {i : Nat} {xs : Nat → Int} (s9 : Scr E i xs) (hr : ∀ j, rg (xs j)) {n : Int} (hn : n < 4000) {M : ZMm} (hM : Lin n M) (nx : ∀ M2 : ZMm, Lin (n + 1) M2 → LX X 1569 i [] M2) : LX X 1134 i [] M := by
  obtain ⟨s1, s2, s3, s4, s5⟩ := s9
  obtain ⟨h1, h2, h3⟩ := hM
  obtain ⟨S, hS⟩ : ∃ S, st M = S := ⟨_, rfl⟩
  rw [hS] at h1 h2
  have J : ∀ M2 : ZMm, Rc (R_odds S (xs (i + 1)) (xs (i + 2)) (xs (i + 3))).2 M2 → (∀ x, 87 ≤ x → M2 x = M x) → LX X 1153 i [.inl (R_odds S (xs (i + 1)) (xs (i + 2)) (xs (i + 3))).1] M2 := by
    intro M2 r2 f2
    have eS : st M2 = S := (st_eq f2).trans hS
    refine bs_L_law_1153 hX ?_
    simp only [bk_L_law_1153, k_L_law_1153, ↓e_rk1, ↓e_rk0, ↓e_sk0, ↓e_sks, ↓e_ldi0, ↓e_ldis, ↓e_ldl0, ↓e_ldls, ↓e_lda0, ↓e_ldas, ↓e_ok0, ↓e_okss, ↓e_ok1i, ↓e_ok1r, ↓e_ok1n, ↓e_sti, ↓e_sta, ↓e_1, ↓e_2, ↓e_l1, ↓e_l2, ↓e_li, ↓e_sw0, ↓e_sws, ↓e_ceq, ↓e_cne, ↓e_clt, ↓e_cge, ↓e_cgt, ↓e_cle, ↓e_nil, ↓e_cons, ↓e_iconst, ↓e_bipush, ↓e_sipush, ↓e_ldc, ↓e_ldcw, ↓e_ldc2, ↓e_lconst, ↓e_iloadn, ↓e_iload, ↓e_lloadn, ↓e_lload, ↓e_aloadn, ↓e_aload, ↓e_istoren, ↓e_istore, ↓e_astoren, ↓e_astore, ↓e_add, ↓e_iinc, ↓e_iadd, ↓e_isub, ↓e_imul, ↓e_iand, ↓e_ior, ↓e_ixor, ↓e_ishl, ↓e_iushr, ↓e_idiv, ↓e_irem, ↓e_ineg, ↓e_i2l, ↓e_i2b, ↓e_i2s, ↓e_l2i, ↓e_land, ↓e_lor, ↓e_lshl, ↓e_lshr, ↓e_lushr, ↓e_lcmp, ↓e_dupi, ↓e_dupr, ↓e_popi, ↓e_dup2, ↓e_goto, ↓e_if, ↓e_icmp, ↓e_tsw, ↓e_lsw, ↓e_getf, ↓e_putf, ↓e_gets, ↓e_iald, ↓e_cald, ↓e_iast, ↓e_aald, ↓e_aast, ↓e_len, ↓e_copy, ↓e_abs, ↓e_max, ↓e_min, ↓e_iret, ↓e_aret, ↓e_vret, ↓e_is0, ↓e_is1, ↓e_is2, ↓e_is3, ↓e_is4, ↓e_iv1, ↓e_iv2, ↓e_iv3, ↓e_iv4, ↓e_iv5, ↓e_iv6, ↓reduceIte, Nat.reduceAdd, Nat.reduceEqDiff, ↓zcl0, ↓zclv, List.map_nil, List.sum_nil, List.map_cons, List.sum_cons, zcat, true_and, and_true, Nat.reduceLeDiff, eq_self, forall_const, implies_true, not_true_eq_false, false_implies, v_0, v_87, ↓v_0, ↓v_87, ↓s1, ↓s2, ↓s3, ↓s4, ↓s5, ↓ctL9_odds, ↓r_odds, ↓B_odds, ↓pub, eS]
    repeat (refine And.intro (hr _) ?_)
    refine ⟨h1.1, by rw [f2 87 (by omega)]; exact h3, fun M3 e1 e2 e3 => ?_⟩
    exact nx M3 (L_fin (S := S) (R := R_odds S (xs (i + 1)) (xs (i + 2)) (xs (i + 3))) (I_odds h1) r2 e1 e2 e3)
  refine bs_L_law_1134 hX ?_
  simp only [bk_L_law_1134, k_L_law_1134, ↓e_rk1, ↓e_rk0, ↓e_sk0, ↓e_sks, ↓e_ldi0, ↓e_ldis, ↓e_ldl0, ↓e_ldls, ↓e_lda0, ↓e_ldas, ↓e_ok0, ↓e_okss, ↓e_ok1i, ↓e_ok1r, ↓e_ok1n, ↓e_sti, ↓e_sta, ↓e_1, ↓e_2, ↓e_l1, ↓e_l2, ↓e_li, ↓e_sw0, ↓e_sws, ↓e_ceq, ↓e_cne, ↓e_clt, ↓e_cge, ↓e_cgt, ↓e_cle, ↓e_nil, ↓e_cons, ↓e_iconst, ↓e_bipush, ↓e_sipush, ↓e_ldc, ↓e_ldcw, ↓e_ldc2, ↓e_lconst, ↓e_iloadn, ↓e_iload, ↓e_lloadn, ↓e_lload, ↓e_aloadn, ↓e_aload, ↓e_istoren, ↓e_istore, ↓e_astoren, ↓e_astore, ↓e_add, ↓e_iinc, ↓e_iadd, ↓e_isub, ↓e_imul, ↓e_iand, ↓e_ior, ↓e_ixor, ↓e_ishl, ↓e_iushr, ↓e_idiv, ↓e_irem, ↓e_ineg, ↓e_i2l, ↓e_i2b, ↓e_i2s, ↓e_l2i, ↓e_land, ↓e_lor, ↓e_lshl, ↓e_lshr, ↓e_lushr, ↓e_lcmp, ↓e_dupi, ↓e_dupr, ↓e_popi, ↓e_dup2, ↓e_goto, ↓e_if, ↓e_icmp, ↓e_tsw, ↓e_lsw, ↓e_getf, ↓e_putf, ↓e_gets, ↓e_iald, ↓e_cald, ↓e_iast, ↓e_aald, ↓e_aast, ↓e_len, ↓e_copy, ↓e_abs, ↓e_max, ↓e_min, ↓e_iret, ↓e_aret, ↓e_vret, ↓e_is0, ↓e_is1, ↓e_is2, ↓e_is3, ↓e_is4, ↓e_iv1, ↓e_iv2, ↓e_iv3, ↓e_iv4, ↓e_iv5, ↓e_iv6, ↓reduceIte, Nat.reduceAdd, Nat.reduceEqDiff, ↓zcl0, ↓zclv, List.map_nil, List.sum_nil, List.map_cons, List.sum_cons, zcat, true_and, and_true, Nat.reduceLeDiff, eq_self, forall_const, implies_true, not_true_eq_false, false_implies, v_0, v_87, ↓v_0, ↓v_87, ↓s1, ↓s2, ↓s3, ↓s4, ↓s5, ↓ctL9_x_odds, ↓r_x_odds, ↓B_x_odds]
  repeat (refine And.intro (hr _) ?_)
  exact ⟨S, h1.1, h2, fun M2 r2 f2 => J M2 r2 f2⟩
theorem lc_seed {E : ZE} {X : ZK} {Rt : ZR} (hX : zCl E zlaw 13 false ctL9 Rt X) {i : Nat} {xs : Nat → Int} (s9 : Scr E i xs) (hr : ∀ j, rg (xs j)) {n : Int} (hn : n < 4000) {M : ZMm} (hM : Lin n M) (nx : ∀ M2 : ZMm, Lin (n + 1) M2 → LX X 1569 i [] M2) : LX X 1177 i [] M := by
  obtain ⟨s1, s2, s3, s4, s5⟩ := s9
  obtain ⟨h1, h2, h3⟩ := hM
  obtain ⟨S, hS⟩ : ∃ S, st M = S := ⟨_, rfl⟩
  rw [hS] at h1 h2
  have J : ∀ M2 : ZMm, Rc (R_seed S (xs (i + 1))).2 M2 → (∀ x, 87 ≤ x → M2 x = M x) → LX X 1186 i [.inl (R_seed S (xs (i + 1))).1] M2 := by
    intro M2 r2 f2
    have eS : st M2 = S := (st_eq f2).trans hS
    refine bs_L_law_1186 hX ?_
    simp only [bk_L_law_1186, k_L_law_1186, ↓e_rk1, ↓e_rk0, ↓e_sk0, ↓e_sks, ↓e_ldi0, ↓e_ldis, ↓e_ldl0, ↓e_ldls, ↓e_lda0, ↓e_ldas, ↓e_ok0, ↓e_okss, ↓e_ok1i, ↓e_ok1r, ↓e_ok1n, ↓e_sti, ↓e_sta, ↓e_1, ↓e_2, ↓e_l1, ↓e_l2, ↓e_li, ↓e_sw0, ↓e_sws, ↓e_ceq, ↓e_cne, ↓e_clt, ↓e_cge, ↓e_cgt, ↓e_cle, ↓e_nil, ↓e_cons, ↓e_iconst, ↓e_bipush, ↓e_sipush, ↓e_ldc, ↓e_ldcw, ↓e_ldc2, ↓e_lconst, ↓e_iloadn, ↓e_iload, ↓e_lloadn, ↓e_lload, ↓e_aloadn, ↓e_aload, ↓e_istoren, ↓e_istore, ↓e_astoren, ↓e_astore, ↓e_add, ↓e_iinc, ↓e_iadd, ↓e_isub, ↓e_imul, ↓e_iand, ↓e_ior, ↓e_ixor, ↓e_ishl, ↓e_iushr, ↓e_idiv, ↓e_irem, ↓e_ineg, ↓e_i2l, ↓e_i2b, ↓e_i2s, ↓e_l2i, ↓e_land, ↓e_lor, ↓e_lshl, ↓e_lshr, ↓e_lushr, ↓e_lcmp, ↓e_dupi, ↓e_dupr, ↓e_popi, ↓e_dup2, ↓e_goto, ↓e_if, ↓e_icmp, ↓e_tsw, ↓e_lsw, ↓e_getf, ↓e_putf, ↓e_gets, ↓e_iald, ↓e_cald, ↓e_iast, ↓e_aald, ↓e_aast, ↓e_len, ↓e_copy, ↓e_abs, ↓e_max, ↓e_min, ↓e_iret, ↓e_aret, ↓e_vret, ↓e_is0, ↓e_is1, ↓e_is2, ↓e_is3, ↓e_is4, ↓e_iv1, ↓e_iv2, ↓e_iv3, ↓e_iv4, ↓e_iv5, ↓e_iv6, ↓reduceIte, Nat.reduceAdd, Nat.reduceEqDiff, ↓zcl0, ↓zclv, List.map_nil, List.sum_nil, List.map_cons, List.sum_cons, zcat, true_and, and_true, Nat.reduceLeDiff, eq_self, forall_const, implies_true, not_true_eq_false, false_implies, v_0, v_87, ↓v_0, ↓v_87, ↓s1, ↓s2, ↓s3, ↓s4, ↓s5, ↓ctL9_seed, ↓r_seed, ↓B_seed, ↓pub, eS]
    repeat (refine And.intro (hr _) ?_)
    refine ⟨h1.1, by rw [f2 87 (by omega)]; exact h3, fun M3 e1 e2 e3 => ?_⟩
    exact ⟨fun _ => nx M3 (L_fin (S := S) (R := R_seed S (xs (i + 1))) (I_seed h1) r2 e1 e2 e3), fun q => absurd rfl q⟩
  refine bs_L_law_1177 hX ?_
  simp only [bk_L_law_1177, k_L_law_1177, ↓e_rk1, ↓e_rk0, ↓e_sk0, ↓e_sks, ↓e_ldi0, ↓e_ldis, ↓e_ldl0, ↓e_ldls, ↓e_lda0, ↓e_ldas, ↓e_ok0, ↓e_okss, ↓e_ok1i, ↓e_ok1r, ↓e_ok1n, ↓e_sti, ↓e_sta, ↓e_1, ↓e_2, ↓e_l1, ↓e_l2, ↓e_li, ↓e_sw0, ↓e_sws, ↓e_ceq, ↓e_cne, ↓e_clt, ↓e_cge, ↓e_cgt, ↓e_cle, ↓e_nil, ↓e_cons, ↓e_iconst, ↓e_bipush, ↓e_sipush, ↓e_ldc, ↓e_ldcw, ↓e_ldc2, ↓e_lconst, ↓e_iloadn, ↓e_iload, ↓e_lloadn, ↓e_lload, ↓e_aloadn, ↓e_aload, ↓e_istoren, ↓e_istore, ↓e_astoren, ↓e_astore, ↓e_add, ↓e_iinc, ↓e_iadd, ↓e_isub, ↓e_imul, ↓e_iand, ↓e_ior, ↓e_ixor, ↓e_ishl, ↓e_iushr, ↓e_idiv, ↓e_irem, ↓e_ineg, ↓e_i2l, ↓e_i2b, ↓e_i2s, ↓e_l2i, ↓e_land, ↓e_lor, ↓e_lshl, ↓e_lshr, ↓e_lushr, ↓e_lcmp, ↓e_dupi, ↓e_dupr, ↓e_popi, ↓e_dup2, ↓e_goto, ↓e_if, ↓e_icmp, ↓e_tsw, ↓e_lsw, ↓e_getf, ↓e_putf, ↓e_gets, ↓e_iald, ↓e_cald, ↓e_iast, ↓e_aald, ↓e_aast, ↓e_len, ↓e_copy, ↓e_abs, ↓e_max, ↓e_min, ↓e_iret, ↓e_aret, ↓e_vret, ↓e_is0, ↓e_is1, ↓e_is2, ↓e_is3, ↓e_is4, ↓e_iv1, ↓e_iv2, ↓e_iv3, ↓e_iv4, ↓e_iv5, ↓e_iv6, ↓reduceIte, Nat.reduceAdd, Nat.reduceEqDiff, ↓zcl0, ↓zclv, List.map_nil, List.sum_nil, List.map_cons, List.sum_cons, zcat, true_and, and_true, Nat.reduceLeDiff, eq_self, forall_const, implies_true, not_true_eq_false, false_implies, v_0, v_87, ↓v_0, ↓v_87, ↓s1, ↓s2, ↓s3, ↓s4, ↓s5, ↓ctL9_x_seed, ↓r_x_seed, ↓B_x_seed]
  repeat (refine And.intro (hr _) ?_)
  exact ⟨S, h1.1, h2, fun M2 r2 f2 => J M2 r2 f2⟩
theorem lc_voice {E : ZE} {X : ZK} {Rt : ZR} (hX : zCl E zlaw 13 false ctL9 Rt X) {i : Nat} {xs : Nat → Int} (s9 : Scr E i xs) (hr : ∀ j, rg (xs j)) {n : Int} (hn : n < 4000) {M : ZMm} (hM : Lin n M) (nx : ∀ M2 : ZMm, Lin (n + 1) M2 → LX X 1569 i [] M2) : LX X 1200 i [] M := by
  obtain ⟨s1, s2, s3, s4, s5⟩ := s9
  obtain ⟨h1, h2, h3⟩ := hM
  obtain ⟨S, hS⟩ : ∃ S, st M = S := ⟨_, rfl⟩
  rw [hS] at h1 h2
  have J : ∀ M2 : ZMm, Rc (R_voice S (xs (i + 1)) (xs (i + 2)) (xs (i + 3))).2 M2 → (∀ x, 87 ≤ x → M2 x = M x) → LX X 1219 i [.inl (R_voice S (xs (i + 1)) (xs (i + 2)) (xs (i + 3))).1] M2 := by
    intro M2 r2 f2
    have eS : st M2 = S := (st_eq f2).trans hS
    refine bs_L_law_1219 hX ?_
    simp only [bk_L_law_1219, k_L_law_1219, ↓e_rk1, ↓e_rk0, ↓e_sk0, ↓e_sks, ↓e_ldi0, ↓e_ldis, ↓e_ldl0, ↓e_ldls, ↓e_lda0, ↓e_ldas, ↓e_ok0, ↓e_okss, ↓e_ok1i, ↓e_ok1r, ↓e_ok1n, ↓e_sti, ↓e_sta, ↓e_1, ↓e_2, ↓e_l1, ↓e_l2, ↓e_li, ↓e_sw0, ↓e_sws, ↓e_ceq, ↓e_cne, ↓e_clt, ↓e_cge, ↓e_cgt, ↓e_cle, ↓e_nil, ↓e_cons, ↓e_iconst, ↓e_bipush, ↓e_sipush, ↓e_ldc, ↓e_ldcw, ↓e_ldc2, ↓e_lconst, ↓e_iloadn, ↓e_iload, ↓e_lloadn, ↓e_lload, ↓e_aloadn, ↓e_aload, ↓e_istoren, ↓e_istore, ↓e_astoren, ↓e_astore, ↓e_add, ↓e_iinc, ↓e_iadd, ↓e_isub, ↓e_imul, ↓e_iand, ↓e_ior, ↓e_ixor, ↓e_ishl, ↓e_iushr, ↓e_idiv, ↓e_irem, ↓e_ineg, ↓e_i2l, ↓e_i2b, ↓e_i2s, ↓e_l2i, ↓e_land, ↓e_lor, ↓e_lshl, ↓e_lshr, ↓e_lushr, ↓e_lcmp, ↓e_dupi, ↓e_dupr, ↓e_popi, ↓e_dup2, ↓e_goto, ↓e_if, ↓e_icmp, ↓e_tsw, ↓e_lsw, ↓e_getf, ↓e_putf, ↓e_gets, ↓e_iald, ↓e_cald, ↓e_iast, ↓e_aald, ↓e_aast, ↓e_len, ↓e_copy, ↓e_abs, ↓e_max, ↓e_min, ↓e_iret, ↓e_aret, ↓e_vret, ↓e_is0, ↓e_is1, ↓e_is2, ↓e_is3, ↓e_is4, ↓e_iv1, ↓e_iv2, ↓e_iv3, ↓e_iv4, ↓e_iv5, ↓e_iv6, ↓reduceIte, Nat.reduceAdd, Nat.reduceEqDiff, ↓zcl0, ↓zclv, List.map_nil, List.sum_nil, List.map_cons, List.sum_cons, zcat, true_and, and_true, Nat.reduceLeDiff, eq_self, forall_const, implies_true, not_true_eq_false, false_implies, v_0, v_87, ↓v_0, ↓v_87, ↓s1, ↓s2, ↓s3, ↓s4, ↓s5, ↓ctL9_voice, ↓r_voice, ↓B_voice, ↓pub, eS]
    repeat (refine And.intro (hr _) ?_)
    refine ⟨h1.1, by rw [f2 87 (by omega)]; exact h3, fun M3 e1 e2 e3 => ?_⟩
    exact nx M3 (L_fin (S := S) (R := R_voice S (xs (i + 1)) (xs (i + 2)) (xs (i + 3))) (I_voice h1) r2 e1 e2 e3)
  refine bs_L_law_1200 hX ?_
  simp only [bk_L_law_1200, k_L_law_1200, ↓e_rk1, ↓e_rk0, ↓e_sk0, ↓e_sks, ↓e_ldi0, ↓e_ldis, ↓e_ldl0, ↓e_ldls, ↓e_lda0, ↓e_ldas, ↓e_ok0, ↓e_okss, ↓e_ok1i, ↓e_ok1r, ↓e_ok1n, ↓e_sti, ↓e_sta, ↓e_1, ↓e_2, ↓e_l1, ↓e_l2, ↓e_li, ↓e_sw0, ↓e_sws, ↓e_ceq, ↓e_cne, ↓e_clt, ↓e_cge, ↓e_cgt, ↓e_cle, ↓e_nil, ↓e_cons, ↓e_iconst, ↓e_bipush, ↓e_sipush, ↓e_ldc, ↓e_ldcw, ↓e_ldc2, ↓e_lconst, ↓e_iloadn, ↓e_iload, ↓e_lloadn, ↓e_lload, ↓e_aloadn, ↓e_aload, ↓e_istoren, ↓e_istore, ↓e_astoren, ↓e_astore, ↓e_add, ↓e_iinc, ↓e_iadd, ↓e_isub, ↓e_imul, ↓e_iand, ↓e_ior, ↓e_ixor, ↓e_ishl, ↓e_iushr, ↓e_idiv, ↓e_irem, ↓e_ineg, ↓e_i2l, ↓e_i2b, ↓e_i2s, ↓e_l2i, ↓e_land, ↓e_lor, ↓e_lshl, ↓e_lshr, ↓e_lushr, ↓e_lcmp, ↓e_dupi, ↓e_dupr, ↓e_popi, ↓e_dup2, ↓e_goto, ↓e_if, ↓e_icmp, ↓e_tsw, ↓e_lsw, ↓e_getf, ↓e_putf, ↓e_gets, ↓e_iald, ↓e_cald, ↓e_iast, ↓e_aald, ↓e_aast, ↓e_len, ↓e_copy, ↓e_abs, ↓e_max, ↓e_min, ↓e_iret, ↓e_aret, ↓e_vret, ↓e_is0, ↓e_is1, ↓e_is2, ↓e_is3, ↓e_is4, ↓e_iv1, ↓e_iv2, ↓e_iv3, ↓e_iv4, ↓e_iv5, ↓e_iv6, ↓reduceIte, Nat.reduceAdd, Nat.reduceEqDiff, ↓zcl0, ↓zclv, List.map_nil, List.sum_nil, List.map_cons, List.sum_cons, zcat, true_and, and_true, Nat.reduceLeDiff, eq_self, forall_const, implies_true, not_true_eq_false, false_implies, v_0, v_87, ↓v_0, ↓v_87, ↓s1, ↓s2, ↓s3, ↓s4, ↓s5, ↓ctL9_x_voice, ↓r_x_voice, ↓B_x_voice, ↓B_xvoice9]
  repeat (refine And.intro (hr _) ?_)
  exact ⟨S, h1.1, h2, fun M2 r2 f2 => J M2 r2 f2⟩
theorem lc_trace {E : ZE} {X : ZK} {Rt : ZR} (hX : zCl E zlaw 13 false ctL9 Rt X) {i : Nat} {xs : Nat → Int} (s9 : Scr E i xs) (hr : ∀ j, rg (xs j)) {n : Int} (hn : n < 4000) {M : ZMm} (hM : Lin n M) (nx : ∀ M2 : ZMm, Lin (n + 1) M2 → LX X 1569 i [] M2) : LX X 1243 i [] M := by
  obtain ⟨s1, s2, s3, s4, s5⟩ := s9
  obtain ⟨h1, h2, h3⟩ := hM
  obtain ⟨S, hS⟩ : ∃ S, st M = S := ⟨_, rfl⟩
  rw [hS] at h1 h2
  have J : ∀ M2 : ZMm, Rc (R_trace S (xs (i + 1))).2 M2 → (∀ x, 87 ≤ x → M2 x = M x) → LX X 1252 i [.inl (R_trace S (xs (i + 1))).1] M2 := by
    intro M2 r2 f2
    have eS : st M2 = S := (st_eq f2).trans hS
    refine bs_L_law_1252 hX ?_
    simp only [bk_L_law_1252, k_L_law_1252, ↓e_rk1, ↓e_rk0, ↓e_sk0, ↓e_sks, ↓e_ldi0, ↓e_ldis, ↓e_ldl0, ↓e_ldls, ↓e_lda0, ↓e_ldas, ↓e_ok0, ↓e_okss, ↓e_ok1i, ↓e_ok1r, ↓e_ok1n, ↓e_sti, ↓e_sta, ↓e_1, ↓e_2, ↓e_l1, ↓e_l2, ↓e_li, ↓e_sw0, ↓e_sws, ↓e_ceq, ↓e_cne, ↓e_clt, ↓e_cge, ↓e_cgt, ↓e_cle, ↓e_nil, ↓e_cons, ↓e_iconst, ↓e_bipush, ↓e_sipush, ↓e_ldc, ↓e_ldcw, ↓e_ldc2, ↓e_lconst, ↓e_iloadn, ↓e_iload, ↓e_lloadn, ↓e_lload, ↓e_aloadn, ↓e_aload, ↓e_istoren, ↓e_istore, ↓e_astoren, ↓e_astore, ↓e_add, ↓e_iinc, ↓e_iadd, ↓e_isub, ↓e_imul, ↓e_iand, ↓e_ior, ↓e_ixor, ↓e_ishl, ↓e_iushr, ↓e_idiv, ↓e_irem, ↓e_ineg, ↓e_i2l, ↓e_i2b, ↓e_i2s, ↓e_l2i, ↓e_land, ↓e_lor, ↓e_lshl, ↓e_lshr, ↓e_lushr, ↓e_lcmp, ↓e_dupi, ↓e_dupr, ↓e_popi, ↓e_dup2, ↓e_goto, ↓e_if, ↓e_icmp, ↓e_tsw, ↓e_lsw, ↓e_getf, ↓e_putf, ↓e_gets, ↓e_iald, ↓e_cald, ↓e_iast, ↓e_aald, ↓e_aast, ↓e_len, ↓e_copy, ↓e_abs, ↓e_max, ↓e_min, ↓e_iret, ↓e_aret, ↓e_vret, ↓e_is0, ↓e_is1, ↓e_is2, ↓e_is3, ↓e_is4, ↓e_iv1, ↓e_iv2, ↓e_iv3, ↓e_iv4, ↓e_iv5, ↓e_iv6, ↓reduceIte, Nat.reduceAdd, Nat.reduceEqDiff, ↓zcl0, ↓zclv, List.map_nil, List.sum_nil, List.map_cons, List.sum_cons, zcat, true_and, and_true, Nat.reduceLeDiff, eq_self, forall_const, implies_true, not_true_eq_false, false_implies, v_0, v_87, ↓v_0, ↓v_87, ↓s1, ↓s2, ↓s3, ↓s4, ↓s5, ↓ctL9_trace, ↓r_trace, ↓B_trace, ↓pub, eS]
    repeat (refine And.intro (hr _) ?_)
    refine ⟨h1.1, by rw [f2 87 (by omega)]; exact h3, fun M3 e1 e2 e3 => ?_⟩
    exact nx M3 (L_fin (S := S) (R := R_trace S (xs (i + 1))) (I_trace h1) r2 e1 e2 e3)
  refine bs_L_law_1243 hX ?_
  simp only [bk_L_law_1243, k_L_law_1243, ↓e_rk1, ↓e_rk0, ↓e_sk0, ↓e_sks, ↓e_ldi0, ↓e_ldis, ↓e_ldl0, ↓e_ldls, ↓e_lda0, ↓e_ldas, ↓e_ok0, ↓e_okss, ↓e_ok1i, ↓e_ok1r, ↓e_ok1n, ↓e_sti, ↓e_sta, ↓e_1, ↓e_2, ↓e_l1, ↓e_l2, ↓e_li, ↓e_sw0, ↓e_sws, ↓e_ceq, ↓e_cne, ↓e_clt, ↓e_cge, ↓e_cgt, ↓e_cle, ↓e_nil, ↓e_cons, ↓e_iconst, ↓e_bipush, ↓e_sipush, ↓e_ldc, ↓e_ldcw, ↓e_ldc2, ↓e_lconst, ↓e_iloadn, ↓e_iload, ↓e_lloadn, ↓e_lload, ↓e_aloadn, ↓e_aload, ↓e_istoren, ↓e_istore, ↓e_astoren, ↓e_astore, ↓e_add, ↓e_iinc, ↓e_iadd, ↓e_isub, ↓e_imul, ↓e_iand, ↓e_ior, ↓e_ixor, ↓e_ishl, ↓e_iushr, ↓e_idiv, ↓e_irem, ↓e_ineg, ↓e_i2l, ↓e_i2b, ↓e_i2s, ↓e_l2i, ↓e_land, ↓e_lor, ↓e_lshl, ↓e_lshr, ↓e_lushr, ↓e_lcmp, ↓e_dupi, ↓e_dupr, ↓e_popi, ↓e_dup2, ↓e_goto, ↓e_if, ↓e_icmp, ↓e_tsw, ↓e_lsw, ↓e_getf, ↓e_putf, ↓e_gets, ↓e_iald, ↓e_cald, ↓e_iast, ↓e_aald, ↓e_aast, ↓e_len, ↓e_copy, ↓e_abs, ↓e_max, ↓e_min, ↓e_iret, ↓e_aret, ↓e_vret, ↓e_is0, ↓e_is1, ↓e_is2, ↓e_is3, ↓e_is4, ↓e_iv1, ↓e_iv2, ↓e_iv3, ↓e_iv4, ↓e_iv5, ↓e_iv6, ↓reduceIte, Nat.reduceAdd, Nat.reduceEqDiff, ↓zcl0, ↓zclv, List.map_nil, List.sum_nil, List.map_cons, List.sum_cons, zcat, true_and, and_true, Nat.reduceLeDiff, eq_self, forall_const, implies_true, not_true_eq_false, false_implies, v_0, v_87, ↓v_0, ↓v_87, ↓s1, ↓s2, ↓s3, ↓s4, ↓s5, ↓ctL9_x_trace, ↓r_x_trace, ↓B_x_trace]
  repeat (refine And.intro (hr _) ?_)
  exact ⟨S, h1.1, h2, fun M2 r2 f2 => J M2 r2 f2⟩
theorem lc_sheet {E : ZE} {X : ZK} {Rt : ZR} (hX : zCl E zlaw 13 false ctL9 Rt X) {i : Nat} {xs : Nat → Int} (s9 : Scr E i xs) (hr : ∀ j, rg (xs j)) {n : Int} (hn : n < 4000) {M : ZMm} (hM : Lin n M) (nx : ∀ M2 : ZMm, Lin (n + 1) M2 → LX X 1569 i [] M2) : LX X 1266 i [] M := by
  obtain ⟨s1, s2, s3, s4, s5⟩ := s9
  obtain ⟨h1, h2, h3⟩ := hM
  obtain ⟨S, hS⟩ : ∃ S, st M = S := ⟨_, rfl⟩
  rw [hS] at h1 h2
  have J : ∀ M2 : ZMm, Rc (R_sheet S (xs (i + 1)) (xs (i + 2)) (xs (i + 3))).2 M2 → (∀ x, 87 ≤ x → M2 x = M x) → LX X 1285 i [.inl (R_sheet S (xs (i + 1)) (xs (i + 2)) (xs (i + 3))).1] M2 := by
    intro M2 r2 f2
    have eS : st M2 = S := (st_eq f2).trans hS
    refine bs_L_law_1285 hX ?_
    simp only [bk_L_law_1285, k_L_law_1285, ↓e_rk1, ↓e_rk0, ↓e_sk0, ↓e_sks, ↓e_ldi0, ↓e_ldis, ↓e_ldl0, ↓e_ldls, ↓e_lda0, ↓e_ldas, ↓e_ok0, ↓e_okss, ↓e_ok1i, ↓e_ok1r, ↓e_ok1n, ↓e_sti, ↓e_sta, ↓e_1, ↓e_2, ↓e_l1, ↓e_l2, ↓e_li, ↓e_sw0, ↓e_sws, ↓e_ceq, ↓e_cne, ↓e_clt, ↓e_cge, ↓e_cgt, ↓e_cle, ↓e_nil, ↓e_cons, ↓e_iconst, ↓e_bipush, ↓e_sipush, ↓e_ldc, ↓e_ldcw, ↓e_ldc2, ↓e_lconst, ↓e_iloadn, ↓e_iload, ↓e_lloadn, ↓e_lload, ↓e_aloadn, ↓e_aload, ↓e_istoren, ↓e_istore, ↓e_astoren, ↓e_astore, ↓e_add, ↓e_iinc, ↓e_iadd, ↓e_isub, ↓e_imul, ↓e_iand, ↓e_ior, ↓e_ixor, ↓e_ishl, ↓e_iushr, ↓e_idiv, ↓e_irem, ↓e_ineg, ↓e_i2l, ↓e_i2b, ↓e_i2s, ↓e_l2i, ↓e_land, ↓e_lor, ↓e_lshl, ↓e_lshr, ↓e_lushr, ↓e_lcmp, ↓e_dupi, ↓e_dupr, ↓e_popi, ↓e_dup2, ↓e_goto, ↓e_if, ↓e_icmp, ↓e_tsw, ↓e_lsw, ↓e_getf, ↓e_putf, ↓e_gets, ↓e_iald, ↓e_cald, ↓e_iast, ↓e_aald, ↓e_aast, ↓e_len, ↓e_copy, ↓e_abs, ↓e_max, ↓e_min, ↓e_iret, ↓e_aret, ↓e_vret, ↓e_is0, ↓e_is1, ↓e_is2, ↓e_is3, ↓e_is4, ↓e_iv1, ↓e_iv2, ↓e_iv3, ↓e_iv4, ↓e_iv5, ↓e_iv6, ↓reduceIte, Nat.reduceAdd, Nat.reduceEqDiff, ↓zcl0, ↓zclv, List.map_nil, List.sum_nil, List.map_cons, List.sum_cons, zcat, true_and, and_true, Nat.reduceLeDiff, eq_self, forall_const, implies_true, not_true_eq_false, false_implies, v_0, v_87, ↓v_0, ↓v_87, ↓s1, ↓s2, ↓s3, ↓s4, ↓s5, ↓ctL9_sheet, ↓r_sheet, ↓B_sheet, ↓pub, eS]
    repeat (refine And.intro (hr _) ?_)
    refine ⟨h1.1, by rw [f2 87 (by omega)]; exact h3, fun M3 e1 e2 e3 => ?_⟩
    exact nx M3 (L_fin (S := S) (R := R_sheet S (xs (i + 1)) (xs (i + 2)) (xs (i + 3))) (I_sheet h1) r2 e1 e2 e3)
  refine bs_L_law_1266 hX ?_
  simp only [bk_L_law_1266, k_L_law_1266, ↓e_rk1, ↓e_rk0, ↓e_sk0, ↓e_sks, ↓e_ldi0, ↓e_ldis, ↓e_ldl0, ↓e_ldls, ↓e_lda0, ↓e_ldas, ↓e_ok0, ↓e_okss, ↓e_ok1i, ↓e_ok1r, ↓e_ok1n, ↓e_sti, ↓e_sta, ↓e_1, ↓e_2, ↓e_l1, ↓e_l2, ↓e_li, ↓e_sw0, ↓e_sws, ↓e_ceq, ↓e_cne, ↓e_clt, ↓e_cge, ↓e_cgt, ↓e_cle, ↓e_nil, ↓e_cons, ↓e_iconst, ↓e_bipush, ↓e_sipush, ↓e_ldc, ↓e_ldcw, ↓e_ldc2, ↓e_lconst, ↓e_iloadn, ↓e_iload, ↓e_lloadn, ↓e_lload, ↓e_aloadn, ↓e_aload, ↓e_istoren, ↓e_istore, ↓e_astoren, ↓e_astore, ↓e_add, ↓e_iinc, ↓e_iadd, ↓e_isub, ↓e_imul, ↓e_iand, ↓e_ior, ↓e_ixor, ↓e_ishl, ↓e_iushr, ↓e_idiv, ↓e_irem, ↓e_ineg, ↓e_i2l, ↓e_i2b, ↓e_i2s, ↓e_l2i, ↓e_land, ↓e_lor, ↓e_lshl, ↓e_lshr, ↓e_lushr, ↓e_lcmp, ↓e_dupi, ↓e_dupr, ↓e_popi, ↓e_dup2, ↓e_goto, ↓e_if, ↓e_icmp, ↓e_tsw, ↓e_lsw, ↓e_getf, ↓e_putf, ↓e_gets, ↓e_iald, ↓e_cald, ↓e_iast, ↓e_aald, ↓e_aast, ↓e_len, ↓e_copy, ↓e_abs, ↓e_max, ↓e_min, ↓e_iret, ↓e_aret, ↓e_vret, ↓e_is0, ↓e_is1, ↓e_is2, ↓e_is3, ↓e_is4, ↓e_iv1, ↓e_iv2, ↓e_iv3, ↓e_iv4, ↓e_iv5, ↓e_iv6, ↓reduceIte, Nat.reduceAdd, Nat.reduceEqDiff, ↓zcl0, ↓zclv, List.map_nil, List.sum_nil, List.map_cons, List.sum_cons, zcat, true_and, and_true, Nat.reduceLeDiff, eq_self, forall_const, implies_true, not_true_eq_false, false_implies, v_0, v_87, ↓v_0, ↓v_87, ↓s1, ↓s2, ↓s3, ↓s4, ↓s5, ↓ctL9_x_sheet, ↓r_x_sheet, ↓B_x_sheet]
  repeat (refine And.intro (hr _) ?_)
  exact ⟨S, h1.1, h2, fun M2 r2 f2 => J M2 r2 f2⟩
theorem lc_put {E : ZE} {X : ZK} {Rt : ZR} (hX : zCl E zlaw 13 false ctL9 Rt X) {i : Nat} {xs : Nat → Int} (s9 : Scr E i xs) (hr : ∀ j, rg (xs j)) {n : Int} (hn : n < 4000) {M : ZMm} (hM : Lin n M) (nx : ∀ M2 : ZMm, Lin (n + 1) M2 → LX X 1569 i [] M2) : LX X 1309 i [] M := by
  obtain ⟨s1, s2, s3, s4, s5⟩ := s9
  obtain ⟨h1, h2, h3⟩ := hM
  obtain ⟨S, hS⟩ : ∃ S, st M = S := ⟨_, rfl⟩
  rw [hS] at h1 h2
  have J : ∀ M2 : ZMm, Rc (R_put S (xs (i + 1)) (xs (i + 2)) (xs (i + 3))).2 M2 → (∀ x, 87 ≤ x → M2 x = M x) → LX X 1328 i [.inl (R_put S (xs (i + 1)) (xs (i + 2)) (xs (i + 3))).1] M2 := by
    intro M2 r2 f2
    have eS : st M2 = S := (st_eq f2).trans hS
    refine bs_L_law_1328 hX ?_
    simp only [bk_L_law_1328, k_L_law_1328, ↓e_rk1, ↓e_rk0, ↓e_sk0, ↓e_sks, ↓e_ldi0, ↓e_ldis, ↓e_ldl0, ↓e_ldls, ↓e_lda0, ↓e_ldas, ↓e_ok0, ↓e_okss, ↓e_ok1i, ↓e_ok1r, ↓e_ok1n, ↓e_sti, ↓e_sta, ↓e_1, ↓e_2, ↓e_l1, ↓e_l2, ↓e_li, ↓e_sw0, ↓e_sws, ↓e_ceq, ↓e_cne, ↓e_clt, ↓e_cge, ↓e_cgt, ↓e_cle, ↓e_nil, ↓e_cons, ↓e_iconst, ↓e_bipush, ↓e_sipush, ↓e_ldc, ↓e_ldcw, ↓e_ldc2, ↓e_lconst, ↓e_iloadn, ↓e_iload, ↓e_lloadn, ↓e_lload, ↓e_aloadn, ↓e_aload, ↓e_istoren, ↓e_istore, ↓e_astoren, ↓e_astore, ↓e_add, ↓e_iinc, ↓e_iadd, ↓e_isub, ↓e_imul, ↓e_iand, ↓e_ior, ↓e_ixor, ↓e_ishl, ↓e_iushr, ↓e_idiv, ↓e_irem, ↓e_ineg, ↓e_i2l, ↓e_i2b, ↓e_i2s, ↓e_l2i, ↓e_land, ↓e_lor, ↓e_lshl, ↓e_lshr, ↓e_lushr, ↓e_lcmp, ↓e_dupi, ↓e_dupr, ↓e_popi, ↓e_dup2, ↓e_goto, ↓e_if, ↓e_icmp, ↓e_tsw, ↓e_lsw, ↓e_getf, ↓e_putf, ↓e_gets, ↓e_iald, ↓e_cald, ↓e_iast, ↓e_aald, ↓e_aast, ↓e_len, ↓e_copy, ↓e_abs, ↓e_max, ↓e_min, ↓e_iret, ↓e_aret, ↓e_vret, ↓e_is0, ↓e_is1, ↓e_is2, ↓e_is3, ↓e_is4, ↓e_iv1, ↓e_iv2, ↓e_iv3, ↓e_iv4, ↓e_iv5, ↓e_iv6, ↓reduceIte, Nat.reduceAdd, Nat.reduceEqDiff, ↓zcl0, ↓zclv, List.map_nil, List.sum_nil, List.map_cons, List.sum_cons, zcat, true_and, and_true, Nat.reduceLeDiff, eq_self, forall_const, implies_true, not_true_eq_false, false_implies, v_0, v_87, ↓v_0, ↓v_87, ↓s1, ↓s2, ↓s3, ↓s4, ↓s5, ↓ctL9_put, ↓r_put, ↓B_put, ↓pub, eS]
    repeat (refine And.intro (hr _) ?_)
    refine ⟨h1.1, by rw [f2 87 (by omega)]; exact h3, fun M3 e1 e2 e3 => ?_⟩
    exact nx M3 (L_fin (S := S) (R := R_put S (xs (i + 1)) (xs (i + 2)) (xs (i + 3))) (I_put h1 (hr _)) r2 e1 e2 e3)
  refine bs_L_law_1309 hX ?_
  simp only [bk_L_law_1309, k_L_law_1309, ↓e_rk1, ↓e_rk0, ↓e_sk0, ↓e_sks, ↓e_ldi0, ↓e_ldis, ↓e_ldl0, ↓e_ldls, ↓e_lda0, ↓e_ldas, ↓e_ok0, ↓e_okss, ↓e_ok1i, ↓e_ok1r, ↓e_ok1n, ↓e_sti, ↓e_sta, ↓e_1, ↓e_2, ↓e_l1, ↓e_l2, ↓e_li, ↓e_sw0, ↓e_sws, ↓e_ceq, ↓e_cne, ↓e_clt, ↓e_cge, ↓e_cgt, ↓e_cle, ↓e_nil, ↓e_cons, ↓e_iconst, ↓e_bipush, ↓e_sipush, ↓e_ldc, ↓e_ldcw, ↓e_ldc2, ↓e_lconst, ↓e_iloadn, ↓e_iload, ↓e_lloadn, ↓e_lload, ↓e_aloadn, ↓e_aload, ↓e_istoren, ↓e_istore, ↓e_astoren, ↓e_astore, ↓e_add, ↓e_iinc, ↓e_iadd, ↓e_isub, ↓e_imul, ↓e_iand, ↓e_ior, ↓e_ixor, ↓e_ishl, ↓e_iushr, ↓e_idiv, ↓e_irem, ↓e_ineg, ↓e_i2l, ↓e_i2b, ↓e_i2s, ↓e_l2i, ↓e_land, ↓e_lor, ↓e_lshl, ↓e_lshr, ↓e_lushr, ↓e_lcmp, ↓e_dupi, ↓e_dupr, ↓e_popi, ↓e_dup2, ↓e_goto, ↓e_if, ↓e_icmp, ↓e_tsw, ↓e_lsw, ↓e_getf, ↓e_putf, ↓e_gets, ↓e_iald, ↓e_cald, ↓e_iast, ↓e_aald, ↓e_aast, ↓e_len, ↓e_copy, ↓e_abs, ↓e_max, ↓e_min, ↓e_iret, ↓e_aret, ↓e_vret, ↓e_is0, ↓e_is1, ↓e_is2, ↓e_is3, ↓e_is4, ↓e_iv1, ↓e_iv2, ↓e_iv3, ↓e_iv4, ↓e_iv5, ↓e_iv6, ↓reduceIte, Nat.reduceAdd, Nat.reduceEqDiff, ↓zcl0, ↓zclv, List.map_nil, List.sum_nil, List.map_cons, List.sum_cons, zcat, true_and, and_true, Nat.reduceLeDiff, eq_self, forall_const, implies_true, not_true_eq_false, false_implies, v_0, v_87, ↓v_0, ↓v_87, ↓s1, ↓s2, ↓s3, ↓s4, ↓s5, ↓ctL9_x_put, ↓r_x_put, ↓B_x_put]
  repeat (refine And.intro (hr _) ?_)
  exact ⟨S, h1.1, h2, fun M2 r2 f2 => J M2 r2 f2⟩
theorem lc_move {E : ZE} {X : ZK} {Rt : ZR} (hX : zCl E zlaw 13 false ctL9 Rt X) {i : Nat} {xs : Nat → Int} (s9 : Scr E i xs) (hr : ∀ j, rg (xs j)) {n : Int} (hn : n < 4000) {M : ZMm} (hM : Lin n M) (nx : ∀ M2 : ZMm, Lin (n + 1) M2 → LX X 1569 i [] M2) : LX X 1352 i [] M := by
  obtain ⟨s1, s2, s3, s4, s5⟩ := s9
  obtain ⟨h1, h2, h3⟩ := hM
  obtain ⟨S, hS⟩ : ∃ S, st M = S := ⟨_, rfl⟩
  rw [hS] at h1 h2
  have J : ∀ M2 : ZMm, Rc (R_move S (xs (i + 1)) (xs (i + 2)) (xs (i + 3)) (xs (i + 4)) (xs (i + 5))).2 M2 → (∀ x, 87 ≤ x → M2 x = M x) → LX X 1381 i [.inl (R_move S (xs (i + 1)) (xs (i + 2)) (xs (i + 3)) (xs (i + 4)) (xs (i + 5))).1] M2 := by
    intro M2 r2 f2
    have eS : st M2 = S := (st_eq f2).trans hS
    refine bs_L_law_1381 hX ?_
    simp only [bk_L_law_1381, k_L_law_1381, ↓e_rk1, ↓e_rk0, ↓e_sk0, ↓e_sks, ↓e_ldi0, ↓e_ldis, ↓e_ldl0, ↓e_ldls, ↓e_lda0, ↓e_ldas, ↓e_ok0, ↓e_okss, ↓e_ok1i, ↓e_ok1r, ↓e_ok1n, ↓e_sti, ↓e_sta, ↓e_1, ↓e_2, ↓e_l1, ↓e_l2, ↓e_li, ↓e_sw0, ↓e_sws, ↓e_ceq, ↓e_cne, ↓e_clt, ↓e_cge, ↓e_cgt, ↓e_cle, ↓e_nil, ↓e_cons, ↓e_iconst, ↓e_bipush, ↓e_sipush, ↓e_ldc, ↓e_ldcw, ↓e_ldc2, ↓e_lconst, ↓e_iloadn, ↓e_iload, ↓e_lloadn, ↓e_lload, ↓e_aloadn, ↓e_aload, ↓e_istoren, ↓e_istore, ↓e_astoren, ↓e_astore, ↓e_add, ↓e_iinc, ↓e_iadd, ↓e_isub, ↓e_imul, ↓e_iand, ↓e_ior, ↓e_ixor, ↓e_ishl, ↓e_iushr, ↓e_idiv, ↓e_irem, ↓e_ineg, ↓e_i2l, ↓e_i2b, ↓e_i2s, ↓e_l2i, ↓e_land, ↓e_lor, ↓e_lshl, ↓e_lshr, ↓e_lushr, ↓e_lcmp, ↓e_dupi, ↓e_dupr, ↓e_popi, ↓e_dup2, ↓e_goto, ↓e_if, ↓e_icmp, ↓e_tsw, ↓e_lsw, ↓e_getf, ↓e_putf, ↓e_gets, ↓e_iald, ↓e_cald, ↓e_iast, ↓e_aald, ↓e_aast, ↓e_len, ↓e_copy, ↓e_abs, ↓e_max, ↓e_min, ↓e_iret, ↓e_aret, ↓e_vret, ↓e_is0, ↓e_is1, ↓e_is2, ↓e_is3, ↓e_is4, ↓e_iv1, ↓e_iv2, ↓e_iv3, ↓e_iv4, ↓e_iv5, ↓e_iv6, ↓reduceIte, Nat.reduceAdd, Nat.reduceEqDiff, ↓zcl0, ↓zclv, List.map_nil, List.sum_nil, List.map_cons, List.sum_cons, zcat, true_and, and_true, Nat.reduceLeDiff, eq_self, forall_const, implies_true, not_true_eq_false, false_implies, v_0, v_87, ↓v_0, ↓v_87, ↓s1, ↓s2, ↓s3, ↓s4, ↓s5, ↓ctL9_move, ↓r_move, ↓B_move, ↓pub, eS]
    repeat (refine And.intro (hr _) ?_)
    refine ⟨h1.1, by rw [f2 87 (by omega)]; exact h3, fun M3 e1 e2 e3 => ?_⟩
    exact nx M3 (L_fin (S := S) (R := R_move S (xs (i + 1)) (xs (i + 2)) (xs (i + 3)) (xs (i + 4)) (xs (i + 5))) (I_move h1) r2 e1 e2 e3)
  refine bs_L_law_1352 hX ?_
  simp only [bk_L_law_1352, k_L_law_1352, ↓e_rk1, ↓e_rk0, ↓e_sk0, ↓e_sks, ↓e_ldi0, ↓e_ldis, ↓e_ldl0, ↓e_ldls, ↓e_lda0, ↓e_ldas, ↓e_ok0, ↓e_okss, ↓e_ok1i, ↓e_ok1r, ↓e_ok1n, ↓e_sti, ↓e_sta, ↓e_1, ↓e_2, ↓e_l1, ↓e_l2, ↓e_li, ↓e_sw0, ↓e_sws, ↓e_ceq, ↓e_cne, ↓e_clt, ↓e_cge, ↓e_cgt, ↓e_cle, ↓e_nil, ↓e_cons, ↓e_iconst, ↓e_bipush, ↓e_sipush, ↓e_ldc, ↓e_ldcw, ↓e_ldc2, ↓e_lconst, ↓e_iloadn, ↓e_iload, ↓e_lloadn, ↓e_lload, ↓e_aloadn, ↓e_aload, ↓e_istoren, ↓e_istore, ↓e_astoren, ↓e_astore, ↓e_add, ↓e_iinc, ↓e_iadd, ↓e_isub, ↓e_imul, ↓e_iand, ↓e_ior, ↓e_ixor, ↓e_ishl, ↓e_iushr, ↓e_idiv, ↓e_irem, ↓e_ineg, ↓e_i2l, ↓e_i2b, ↓e_i2s, ↓e_l2i, ↓e_land, ↓e_lor, ↓e_lshl, ↓e_lshr, ↓e_lushr, ↓e_lcmp, ↓e_dupi, ↓e_dupr, ↓e_popi, ↓e_dup2, ↓e_goto, ↓e_if, ↓e_icmp, ↓e_tsw, ↓e_lsw, ↓e_getf, ↓e_putf, ↓e_gets, ↓e_iald, ↓e_cald, ↓e_iast, ↓e_aald, ↓e_aast, ↓e_len, ↓e_copy, ↓e_abs, ↓e_max, ↓e_min, ↓e_iret, ↓e_aret, ↓e_vret, ↓e_is0, ↓e_is1, ↓e_is2, ↓e_is3, ↓e_is4, ↓e_iv1, ↓e_iv2, ↓e_iv3, ↓e_iv4, ↓e_iv5, ↓e_iv6, ↓reduceIte, Nat.reduceAdd, Nat.reduceEqDiff, ↓zcl0, ↓zclv, List.map_nil, List.sum_nil, List.map_cons, List.sum_cons, zcat, true_and, and_true, Nat.reduceLeDiff, eq_self, forall_const, implies_true, not_true_eq_false, false_implies, v_0, v_87, ↓v_0, ↓v_87, ↓s1, ↓s2, ↓s3, ↓s4, ↓s5, ↓ctL9_x_move, ↓r_x_move, ↓B_x_move]
  repeat (refine And.intro (hr _) ?_)
  exact ⟨S, h1.1, h2, fun M2 r2 f2 => J M2 r2 f2⟩
theorem lc_rocks {E : ZE} {X : ZK} {Rt : ZR} (hX : zCl E zlaw 13 false ctL9 Rt X) {i : Nat} {xs : Nat → Int} (s9 : Scr E i xs) (hr : ∀ j, rg (xs j)) {n : Int} (hn : n < 4000) {M : ZMm} (hM : Lin n M) (nx : ∀ M2 : ZMm, Lin (n + 1) M2 → LX X 1569 i [] M2) : LX X 1415 i [] M := by
  obtain ⟨s1, s2, s3, s4, s5⟩ := s9
  obtain ⟨h1, h2, h3⟩ := hM
  obtain ⟨S, hS⟩ : ∃ S, st M = S := ⟨_, rfl⟩
  rw [hS] at h1 h2
  have J : ∀ M2 : ZMm, Rc (R_rocks S (xs (i + 1))).2 M2 → (∀ x, 87 ≤ x → M2 x = M x) → LX X 1424 i [.inl (R_rocks S (xs (i + 1))).1] M2 := by
    intro M2 r2 f2
    have eS : st M2 = S := (st_eq f2).trans hS
    refine bs_L_law_1424 hX ?_
    simp only [bk_L_law_1424, k_L_law_1424, ↓e_rk1, ↓e_rk0, ↓e_sk0, ↓e_sks, ↓e_ldi0, ↓e_ldis, ↓e_ldl0, ↓e_ldls, ↓e_lda0, ↓e_ldas, ↓e_ok0, ↓e_okss, ↓e_ok1i, ↓e_ok1r, ↓e_ok1n, ↓e_sti, ↓e_sta, ↓e_1, ↓e_2, ↓e_l1, ↓e_l2, ↓e_li, ↓e_sw0, ↓e_sws, ↓e_ceq, ↓e_cne, ↓e_clt, ↓e_cge, ↓e_cgt, ↓e_cle, ↓e_nil, ↓e_cons, ↓e_iconst, ↓e_bipush, ↓e_sipush, ↓e_ldc, ↓e_ldcw, ↓e_ldc2, ↓e_lconst, ↓e_iloadn, ↓e_iload, ↓e_lloadn, ↓e_lload, ↓e_aloadn, ↓e_aload, ↓e_istoren, ↓e_istore, ↓e_astoren, ↓e_astore, ↓e_add, ↓e_iinc, ↓e_iadd, ↓e_isub, ↓e_imul, ↓e_iand, ↓e_ior, ↓e_ixor, ↓e_ishl, ↓e_iushr, ↓e_idiv, ↓e_irem, ↓e_ineg, ↓e_i2l, ↓e_i2b, ↓e_i2s, ↓e_l2i, ↓e_land, ↓e_lor, ↓e_lshl, ↓e_lshr, ↓e_lushr, ↓e_lcmp, ↓e_dupi, ↓e_dupr, ↓e_popi, ↓e_dup2, ↓e_goto, ↓e_if, ↓e_icmp, ↓e_tsw, ↓e_lsw, ↓e_getf, ↓e_putf, ↓e_gets, ↓e_iald, ↓e_cald, ↓e_iast, ↓e_aald, ↓e_aast, ↓e_len, ↓e_copy, ↓e_abs, ↓e_max, ↓e_min, ↓e_iret, ↓e_aret, ↓e_vret, ↓e_is0, ↓e_is1, ↓e_is2, ↓e_is3, ↓e_is4, ↓e_iv1, ↓e_iv2, ↓e_iv3, ↓e_iv4, ↓e_iv5, ↓e_iv6, ↓reduceIte, Nat.reduceAdd, Nat.reduceEqDiff, ↓zcl0, ↓zclv, List.map_nil, List.sum_nil, List.map_cons, List.sum_cons, zcat, true_and, and_true, Nat.reduceLeDiff, eq_self, forall_const, implies_true, not_true_eq_false, false_implies, v_0, v_87, ↓v_0, ↓v_87, ↓s1, ↓s2, ↓s3, ↓s4, ↓s5, ↓ctL9_rocks, ↓r_rocks, ↓B_rocks, ↓pub, eS]
    repeat (refine And.intro (hr _) ?_)
    refine ⟨h1.1, by rw [f2 87 (by omega)]; exact h3, fun M3 e1 e2 e3 => ?_⟩
    exact nx M3 (L_fin (S := S) (R := R_rocks S (xs (i + 1))) (I_rocks h1) r2 e1 e2 e3)
  refine bs_L_law_1415 hX ?_
  simp only [bk_L_law_1415, k_L_law_1415, ↓e_rk1, ↓e_rk0, ↓e_sk0, ↓e_sks, ↓e_ldi0, ↓e_ldis, ↓e_ldl0, ↓e_ldls, ↓e_lda0, ↓e_ldas, ↓e_ok0, ↓e_okss, ↓e_ok1i, ↓e_ok1r, ↓e_ok1n, ↓e_sti, ↓e_sta, ↓e_1, ↓e_2, ↓e_l1, ↓e_l2, ↓e_li, ↓e_sw0, ↓e_sws, ↓e_ceq, ↓e_cne, ↓e_clt, ↓e_cge, ↓e_cgt, ↓e_cle, ↓e_nil, ↓e_cons, ↓e_iconst, ↓e_bipush, ↓e_sipush, ↓e_ldc, ↓e_ldcw, ↓e_ldc2, ↓e_lconst, ↓e_iloadn, ↓e_iload, ↓e_lloadn, ↓e_lload, ↓e_aloadn, ↓e_aload, ↓e_istoren, ↓e_istore, ↓e_astoren, ↓e_astore, ↓e_add, ↓e_iinc, ↓e_iadd, ↓e_isub, ↓e_imul, ↓e_iand, ↓e_ior, ↓e_ixor, ↓e_ishl, ↓e_iushr, ↓e_idiv, ↓e_irem, ↓e_ineg, ↓e_i2l, ↓e_i2b, ↓e_i2s, ↓e_l2i, ↓e_land, ↓e_lor, ↓e_lshl, ↓e_lshr, ↓e_lushr, ↓e_lcmp, ↓e_dupi, ↓e_dupr, ↓e_popi, ↓e_dup2, ↓e_goto, ↓e_if, ↓e_icmp, ↓e_tsw, ↓e_lsw, ↓e_getf, ↓e_putf, ↓e_gets, ↓e_iald, ↓e_cald, ↓e_iast, ↓e_aald, ↓e_aast, ↓e_len, ↓e_copy, ↓e_abs, ↓e_max, ↓e_min, ↓e_iret, ↓e_aret, ↓e_vret, ↓e_is0, ↓e_is1, ↓e_is2, ↓e_is3, ↓e_is4, ↓e_iv1, ↓e_iv2, ↓e_iv3, ↓e_iv4, ↓e_iv5, ↓e_iv6, ↓reduceIte, Nat.reduceAdd, Nat.reduceEqDiff, ↓zcl0, ↓zclv, List.map_nil, List.sum_nil, List.map_cons, List.sum_cons, zcat, true_and, and_true, Nat.reduceLeDiff, eq_self, forall_const, implies_true, not_true_eq_false, false_implies, v_0, v_87, ↓v_0, ↓v_87, ↓s1, ↓s2, ↓s3, ↓s4, ↓s5, ↓ctL9_x_rocks, ↓r_x_rocks, ↓B_x_rocks]
  repeat (refine And.intro (hr _) ?_)
  exact ⟨S, h1.1, h2, fun M2 r2 f2 => J M2 r2 f2⟩
theorem lc_judge {E : ZE} {X : ZK} {Rt : ZR} (hX : zCl E zlaw 13 false ctL9 Rt X) {i : Nat} {xs : Nat → Int} (s9 : Scr E i xs) (hr : ∀ j, rg (xs j)) {n : Int} (hn : n < 4000) {M : ZMm} (hM : Lin n M) (nx : ∀ M2 : ZMm, Lin (n + 1) M2 → LX X 1569 i [] M2) : LX X 1438 i [] M := by
  obtain ⟨s1, s2, s3, s4, s5⟩ := s9
  obtain ⟨h1, h2, h3⟩ := hM
  obtain ⟨S, hS⟩ : ∃ S, st M = S := ⟨_, rfl⟩
  rw [hS] at h1 h2
  have J : ∀ M2 : ZMm, Rc (R_judge S (xs (i + 1))).2 M2 → (∀ x, 87 ≤ x → M2 x = M x) → LX X 1447 i [.inl (R_judge S (xs (i + 1))).1] M2 := by
    intro M2 r2 f2
    have eS : st M2 = S := (st_eq f2).trans hS
    refine bs_L_law_1447 hX ?_
    simp only [bk_L_law_1447, k_L_law_1447, ↓e_rk1, ↓e_rk0, ↓e_sk0, ↓e_sks, ↓e_ldi0, ↓e_ldis, ↓e_ldl0, ↓e_ldls, ↓e_lda0, ↓e_ldas, ↓e_ok0, ↓e_okss, ↓e_ok1i, ↓e_ok1r, ↓e_ok1n, ↓e_sti, ↓e_sta, ↓e_1, ↓e_2, ↓e_l1, ↓e_l2, ↓e_li, ↓e_sw0, ↓e_sws, ↓e_ceq, ↓e_cne, ↓e_clt, ↓e_cge, ↓e_cgt, ↓e_cle, ↓e_nil, ↓e_cons, ↓e_iconst, ↓e_bipush, ↓e_sipush, ↓e_ldc, ↓e_ldcw, ↓e_ldc2, ↓e_lconst, ↓e_iloadn, ↓e_iload, ↓e_lloadn, ↓e_lload, ↓e_aloadn, ↓e_aload, ↓e_istoren, ↓e_istore, ↓e_astoren, ↓e_astore, ↓e_add, ↓e_iinc, ↓e_iadd, ↓e_isub, ↓e_imul, ↓e_iand, ↓e_ior, ↓e_ixor, ↓e_ishl, ↓e_iushr, ↓e_idiv, ↓e_irem, ↓e_ineg, ↓e_i2l, ↓e_i2b, ↓e_i2s, ↓e_l2i, ↓e_land, ↓e_lor, ↓e_lshl, ↓e_lshr, ↓e_lushr, ↓e_lcmp, ↓e_dupi, ↓e_dupr, ↓e_popi, ↓e_dup2, ↓e_goto, ↓e_if, ↓e_icmp, ↓e_tsw, ↓e_lsw, ↓e_getf, ↓e_putf, ↓e_gets, ↓e_iald, ↓e_cald, ↓e_iast, ↓e_aald, ↓e_aast, ↓e_len, ↓e_copy, ↓e_abs, ↓e_max, ↓e_min, ↓e_iret, ↓e_aret, ↓e_vret, ↓e_is0, ↓e_is1, ↓e_is2, ↓e_is3, ↓e_is4, ↓e_iv1, ↓e_iv2, ↓e_iv3, ↓e_iv4, ↓e_iv5, ↓e_iv6, ↓reduceIte, Nat.reduceAdd, Nat.reduceEqDiff, ↓zcl0, ↓zclv, List.map_nil, List.sum_nil, List.map_cons, List.sum_cons, zcat, true_and, and_true, Nat.reduceLeDiff, eq_self, forall_const, implies_true, not_true_eq_false, false_implies, v_0, v_87, ↓v_0, ↓v_87, ↓s1, ↓s2, ↓s3, ↓s4, ↓s5, ↓ctL9_judge, ↓r_judge, ↓B_judge, ↓pub, eS]
    repeat (refine And.intro (hr _) ?_)
    refine ⟨h1.1, by rw [f2 87 (by omega)]; exact h3, fun M3 e1 e2 e3 => ?_⟩
    exact nx M3 (L_fin (S := S) (R := R_judge S (xs (i + 1))) (I_judge h1) r2 e1 e2 e3)
  refine bs_L_law_1438 hX ?_
  simp only [bk_L_law_1438, k_L_law_1438, ↓e_rk1, ↓e_rk0, ↓e_sk0, ↓e_sks, ↓e_ldi0, ↓e_ldis, ↓e_ldl0, ↓e_ldls, ↓e_lda0, ↓e_ldas, ↓e_ok0, ↓e_okss, ↓e_ok1i, ↓e_ok1r, ↓e_ok1n, ↓e_sti, ↓e_sta, ↓e_1, ↓e_2, ↓e_l1, ↓e_l2, ↓e_li, ↓e_sw0, ↓e_sws, ↓e_ceq, ↓e_cne, ↓e_clt, ↓e_cge, ↓e_cgt, ↓e_cle, ↓e_nil, ↓e_cons, ↓e_iconst, ↓e_bipush, ↓e_sipush, ↓e_ldc, ↓e_ldcw, ↓e_ldc2, ↓e_lconst, ↓e_iloadn, ↓e_iload, ↓e_lloadn, ↓e_lload, ↓e_aloadn, ↓e_aload, ↓e_istoren, ↓e_istore, ↓e_astoren, ↓e_astore, ↓e_add, ↓e_iinc, ↓e_iadd, ↓e_isub, ↓e_imul, ↓e_iand, ↓e_ior, ↓e_ixor, ↓e_ishl, ↓e_iushr, ↓e_idiv, ↓e_irem, ↓e_ineg, ↓e_i2l, ↓e_i2b, ↓e_i2s, ↓e_l2i, ↓e_land, ↓e_lor, ↓e_lshl, ↓e_lshr, ↓e_lushr, ↓e_lcmp, ↓e_dupi, ↓e_dupr, ↓e_popi, ↓e_dup2, ↓e_goto, ↓e_if, ↓e_icmp, ↓e_tsw, ↓e_lsw, ↓e_getf, ↓e_putf, ↓e_gets, ↓e_iald, ↓e_cald, ↓e_iast, ↓e_aald, ↓e_aast, ↓e_len, ↓e_copy, ↓e_abs, ↓e_max, ↓e_min, ↓e_iret, ↓e_aret, ↓e_vret, ↓e_is0, ↓e_is1, ↓e_is2, ↓e_is3, ↓e_is4, ↓e_iv1, ↓e_iv2, ↓e_iv3, ↓e_iv4, ↓e_iv5, ↓e_iv6, ↓reduceIte, Nat.reduceAdd, Nat.reduceEqDiff, ↓zcl0, ↓zclv, List.map_nil, List.sum_nil, List.map_cons, List.sum_cons, zcat, true_and, and_true, Nat.reduceLeDiff, eq_self, forall_const, implies_true, not_true_eq_false, false_implies, v_0, v_87, ↓v_0, ↓v_87, ↓s1, ↓s2, ↓s3, ↓s4, ↓s5, ↓ctL9_x_judge, ↓r_x_judge, ↓B_x_judge]
  repeat (refine And.intro (hr _) ?_)
  exact ⟨S, h1.1, h2, fun M2 r2 f2 => J M2 r2 f2⟩
theorem lc_image {E : ZE} {X : ZK} {Rt : ZR} (hX : zCl E zlaw 13 false ctL9 Rt X) {i : Nat} {xs : Nat → Int} (s9 : Scr E i xs) (hr : ∀ j, rg (xs j)) {n : Int} (hn : n < 4000) {M : ZMm} (hM : Lin n M) (nx : ∀ M2 : ZMm, Lin (n + 1) M2 → LX X 1569 i [] M2) : LX X 1461 i [] M := by
  obtain ⟨s1, s2, s3, s4, s5⟩ := s9
  obtain ⟨h1, h2, h3⟩ := hM
  obtain ⟨S, hS⟩ : ∃ S, st M = S := ⟨_, rfl⟩
  rw [hS] at h1 h2
  have J : ∀ M2 : ZMm, Rc (R_image S).2 M2 → (∀ x, 87 ≤ x → M2 x = M x) → LX X 1465 i [.inl (R_image S).1] M2 := by
    intro M2 r2 f2
    have eS : st M2 = S := (st_eq f2).trans hS
    refine bs_L_law_1465 hX ?_
    simp only [bk_L_law_1465, k_L_law_1465, ↓e_rk1, ↓e_rk0, ↓e_sk0, ↓e_sks, ↓e_ldi0, ↓e_ldis, ↓e_ldl0, ↓e_ldls, ↓e_lda0, ↓e_ldas, ↓e_ok0, ↓e_okss, ↓e_ok1i, ↓e_ok1r, ↓e_ok1n, ↓e_sti, ↓e_sta, ↓e_1, ↓e_2, ↓e_l1, ↓e_l2, ↓e_li, ↓e_sw0, ↓e_sws, ↓e_ceq, ↓e_cne, ↓e_clt, ↓e_cge, ↓e_cgt, ↓e_cle, ↓e_nil, ↓e_cons, ↓e_iconst, ↓e_bipush, ↓e_sipush, ↓e_ldc, ↓e_ldcw, ↓e_ldc2, ↓e_lconst, ↓e_iloadn, ↓e_iload, ↓e_lloadn, ↓e_lload, ↓e_aloadn, ↓e_aload, ↓e_istoren, ↓e_istore, ↓e_astoren, ↓e_astore, ↓e_add, ↓e_iinc, ↓e_iadd, ↓e_isub, ↓e_imul, ↓e_iand, ↓e_ior, ↓e_ixor, ↓e_ishl, ↓e_iushr, ↓e_idiv, ↓e_irem, ↓e_ineg, ↓e_i2l, ↓e_i2b, ↓e_i2s, ↓e_l2i, ↓e_land, ↓e_lor, ↓e_lshl, ↓e_lshr, ↓e_lushr, ↓e_lcmp, ↓e_dupi, ↓e_dupr, ↓e_popi, ↓e_dup2, ↓e_goto, ↓e_if, ↓e_icmp, ↓e_tsw, ↓e_lsw, ↓e_getf, ↓e_putf, ↓e_gets, ↓e_iald, ↓e_cald, ↓e_iast, ↓e_aald, ↓e_aast, ↓e_len, ↓e_copy, ↓e_abs, ↓e_max, ↓e_min, ↓e_iret, ↓e_aret, ↓e_vret, ↓e_is0, ↓e_is1, ↓e_is2, ↓e_is3, ↓e_is4, ↓e_iv1, ↓e_iv2, ↓e_iv3, ↓e_iv4, ↓e_iv5, ↓e_iv6, ↓reduceIte, Nat.reduceAdd, Nat.reduceEqDiff, ↓zcl0, ↓zclv, List.map_nil, List.sum_nil, List.map_cons, List.sum_cons, zcat, true_and, and_true, Nat.reduceLeDiff, eq_self, forall_const, implies_true, not_true_eq_false, false_implies, v_0, v_87, ↓v_0, ↓v_87, ↓s1, ↓s2, ↓s3, ↓s4, ↓s5, ↓ctL9_image, ↓r_image, ↓B_image, ↓pub, eS]
    repeat (refine And.intro (hr _) ?_)
    refine ⟨h1.1, by rw [f2 87 (by omega)]; exact h3, fun M3 e1 e2 e3 => ?_⟩
    exact nx M3 (L_fin (S := S) (R := R_image S) (I_image h1 (hn)) r2 e1 e2 e3)
  refine bs_L_law_1461 hX ?_
  simp only [bk_L_law_1461, k_L_law_1461, ↓e_rk1, ↓e_rk0, ↓e_sk0, ↓e_sks, ↓e_ldi0, ↓e_ldis, ↓e_ldl0, ↓e_ldls, ↓e_lda0, ↓e_ldas, ↓e_ok0, ↓e_okss, ↓e_ok1i, ↓e_ok1r, ↓e_ok1n, ↓e_sti, ↓e_sta, ↓e_1, ↓e_2, ↓e_l1, ↓e_l2, ↓e_li, ↓e_sw0, ↓e_sws, ↓e_ceq, ↓e_cne, ↓e_clt, ↓e_cge, ↓e_cgt, ↓e_cle, ↓e_nil, ↓e_cons, ↓e_iconst, ↓e_bipush, ↓e_sipush, ↓e_ldc, ↓e_ldcw, ↓e_ldc2, ↓e_lconst, ↓e_iloadn, ↓e_iload, ↓e_lloadn, ↓e_lload, ↓e_aloadn, ↓e_aload, ↓e_istoren, ↓e_istore, ↓e_astoren, ↓e_astore, ↓e_add, ↓e_iinc, ↓e_iadd, ↓e_isub, ↓e_imul, ↓e_iand, ↓e_ior, ↓e_ixor, ↓e_ishl, ↓e_iushr, ↓e_idiv, ↓e_irem, ↓e_ineg, ↓e_i2l, ↓e_i2b, ↓e_i2s, ↓e_l2i, ↓e_land, ↓e_lor, ↓e_lshl, ↓e_lshr, ↓e_lushr, ↓e_lcmp, ↓e_dupi, ↓e_dupr, ↓e_popi, ↓e_dup2, ↓e_goto, ↓e_if, ↓e_icmp, ↓e_tsw, ↓e_lsw, ↓e_getf, ↓e_putf, ↓e_gets, ↓e_iald, ↓e_cald, ↓e_iast, ↓e_aald, ↓e_aast, ↓e_len, ↓e_copy, ↓e_abs, ↓e_max, ↓e_min, ↓e_iret, ↓e_aret, ↓e_vret, ↓e_is0, ↓e_is1, ↓e_is2, ↓e_is3, ↓e_is4, ↓e_iv1, ↓e_iv2, ↓e_iv3, ↓e_iv4, ↓e_iv5, ↓e_iv6, ↓reduceIte, Nat.reduceAdd, Nat.reduceEqDiff, ↓zcl0, ↓zclv, List.map_nil, List.sum_nil, List.map_cons, List.sum_cons, zcat, true_and, and_true, Nat.reduceLeDiff, eq_self, forall_const, implies_true, not_true_eq_false, false_implies, v_0, v_87, ↓v_0, ↓v_87, ↓s1, ↓s2, ↓s3, ↓s4, ↓s5, ↓ctL9_x_image, ↓r_x_image, ↓B_x_image]
  repeat (refine And.intro (hr _) ?_)
  exact ⟨S, h1.1, h2, fun M2 r2 f2 => J M2 r2 f2⟩
theorem lc_restore {E : ZE} {X : ZK} {Rt : ZR} (hX : zCl E zlaw 13 false ctL9 Rt X) {i : Nat} {xs : Nat → Int} (s9 : Scr E i xs) (hr : ∀ j, rg (xs j)) {n : Int} (hn : n < 4000) {M : ZMm} (hM : Lin n M) (nx : ∀ M2 : ZMm, Lin (n + 1) M2 → LX X 1569 i [] M2) : LX X 1474 i [] M := by
  obtain ⟨s1, s2, s3, s4, s5⟩ := s9
  obtain ⟨h1, h2, h3⟩ := hM
  obtain ⟨S, hS⟩ : ∃ S, st M = S := ⟨_, rfl⟩
  rw [hS] at h1 h2
  have J : ∀ M2 : ZMm, Rc (R_restore S).2 M2 → (∀ x, 87 ≤ x → M2 x = M x) → LX X 1478 i [.inl (R_restore S).1] M2 := by
    intro M2 r2 f2
    have eS : st M2 = S := (st_eq f2).trans hS
    refine bs_L_law_1478 hX ?_
    simp only [bk_L_law_1478, k_L_law_1478, ↓e_rk1, ↓e_rk0, ↓e_sk0, ↓e_sks, ↓e_ldi0, ↓e_ldis, ↓e_ldl0, ↓e_ldls, ↓e_lda0, ↓e_ldas, ↓e_ok0, ↓e_okss, ↓e_ok1i, ↓e_ok1r, ↓e_ok1n, ↓e_sti, ↓e_sta, ↓e_1, ↓e_2, ↓e_l1, ↓e_l2, ↓e_li, ↓e_sw0, ↓e_sws, ↓e_ceq, ↓e_cne, ↓e_clt, ↓e_cge, ↓e_cgt, ↓e_cle, ↓e_nil, ↓e_cons, ↓e_iconst, ↓e_bipush, ↓e_sipush, ↓e_ldc, ↓e_ldcw, ↓e_ldc2, ↓e_lconst, ↓e_iloadn, ↓e_iload, ↓e_lloadn, ↓e_lload, ↓e_aloadn, ↓e_aload, ↓e_istoren, ↓e_istore, ↓e_astoren, ↓e_astore, ↓e_add, ↓e_iinc, ↓e_iadd, ↓e_isub, ↓e_imul, ↓e_iand, ↓e_ior, ↓e_ixor, ↓e_ishl, ↓e_iushr, ↓e_idiv, ↓e_irem, ↓e_ineg, ↓e_i2l, ↓e_i2b, ↓e_i2s, ↓e_l2i, ↓e_land, ↓e_lor, ↓e_lshl, ↓e_lshr, ↓e_lushr, ↓e_lcmp, ↓e_dupi, ↓e_dupr, ↓e_popi, ↓e_dup2, ↓e_goto, ↓e_if, ↓e_icmp, ↓e_tsw, ↓e_lsw, ↓e_getf, ↓e_putf, ↓e_gets, ↓e_iald, ↓e_cald, ↓e_iast, ↓e_aald, ↓e_aast, ↓e_len, ↓e_copy, ↓e_abs, ↓e_max, ↓e_min, ↓e_iret, ↓e_aret, ↓e_vret, ↓e_is0, ↓e_is1, ↓e_is2, ↓e_is3, ↓e_is4, ↓e_iv1, ↓e_iv2, ↓e_iv3, ↓e_iv4, ↓e_iv5, ↓e_iv6, ↓reduceIte, Nat.reduceAdd, Nat.reduceEqDiff, ↓zcl0, ↓zclv, List.map_nil, List.sum_nil, List.map_cons, List.sum_cons, zcat, true_and, and_true, Nat.reduceLeDiff, eq_self, forall_const, implies_true, not_true_eq_false, false_implies, v_0, v_87, ↓v_0, ↓v_87, ↓s1, ↓s2, ↓s3, ↓s4, ↓s5, ↓ctL9_restore, ↓r_restore, ↓B_restore, ↓pub, eS]
    repeat (refine And.intro (hr _) ?_)
    refine ⟨h1.1, by rw [f2 87 (by omega)]; exact h3, fun M3 e1 e2 e3 => ?_⟩
    exact nx M3 (L_fin (S := S) (R := R_restore S) (I_restore h1) r2 e1 e2 e3)
  refine bs_L_law_1474 hX ?_
  simp only [bk_L_law_1474, k_L_law_1474, ↓e_rk1, ↓e_rk0, ↓e_sk0, ↓e_sks, ↓e_ldi0, ↓e_ldis, ↓e_ldl0, ↓e_ldls, ↓e_lda0, ↓e_ldas, ↓e_ok0, ↓e_okss, ↓e_ok1i, ↓e_ok1r, ↓e_ok1n, ↓e_sti, ↓e_sta, ↓e_1, ↓e_2, ↓e_l1, ↓e_l2, ↓e_li, ↓e_sw0, ↓e_sws, ↓e_ceq, ↓e_cne, ↓e_clt, ↓e_cge, ↓e_cgt, ↓e_cle, ↓e_nil, ↓e_cons, ↓e_iconst, ↓e_bipush, ↓e_sipush, ↓e_ldc, ↓e_ldcw, ↓e_ldc2, ↓e_lconst, ↓e_iloadn, ↓e_iload, ↓e_lloadn, ↓e_lload, ↓e_aloadn, ↓e_aload, ↓e_istoren, ↓e_istore, ↓e_astoren, ↓e_astore, ↓e_add, ↓e_iinc, ↓e_iadd, ↓e_isub, ↓e_imul, ↓e_iand, ↓e_ior, ↓e_ixor, ↓e_ishl, ↓e_iushr, ↓e_idiv, ↓e_irem, ↓e_ineg, ↓e_i2l, ↓e_i2b, ↓e_i2s, ↓e_l2i, ↓e_land, ↓e_lor, ↓e_lshl, ↓e_lshr, ↓e_lushr, ↓e_lcmp, ↓e_dupi, ↓e_dupr, ↓e_popi, ↓e_dup2, ↓e_goto, ↓e_if, ↓e_icmp, ↓e_tsw, ↓e_lsw, ↓e_getf, ↓e_putf, ↓e_gets, ↓e_iald, ↓e_cald, ↓e_iast, ↓e_aald, ↓e_aast, ↓e_len, ↓e_copy, ↓e_abs, ↓e_max, ↓e_min, ↓e_iret, ↓e_aret, ↓e_vret, ↓e_is0, ↓e_is1, ↓e_is2, ↓e_is3, ↓e_is4, ↓e_iv1, ↓e_iv2, ↓e_iv3, ↓e_iv4, ↓e_iv5, ↓e_iv6, ↓reduceIte, Nat.reduceAdd, Nat.reduceEqDiff, ↓zcl0, ↓zclv, List.map_nil, List.sum_nil, List.map_cons, List.sum_cons, zcat, true_and, and_true, Nat.reduceLeDiff, eq_self, forall_const, implies_true, not_true_eq_false, false_implies, v_0, v_87, ↓v_0, ↓v_87, ↓s1, ↓s2, ↓s3, ↓s4, ↓s5, ↓ctL9_x_restore, ↓r_x_restore, ↓B_x_restore]
  repeat (refine And.intro (hr _) ?_)
  exact ⟨S, h1.1, h2, fun M2 r2 f2 => J M2 r2 f2⟩
theorem lc_tell {E : ZE} {X : ZK} {Rt : ZR} (hX : zCl E zlaw 13 false ctL9 Rt X) {i : Nat} {xs : Nat → Int} (s9 : Scr E i xs) (hr : ∀ j, rg (xs j)) {n : Int} (hn : n < 4000) {M : ZMm} (hM : Lin n M) (nx : ∀ M2 : ZMm, Lin (n + 1) M2 → LX X 1569 i [] M2) : LX X 1487 i [] M := by
  obtain ⟨s1, s2, s3, s4, s5⟩ := s9
  obtain ⟨h1, h2, h3⟩ := hM
  obtain ⟨S, hS⟩ : ∃ S, st M = S := ⟨_, rfl⟩
  rw [hS] at h1 h2
  have J : ∀ M2 : ZMm, Rc (R_tell S (xs (i + 1))).2 M2 → (∀ x, 87 ≤ x → M2 x = M x) → LX X 1496 i [.inl (R_tell S (xs (i + 1))).1] M2 := by
    intro M2 r2 f2
    have eS : st M2 = S := (st_eq f2).trans hS
    refine bs_L_law_1496 hX ?_
    simp only [bk_L_law_1496, k_L_law_1496, ↓e_rk1, ↓e_rk0, ↓e_sk0, ↓e_sks, ↓e_ldi0, ↓e_ldis, ↓e_ldl0, ↓e_ldls, ↓e_lda0, ↓e_ldas, ↓e_ok0, ↓e_okss, ↓e_ok1i, ↓e_ok1r, ↓e_ok1n, ↓e_sti, ↓e_sta, ↓e_1, ↓e_2, ↓e_l1, ↓e_l2, ↓e_li, ↓e_sw0, ↓e_sws, ↓e_ceq, ↓e_cne, ↓e_clt, ↓e_cge, ↓e_cgt, ↓e_cle, ↓e_nil, ↓e_cons, ↓e_iconst, ↓e_bipush, ↓e_sipush, ↓e_ldc, ↓e_ldcw, ↓e_ldc2, ↓e_lconst, ↓e_iloadn, ↓e_iload, ↓e_lloadn, ↓e_lload, ↓e_aloadn, ↓e_aload, ↓e_istoren, ↓e_istore, ↓e_astoren, ↓e_astore, ↓e_add, ↓e_iinc, ↓e_iadd, ↓e_isub, ↓e_imul, ↓e_iand, ↓e_ior, ↓e_ixor, ↓e_ishl, ↓e_iushr, ↓e_idiv, ↓e_irem, ↓e_ineg, ↓e_i2l, ↓e_i2b, ↓e_i2s, ↓e_l2i, ↓e_land, ↓e_lor, ↓e_lshl, ↓e_lshr, ↓e_lushr, ↓e_lcmp, ↓e_dupi, ↓e_dupr, ↓e_popi, ↓e_dup2, ↓e_goto, ↓e_if, ↓e_icmp, ↓e_tsw, ↓e_lsw, ↓e_getf, ↓e_putf, ↓e_gets, ↓e_iald, ↓e_cald, ↓e_iast, ↓e_aald, ↓e_aast, ↓e_len, ↓e_copy, ↓e_abs, ↓e_max, ↓e_min, ↓e_iret, ↓e_aret, ↓e_vret, ↓e_is0, ↓e_is1, ↓e_is2, ↓e_is3, ↓e_is4, ↓e_iv1, ↓e_iv2, ↓e_iv3, ↓e_iv4, ↓e_iv5, ↓e_iv6, ↓reduceIte, Nat.reduceAdd, Nat.reduceEqDiff, ↓zcl0, ↓zclv, List.map_nil, List.sum_nil, List.map_cons, List.sum_cons, zcat, true_and, and_true, Nat.reduceLeDiff, eq_self, forall_const, implies_true, not_true_eq_false, false_implies, v_0, v_87, ↓v_0, ↓v_87, ↓s1, ↓s2, ↓s3, ↓s4, ↓s5, ↓ctL9_tell, ↓r_tell, ↓B_tell, ↓pub, eS]
    repeat (refine And.intro (hr _) ?_)
    refine ⟨h1.1, by rw [f2 87 (by omega)]; exact h3, fun M3 e1 e2 e3 => ?_⟩
    exact nx M3 (L_fin (S := S) (R := R_tell S (xs (i + 1))) (I_tell h1 (hr _)) r2 e1 e2 e3)
  refine bs_L_law_1487 hX ?_
  simp only [bk_L_law_1487, k_L_law_1487, ↓e_rk1, ↓e_rk0, ↓e_sk0, ↓e_sks, ↓e_ldi0, ↓e_ldis, ↓e_ldl0, ↓e_ldls, ↓e_lda0, ↓e_ldas, ↓e_ok0, ↓e_okss, ↓e_ok1i, ↓e_ok1r, ↓e_ok1n, ↓e_sti, ↓e_sta, ↓e_1, ↓e_2, ↓e_l1, ↓e_l2, ↓e_li, ↓e_sw0, ↓e_sws, ↓e_ceq, ↓e_cne, ↓e_clt, ↓e_cge, ↓e_cgt, ↓e_cle, ↓e_nil, ↓e_cons, ↓e_iconst, ↓e_bipush, ↓e_sipush, ↓e_ldc, ↓e_ldcw, ↓e_ldc2, ↓e_lconst, ↓e_iloadn, ↓e_iload, ↓e_lloadn, ↓e_lload, ↓e_aloadn, ↓e_aload, ↓e_istoren, ↓e_istore, ↓e_astoren, ↓e_astore, ↓e_add, ↓e_iinc, ↓e_iadd, ↓e_isub, ↓e_imul, ↓e_iand, ↓e_ior, ↓e_ixor, ↓e_ishl, ↓e_iushr, ↓e_idiv, ↓e_irem, ↓e_ineg, ↓e_i2l, ↓e_i2b, ↓e_i2s, ↓e_l2i, ↓e_land, ↓e_lor, ↓e_lshl, ↓e_lshr, ↓e_lushr, ↓e_lcmp, ↓e_dupi, ↓e_dupr, ↓e_popi, ↓e_dup2, ↓e_goto, ↓e_if, ↓e_icmp, ↓e_tsw, ↓e_lsw, ↓e_getf, ↓e_putf, ↓e_gets, ↓e_iald, ↓e_cald, ↓e_iast, ↓e_aald, ↓e_aast, ↓e_len, ↓e_copy, ↓e_abs, ↓e_max, ↓e_min, ↓e_iret, ↓e_aret, ↓e_vret, ↓e_is0, ↓e_is1, ↓e_is2, ↓e_is3, ↓e_is4, ↓e_iv1, ↓e_iv2, ↓e_iv3, ↓e_iv4, ↓e_iv5, ↓e_iv6, ↓reduceIte, Nat.reduceAdd, Nat.reduceEqDiff, ↓zcl0, ↓zclv, List.map_nil, List.sum_nil, List.map_cons, List.sum_cons, zcat, true_and, and_true, Nat.reduceLeDiff, eq_self, forall_const, implies_true, not_true_eq_false, false_implies, v_0, v_87, ↓v_0, ↓v_87, ↓s1, ↓s2, ↓s3, ↓s4, ↓s5, ↓ctL9_x_tell, ↓r_x_tell, ↓B_x_tell]
  repeat (refine And.intro (hr _) ?_)
  exact ⟨S, h1.1, h2, fun M2 r2 f2 => J M2 r2 f2⟩
theorem lc_check {E : ZE} {X : ZK} {Rt : ZR} (hX : zCl E zlaw 13 false ctL9 Rt X) {i : Nat} {xs : Nat → Int} (s9 : Scr E i xs) (hr : ∀ j, rg (xs j)) {n : Int} (hn : n < 4000) {M : ZMm} (hM : Lin n M) (nx : ∀ M2 : ZMm, Lin (n + 1) M2 → LX X 1569 i [] M2) : LX X 1510 i [] M := by
  obtain ⟨s1, s2, s3, s4, s5⟩ := s9
  obtain ⟨h1, h2, h3⟩ := hM
  obtain ⟨S, hS⟩ : ∃ S, st M = S := ⟨_, rfl⟩
  rw [hS] at h1 h2
  have J : ∀ M2 : ZMm, Rc (R_check S).2 M2 → (∀ x, 87 ≤ x → M2 x = M x) → LX X 1514 i [.inl (R_check S).1] M2 := by
    intro M2 r2 f2
    have eS : st M2 = S := (st_eq f2).trans hS
    refine bs_L_law_1514 hX ?_
    simp only [bk_L_law_1514, k_L_law_1514, ↓e_rk1, ↓e_rk0, ↓e_sk0, ↓e_sks, ↓e_ldi0, ↓e_ldis, ↓e_ldl0, ↓e_ldls, ↓e_lda0, ↓e_ldas, ↓e_ok0, ↓e_okss, ↓e_ok1i, ↓e_ok1r, ↓e_ok1n, ↓e_sti, ↓e_sta, ↓e_1, ↓e_2, ↓e_l1, ↓e_l2, ↓e_li, ↓e_sw0, ↓e_sws, ↓e_ceq, ↓e_cne, ↓e_clt, ↓e_cge, ↓e_cgt, ↓e_cle, ↓e_nil, ↓e_cons, ↓e_iconst, ↓e_bipush, ↓e_sipush, ↓e_ldc, ↓e_ldcw, ↓e_ldc2, ↓e_lconst, ↓e_iloadn, ↓e_iload, ↓e_lloadn, ↓e_lload, ↓e_aloadn, ↓e_aload, ↓e_istoren, ↓e_istore, ↓e_astoren, ↓e_astore, ↓e_add, ↓e_iinc, ↓e_iadd, ↓e_isub, ↓e_imul, ↓e_iand, ↓e_ior, ↓e_ixor, ↓e_ishl, ↓e_iushr, ↓e_idiv, ↓e_irem, ↓e_ineg, ↓e_i2l, ↓e_i2b, ↓e_i2s, ↓e_l2i, ↓e_land, ↓e_lor, ↓e_lshl, ↓e_lshr, ↓e_lushr, ↓e_lcmp, ↓e_dupi, ↓e_dupr, ↓e_popi, ↓e_dup2, ↓e_goto, ↓e_if, ↓e_icmp, ↓e_tsw, ↓e_lsw, ↓e_getf, ↓e_putf, ↓e_gets, ↓e_iald, ↓e_cald, ↓e_iast, ↓e_aald, ↓e_aast, ↓e_len, ↓e_copy, ↓e_abs, ↓e_max, ↓e_min, ↓e_iret, ↓e_aret, ↓e_vret, ↓e_is0, ↓e_is1, ↓e_is2, ↓e_is3, ↓e_is4, ↓e_iv1, ↓e_iv2, ↓e_iv3, ↓e_iv4, ↓e_iv5, ↓e_iv6, ↓reduceIte, Nat.reduceAdd, Nat.reduceEqDiff, ↓zcl0, ↓zclv, List.map_nil, List.sum_nil, List.map_cons, List.sum_cons, zcat, true_and, and_true, Nat.reduceLeDiff, eq_self, forall_const, implies_true, not_true_eq_false, false_implies, v_0, v_87, ↓v_0, ↓v_87, ↓s1, ↓s2, ↓s3, ↓s4, ↓s5, ↓ctL9_check, ↓r_check, ↓B_check, ↓pub, eS]
    repeat (refine And.intro (hr _) ?_)
    refine ⟨h1.1, by rw [f2 87 (by omega)]; exact h3, fun M3 e1 e2 e3 => ?_⟩
    exact nx M3 (L_fin (S := S) (R := R_check S) (I_check h1) r2 e1 e2 e3)
  refine bs_L_law_1510 hX ?_
  simp only [bk_L_law_1510, k_L_law_1510, ↓e_rk1, ↓e_rk0, ↓e_sk0, ↓e_sks, ↓e_ldi0, ↓e_ldis, ↓e_ldl0, ↓e_ldls, ↓e_lda0, ↓e_ldas, ↓e_ok0, ↓e_okss, ↓e_ok1i, ↓e_ok1r, ↓e_ok1n, ↓e_sti, ↓e_sta, ↓e_1, ↓e_2, ↓e_l1, ↓e_l2, ↓e_li, ↓e_sw0, ↓e_sws, ↓e_ceq, ↓e_cne, ↓e_clt, ↓e_cge, ↓e_cgt, ↓e_cle, ↓e_nil, ↓e_cons, ↓e_iconst, ↓e_bipush, ↓e_sipush, ↓e_ldc, ↓e_ldcw, ↓e_ldc2, ↓e_lconst, ↓e_iloadn, ↓e_iload, ↓e_lloadn, ↓e_lload, ↓e_aloadn, ↓e_aload, ↓e_istoren, ↓e_istore, ↓e_astoren, ↓e_astore, ↓e_add, ↓e_iinc, ↓e_iadd, ↓e_isub, ↓e_imul, ↓e_iand, ↓e_ior, ↓e_ixor, ↓e_ishl, ↓e_iushr, ↓e_idiv, ↓e_irem, ↓e_ineg, ↓e_i2l, ↓e_i2b, ↓e_i2s, ↓e_l2i, ↓e_land, ↓e_lor, ↓e_lshl, ↓e_lshr, ↓e_lushr, ↓e_lcmp, ↓e_dupi, ↓e_dupr, ↓e_popi, ↓e_dup2, ↓e_goto, ↓e_if, ↓e_icmp, ↓e_tsw, ↓e_lsw, ↓e_getf, ↓e_putf, ↓e_gets, ↓e_iald, ↓e_cald, ↓e_iast, ↓e_aald, ↓e_aast, ↓e_len, ↓e_copy, ↓e_abs, ↓e_max, ↓e_min, ↓e_iret, ↓e_aret, ↓e_vret, ↓e_is0, ↓e_is1, ↓e_is2, ↓e_is3, ↓e_is4, ↓e_iv1, ↓e_iv2, ↓e_iv3, ↓e_iv4, ↓e_iv5, ↓e_iv6, ↓reduceIte, Nat.reduceAdd, Nat.reduceEqDiff, ↓zcl0, ↓zclv, List.map_nil, List.sum_nil, List.map_cons, List.sum_cons, zcat, true_and, and_true, Nat.reduceLeDiff, eq_self, forall_const, implies_true, not_true_eq_false, false_implies, v_0, v_87, ↓v_0, ↓v_87, ↓s1, ↓s2, ↓s3, ↓s4, ↓s5, ↓ctL9_x_check, ↓r_x_check, ↓B_x_check]
  repeat (refine And.intro (hr _) ?_)
  exact ⟨S, h1.1, h2, fun M2 r2 f2 => J M2 r2 f2⟩
theorem lc_count {E : ZE} {X : ZK} {Rt : ZR} (hX : zCl E zlaw 13 false ctL9 Rt X) {i : Nat} {xs : Nat → Int} (s9 : Scr E i xs) (hr : ∀ j, rg (xs j)) {n : Int} (hn : n < 4000) {M : ZMm} (hM : Lin n M) (nx : ∀ M2 : ZMm, Lin (n + 1) M2 → LX X 1569 i [] M2) : LX X 1523 i [] M := by
  obtain ⟨s1, s2, s3, s4, s5⟩ := s9
  obtain ⟨h1, h2, h3⟩ := hM
  obtain ⟨S, hS⟩ : ∃ S, st M = S := ⟨_, rfl⟩
  rw [hS] at h1 h2
  have J : ∀ M2 : ZMm, Rc (R_count S (xs (i + 1))).2 M2 → (∀ x, 87 ≤ x → M2 x = M x) → LX X 1532 i [.inl (R_count S (xs (i + 1))).1] M2 := by
    intro M2 r2 f2
    have eS : st M2 = S := (st_eq f2).trans hS
    refine bs_L_law_1532 hX ?_
    simp only [bk_L_law_1532, k_L_law_1532, ↓e_rk1, ↓e_rk0, ↓e_sk0, ↓e_sks, ↓e_ldi0, ↓e_ldis, ↓e_ldl0, ↓e_ldls, ↓e_lda0, ↓e_ldas, ↓e_ok0, ↓e_okss, ↓e_ok1i, ↓e_ok1r, ↓e_ok1n, ↓e_sti, ↓e_sta, ↓e_1, ↓e_2, ↓e_l1, ↓e_l2, ↓e_li, ↓e_sw0, ↓e_sws, ↓e_ceq, ↓e_cne, ↓e_clt, ↓e_cge, ↓e_cgt, ↓e_cle, ↓e_nil, ↓e_cons, ↓e_iconst, ↓e_bipush, ↓e_sipush, ↓e_ldc, ↓e_ldcw, ↓e_ldc2, ↓e_lconst, ↓e_iloadn, ↓e_iload, ↓e_lloadn, ↓e_lload, ↓e_aloadn, ↓e_aload, ↓e_istoren, ↓e_istore, ↓e_astoren, ↓e_astore, ↓e_add, ↓e_iinc, ↓e_iadd, ↓e_isub, ↓e_imul, ↓e_iand, ↓e_ior, ↓e_ixor, ↓e_ishl, ↓e_iushr, ↓e_idiv, ↓e_irem, ↓e_ineg, ↓e_i2l, ↓e_i2b, ↓e_i2s, ↓e_l2i, ↓e_land, ↓e_lor, ↓e_lshl, ↓e_lshr, ↓e_lushr, ↓e_lcmp, ↓e_dupi, ↓e_dupr, ↓e_popi, ↓e_dup2, ↓e_goto, ↓e_if, ↓e_icmp, ↓e_tsw, ↓e_lsw, ↓e_getf, ↓e_putf, ↓e_gets, ↓e_iald, ↓e_cald, ↓e_iast, ↓e_aald, ↓e_aast, ↓e_len, ↓e_copy, ↓e_abs, ↓e_max, ↓e_min, ↓e_iret, ↓e_aret, ↓e_vret, ↓e_is0, ↓e_is1, ↓e_is2, ↓e_is3, ↓e_is4, ↓e_iv1, ↓e_iv2, ↓e_iv3, ↓e_iv4, ↓e_iv5, ↓e_iv6, ↓reduceIte, Nat.reduceAdd, Nat.reduceEqDiff, ↓zcl0, ↓zclv, List.map_nil, List.sum_nil, List.map_cons, List.sum_cons, zcat, true_and, and_true, Nat.reduceLeDiff, eq_self, forall_const, implies_true, not_true_eq_false, false_implies, v_0, v_87, ↓v_0, ↓v_87, ↓s1, ↓s2, ↓s3, ↓s4, ↓s5, ↓ctL9_count, ↓r_count, ↓B_count, ↓pub, eS]
    repeat (refine And.intro (hr _) ?_)
    refine ⟨h1.1, by rw [f2 87 (by omega)]; exact h3, fun M3 e1 e2 e3 => ?_⟩
    exact nx M3 (L_fin (S := S) (R := R_count S (xs (i + 1))) (I_count h1) r2 e1 e2 e3)
  refine bs_L_law_1523 hX ?_
  simp only [bk_L_law_1523, k_L_law_1523, ↓e_rk1, ↓e_rk0, ↓e_sk0, ↓e_sks, ↓e_ldi0, ↓e_ldis, ↓e_ldl0, ↓e_ldls, ↓e_lda0, ↓e_ldas, ↓e_ok0, ↓e_okss, ↓e_ok1i, ↓e_ok1r, ↓e_ok1n, ↓e_sti, ↓e_sta, ↓e_1, ↓e_2, ↓e_l1, ↓e_l2, ↓e_li, ↓e_sw0, ↓e_sws, ↓e_ceq, ↓e_cne, ↓e_clt, ↓e_cge, ↓e_cgt, ↓e_cle, ↓e_nil, ↓e_cons, ↓e_iconst, ↓e_bipush, ↓e_sipush, ↓e_ldc, ↓e_ldcw, ↓e_ldc2, ↓e_lconst, ↓e_iloadn, ↓e_iload, ↓e_lloadn, ↓e_lload, ↓e_aloadn, ↓e_aload, ↓e_istoren, ↓e_istore, ↓e_astoren, ↓e_astore, ↓e_add, ↓e_iinc, ↓e_iadd, ↓e_isub, ↓e_imul, ↓e_iand, ↓e_ior, ↓e_ixor, ↓e_ishl, ↓e_iushr, ↓e_idiv, ↓e_irem, ↓e_ineg, ↓e_i2l, ↓e_i2b, ↓e_i2s, ↓e_l2i, ↓e_land, ↓e_lor, ↓e_lshl, ↓e_lshr, ↓e_lushr, ↓e_lcmp, ↓e_dupi, ↓e_dupr, ↓e_popi, ↓e_dup2, ↓e_goto, ↓e_if, ↓e_icmp, ↓e_tsw, ↓e_lsw, ↓e_getf, ↓e_putf, ↓e_gets, ↓e_iald, ↓e_cald, ↓e_iast, ↓e_aald, ↓e_aast, ↓e_len, ↓e_copy, ↓e_abs, ↓e_max, ↓e_min, ↓e_iret, ↓e_aret, ↓e_vret, ↓e_is0, ↓e_is1, ↓e_is2, ↓e_is3, ↓e_is4, ↓e_iv1, ↓e_iv2, ↓e_iv3, ↓e_iv4, ↓e_iv5, ↓e_iv6, ↓reduceIte, Nat.reduceAdd, Nat.reduceEqDiff, ↓zcl0, ↓zclv, List.map_nil, List.sum_nil, List.map_cons, List.sum_cons, zcat, true_and, and_true, Nat.reduceLeDiff, eq_self, forall_const, implies_true, not_true_eq_false, false_implies, v_0, v_87, ↓v_0, ↓v_87, ↓s1, ↓s2, ↓s3, ↓s4, ↓s5, ↓ctL9_x_count, ↓r_x_count, ↓B_x_count]
  repeat (refine And.intro (hr _) ?_)
  exact ⟨S, h1.1, h2, fun M2 r2 f2 => J M2 r2 f2⟩
theorem lc_told {E : ZE} {X : ZK} {Rt : ZR} (hX : zCl E zlaw 13 false ctL9 Rt X) {i : Nat} {xs : Nat → Int} (s9 : Scr E i xs) (hr : ∀ j, rg (xs j)) {n : Int} (hn : n < 4000) {M : ZMm} (hM : Lin n M) (nx : ∀ M2 : ZMm, Lin (n + 1) M2 → LX X 1569 i [] M2) : LX X 1546 i [] M := by
  obtain ⟨s1, s2, s3, s4, s5⟩ := s9
  obtain ⟨h1, h2, h3⟩ := hM
  obtain ⟨S, hS⟩ : ∃ S, st M = S := ⟨_, rfl⟩
  rw [hS] at h1 h2
  have J : ∀ M2 : ZMm, Rc (R_told S (xs (i + 1))).2 M2 → (∀ x, 87 ≤ x → M2 x = M x) → LX X 1555 i [.inl (R_told S (xs (i + 1))).1] M2 := by
    intro M2 r2 f2
    have eS : st M2 = S := (st_eq f2).trans hS
    refine bs_L_law_1555 hX ?_
    simp only [bk_L_law_1555, k_L_law_1555, ↓e_rk1, ↓e_rk0, ↓e_sk0, ↓e_sks, ↓e_ldi0, ↓e_ldis, ↓e_ldl0, ↓e_ldls, ↓e_lda0, ↓e_ldas, ↓e_ok0, ↓e_okss, ↓e_ok1i, ↓e_ok1r, ↓e_ok1n, ↓e_sti, ↓e_sta, ↓e_1, ↓e_2, ↓e_l1, ↓e_l2, ↓e_li, ↓e_sw0, ↓e_sws, ↓e_ceq, ↓e_cne, ↓e_clt, ↓e_cge, ↓e_cgt, ↓e_cle, ↓e_nil, ↓e_cons, ↓e_iconst, ↓e_bipush, ↓e_sipush, ↓e_ldc, ↓e_ldcw, ↓e_ldc2, ↓e_lconst, ↓e_iloadn, ↓e_iload, ↓e_lloadn, ↓e_lload, ↓e_aloadn, ↓e_aload, ↓e_istoren, ↓e_istore, ↓e_astoren, ↓e_astore, ↓e_add, ↓e_iinc, ↓e_iadd, ↓e_isub, ↓e_imul, ↓e_iand, ↓e_ior, ↓e_ixor, ↓e_ishl, ↓e_iushr, ↓e_idiv, ↓e_irem, ↓e_ineg, ↓e_i2l, ↓e_i2b, ↓e_i2s, ↓e_l2i, ↓e_land, ↓e_lor, ↓e_lshl, ↓e_lshr, ↓e_lushr, ↓e_lcmp, ↓e_dupi, ↓e_dupr, ↓e_popi, ↓e_dup2, ↓e_goto, ↓e_if, ↓e_icmp, ↓e_tsw, ↓e_lsw, ↓e_getf, ↓e_putf, ↓e_gets, ↓e_iald, ↓e_cald, ↓e_iast, ↓e_aald, ↓e_aast, ↓e_len, ↓e_copy, ↓e_abs, ↓e_max, ↓e_min, ↓e_iret, ↓e_aret, ↓e_vret, ↓e_is0, ↓e_is1, ↓e_is2, ↓e_is3, ↓e_is4, ↓e_iv1, ↓e_iv2, ↓e_iv3, ↓e_iv4, ↓e_iv5, ↓e_iv6, ↓reduceIte, Nat.reduceAdd, Nat.reduceEqDiff, ↓zcl0, ↓zclv, List.map_nil, List.sum_nil, List.map_cons, List.sum_cons, zcat, true_and, and_true, Nat.reduceLeDiff, eq_self, forall_const, implies_true, not_true_eq_false, false_implies, v_0, v_87, ↓v_0, ↓v_87, ↓s1, ↓s2, ↓s3, ↓s4, ↓s5, ↓ctL9_told, ↓r_told, ↓B_told, ↓pub, eS]
    repeat (refine And.intro (hr _) ?_)
    refine ⟨h1.1, by rw [f2 87 (by omega)]; exact h3, fun M3 e1 e2 e3 => ?_⟩
    exact nx M3 (L_fin (S := S) (R := R_told S (xs (i + 1))) (I_told h1) r2 e1 e2 e3)
  refine bs_L_law_1546 hX ?_
  simp only [bk_L_law_1546, k_L_law_1546, ↓e_rk1, ↓e_rk0, ↓e_sk0, ↓e_sks, ↓e_ldi0, ↓e_ldis, ↓e_ldl0, ↓e_ldls, ↓e_lda0, ↓e_ldas, ↓e_ok0, ↓e_okss, ↓e_ok1i, ↓e_ok1r, ↓e_ok1n, ↓e_sti, ↓e_sta, ↓e_1, ↓e_2, ↓e_l1, ↓e_l2, ↓e_li, ↓e_sw0, ↓e_sws, ↓e_ceq, ↓e_cne, ↓e_clt, ↓e_cge, ↓e_cgt, ↓e_cle, ↓e_nil, ↓e_cons, ↓e_iconst, ↓e_bipush, ↓e_sipush, ↓e_ldc, ↓e_ldcw, ↓e_ldc2, ↓e_lconst, ↓e_iloadn, ↓e_iload, ↓e_lloadn, ↓e_lload, ↓e_aloadn, ↓e_aload, ↓e_istoren, ↓e_istore, ↓e_astoren, ↓e_astore, ↓e_add, ↓e_iinc, ↓e_iadd, ↓e_isub, ↓e_imul, ↓e_iand, ↓e_ior, ↓e_ixor, ↓e_ishl, ↓e_iushr, ↓e_idiv, ↓e_irem, ↓e_ineg, ↓e_i2l, ↓e_i2b, ↓e_i2s, ↓e_l2i, ↓e_land, ↓e_lor, ↓e_lshl, ↓e_lshr, ↓e_lushr, ↓e_lcmp, ↓e_dupi, ↓e_dupr, ↓e_popi, ↓e_dup2, ↓e_goto, ↓e_if, ↓e_icmp, ↓e_tsw, ↓e_lsw, ↓e_getf, ↓e_putf, ↓e_gets, ↓e_iald, ↓e_cald, ↓e_iast, ↓e_aald, ↓e_aast, ↓e_len, ↓e_copy, ↓e_abs, ↓e_max, ↓e_min, ↓e_iret, ↓e_aret, ↓e_vret, ↓e_is0, ↓e_is1, ↓e_is2, ↓e_is3, ↓e_is4, ↓e_iv1, ↓e_iv2, ↓e_iv3, ↓e_iv4, ↓e_iv5, ↓e_iv6, ↓reduceIte, Nat.reduceAdd, Nat.reduceEqDiff, ↓zcl0, ↓zclv, List.map_nil, List.sum_nil, List.map_cons, List.sum_cons, zcat, true_and, and_true, Nat.reduceLeDiff, eq_self, forall_const, implies_true, not_true_eq_false, false_implies, v_0, v_87, ↓v_0, ↓v_87, ↓s1, ↓s2, ↓s3, ↓s4, ↓s5, ↓ctL9_x_told, ↓r_x_told, ↓B_x_told]
  repeat (refine And.intro (hr _) ?_)
  exact ⟨S, h1.1, h2, fun M2 r2 f2 => J M2 r2 f2⟩
