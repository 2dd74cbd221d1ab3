/-! the law's words stand in the tables -/
theorem wr_1 : ∀ w ∈ wsL_law0_r1, w ∈ lw_tbl := fun w h => (goodIn_p wsL_law0_r1 [81, 84] (by decide +kernel) (by decide +kernel) w h).1
theorem wr_2 : ∀ w ∈ wsL_law0_r2, w ∈ lw_tbl := fun w h => (goodIn_p wsL_law0_r2 [89, 95] (by decide +kernel) (by decide +kernel) w h).1
theorem wr_3 : ∀ w ∈ wsL_law0_r3, w ∈ lw_tbl := fun w h => (goodIn_p wsL_law0_r3 [109, 130, 136, 140, 144] (by decide +kernel) (by decide +kernel) w h).1
theorem wr_4 : ∀ w ∈ wsL_law0_r4, w ∈ lw_tbl := fun w h => (goodIn_p wsL_law0_r4 [148, 152, 158, 162, 165] (by decide +kernel) (by decide +kernel) w h).1
theorem wr_5 : ∀ w ∈ wsL_law0_r5, w ∈ lw_tbl := fun w h => (goodIn_p wsL_law0_r5 [171, 174, 168, 177, 180, 186] (by decide +kernel) (by decide +kernel) w h).1
theorem wr_6 : ∀ w ∈ wsL_law0_r6, w ∈ lw_tbl := fun w h => (goodIn_p wsL_law0_r6 [189, 192, 195, 200, 203, 206, 215] (by decide +kernel) (by decide +kernel) w h).1
theorem wr_7 : ∀ w ∈ wsL_law0_r7, w ∈ lw_tbl := fun w h => (goodIn_p wsL_law0_r7 [218, 221, 225, 230, 248] (by decide +kernel) (by decide +kernel) w h).1
theorem wr_8 : ∀ w ∈ wsL_law0_r8, w ∈ lw_tbl := fun w h => (goodIn_p wsL_law0_r8 [254, 257, 260, 299] (by decide +kernel) (by decide +kernel) w h).1
theorem wr_9 : ∀ w ∈ wsL_law0_r9, w ∈ lw_tbl := fun w h => (goodIn_p wsL_law0_r9 [1083, 1087] (by decide +kernel) (by decide +kernel) w h).1
theorem wr_10 : ∀ w ∈ wsL_law0_r10, w ∈ lw_tbl := fun w h => (goodIn_p wsL_law0_r10 [440, 443, 446, 365] (by decide +kernel) (by decide +kernel) w h).1
theorem wr_11 : ∀ w ∈ wsL_law0_r11, w ∈ lw_tbl := fun w h => (goodIn_p wsL_law0_r11 [381, 521, 525, 528, 350, 358] (by decide +kernel) (by decide +kernel) w h).1
theorem wr_12 : ∀ w ∈ wsL_law0_r12, w ∈ lw_tbl := fun w h => (goodIn_p wsL_law0_r12 [346, 548, 553, 404, 1154, 1157] (by decide +kernel) (by decide +kernel) w h).1
theorem wr_13 : ∀ w ∈ wsL_law0_r13, w ∈ lw_tbl := fun w h => (goodIn_p wsL_law0_r13 [1160, 1164, 1168, 1172, 1176, 1150] (by decide +kernel) (by decide +kernel) w h).1
theorem wr_14 : ∀ w ∈ wsL_law0_r14, w ∈ lw_tbl := fun w h => (goodIn_p wsL_law0_r14 [562, 582, 586, 1180, 342] (by decide +kernel) (by decide +kernel) w h).1
theorem wr_15 : ∀ w ∈ wsL_law0_r15, w ∈ lw_tbl := fun w h => (goodIn_p wsL_law0_r15 [1184, 594, 597, 1188] (by decide +kernel) (by decide +kernel) w h).1
theorem wr_16 : ∀ w ∈ wsL_law0_r16, w ∈ lw_tbl := fun w h => (goodIn_p wsL_law0_r16 [1192, 1196, 1200, 1203, 1206, 620] (by decide +kernel) (by decide +kernel) w h).1
theorem wr_17 : ∀ w ∈ wsL_law0_r17, w ∈ lw_tbl := fun w h => (goodIn_p wsL_law0_r17 [1210, 627, 362, 369, 373] (by decide +kernel) (by decide +kernel) w h).1
theorem wr_18 : ∀ w ∈ wsL_law0_r18, w ∈ lw_tbl := fun w h => (goodIn_p wsL_law0_r18 [377, 385, 391, 395, 400] (by decide +kernel) (by decide +kernel) w h).1
theorem wr_19 : ∀ w ∈ wsL_law0_r19, w ∈ lw_tbl := fun w h => (goodIn_p wsL_law0_r19 [1214, 1218, 1222, 1226, 634] (by decide +kernel) (by decide +kernel) w h).1
theorem wr_20 : ∀ w ∈ wsL_law0_r20, w ∈ lw_tbl := fun w h => (goodIn_p wsL_law0_r20 [1230, 1234, 354, 1238, 641] (by decide +kernel) (by decide +kernel) w h).1
theorem wr_21 : ∀ w ∈ wsL_law0_r21, w ∈ lw_tbl := fun w h => (goodIn_p wsL_law0_r21 [645, 1243, 652, 1247] (by decide +kernel) (by decide +kernel) w h).1
theorem wr_22 : ∀ w ∈ wsL_law0_r22, w ∈ lw_tbl := fun w h => (goodIn_p wsL_law0_r22 [659, 662, 669, 673, 677] (by decide +kernel) (by decide +kernel) w h).1
theorem wr_23 : ∀ w ∈ wsL_law0_r23, w ∈ lw_tbl := fun w h => (goodIn_p wsL_law0_r23 [682, 413, 1251, 1255, 689, 692] (by decide +kernel) (by decide +kernel) w h).1
theorem wr_24 : ∀ w ∈ wsL_law0_r24, w ∈ lw_tbl := fun w h => (goodIn_p wsL_law0_r24 [1259, 1263, 409, 1267, 700] (by decide +kernel) (by decide +kernel) w h).1
theorem wr_25 : ∀ w ∈ wsL_law0_r25, w ∈ lw_tbl := fun w h => (goodIn_p wsL_law0_r25 [704, 708, 1271, 715, 1275] (by decide +kernel) (by decide +kernel) w h).1
theorem wr_26 : ∀ w ∈ wsL_law0_r26, w ∈ lw_tbl := fun w h => (goodIn_p wsL_law0_r26 [723, 727, 1279, 1283] (by decide +kernel) (by decide +kernel) w h).1
theorem wr_27 : ∀ w ∈ wsL_law0_r27, w ∈ lw_tbl := fun w h => (goodIn_p wsL_law0_r27 [735, 739, 1287, 1290, 748] (by decide +kernel) (by decide +kernel) w h).1
theorem wr_28 : ∀ w ∈ wsL_law0_r28, w ∈ lw_tbl := fun w h => (goodIn_p wsL_law0_r28 [754, 759, 1294, 1298, 1302] (by decide +kernel) (by decide +kernel) w h).1
theorem wr_29 : ∀ w ∈ wsL_law0_r29, w ∈ lw_tbl := fun w h => (goodIn_p wsL_law0_r29 [767, 771, 774, 1306, 781] (by decide +kernel) (by decide +kernel) w h).1
theorem wr_30 : ∀ w ∈ wsL_law0_r30, w ∈ lw_tbl := fun w h => (goodIn_p wsL_law0_r30 [784, 789, 1310, 1314, 1319] (by decide +kernel) (by decide +kernel) w h).1
theorem wr_31 : ∀ w ∈ wsL_law0_r31, w ∈ lw_tbl := fun w h => (goodIn_p wsL_law0_r31 [796, 801, 805, 427, 812, 817] (by decide +kernel) (by decide +kernel) w h).1
theorem wr_32 : ∀ w ∈ wsL_law0_r32, w ∈ lw_tbl := fun w h => (goodIn_p wsL_law0_r32 [822, 846, 850, 854] (by decide +kernel) (by decide +kernel) w h).1
theorem wr_33 : ∀ w ∈ wsL_law0_r33, w ∈ lw_tbl := fun w h => (goodIn_p wsL_law0_r33 [858, 861, 866, 869] (by decide +kernel) (by decide +kernel) w h).1
theorem wr_34 : ∀ w ∈ wsL_law0_r34, w ∈ lw_tbl := fun w h => (goodIn_p wsL_law0_r34 [890, 1323, 1327, 1331] (by decide +kernel) (by decide +kernel) w h).1
theorem wr_35 : ∀ w ∈ wsL_law0_r35, w ∈ lw_tbl := fun w h => (goodIn_p wsL_law0_r35 [907, 911, 1335, 920] (by decide +kernel) (by decide +kernel) w h).1
theorem wr_36 : ∀ w ∈ wsL_law0_r36, w ∈ lw_tbl := fun w h => (goodIn_p wsL_law0_r36 [924, 1339, 1343, 1347, 1351] (by decide +kernel) (by decide +kernel) w h).1
theorem wr_37 : ∀ w ∈ wsL_law0_r37, w ∈ lw_tbl := fun w h => (goodIn_p wsL_law0_r37 [932, 1355, 939, 943, 947] (by decide +kernel) (by decide +kernel) w h).1
theorem wr_38 : ∀ w ∈ wsL_law0_r38, w ∈ lw_tbl := fun w h => (goodIn_p wsL_law0_r38 [953, 961, 965] (by decide +kernel) (by decide +kernel) w h).1
theorem wr_39 : ∀ w ∈ wsL_law0_r39, w ∈ lw_tbl := fun w h => (goodIn_p wsL_law0_r39 [971, 976, 1359, 1363, 1367, 1371] (by decide +kernel) (by decide +kernel) w h).1
theorem wr_40 : ∀ w ∈ wsL_law0_r40, w ∈ lw_tbl := fun w h => (goodIn_p wsL_law0_r40 [1375, 1379, 1383, 1387, 983] (by decide +kernel) (by decide +kernel) w h).1
theorem wr_41 : ∀ w ∈ wsL_law0_r41, w ∈ lw_tbl := fun w h => (goodIn_p wsL_law0_r41 [1391, 990, 994, 1395, 1001] (by decide +kernel) (by decide +kernel) w h).1
theorem wr_42 : ∀ w ∈ wsL_law0_r42, w ∈ lw_tbl := fun w h => (goodIn_p wsL_law0_r42 [1399, 1403, 417, 1407] (by decide +kernel) (by decide +kernel) w h).1
theorem wr_43 : ∀ w ∈ wsL_law0_r43, w ∈ lw_tbl := fun w h => (goodIn_p wsL_law0_r43 [1008, 1012, 1022, 1025, 1028, 1032] (by decide +kernel) (by decide +kernel) w h).1
theorem wr_44 : ∀ w ∈ wsL_law0_r44, w ∈ lw_tbl := fun w h => (goodIn_p wsL_law0_r44 [1411, 1415, 1040, 1419] (by decide +kernel) (by decide +kernel) w h).1
theorem wr_45 : ∀ w ∈ wsL_law0_r45, w ∈ lw_tbl := fun w h => (goodIn_p wsL_law0_r45 [1047, 1423, 1054, 1059, 1063] (by decide +kernel) (by decide +kernel) w h).1
theorem wr_46 : ∀ w ∈ wsL_law0_r46, w ∈ lw_tbl := fun w h => (goodIn_p wsL_law0_r46 [1427, 431, 1431, 1071, 1435] (by decide +kernel) (by decide +kernel) w h).1
theorem wr_47 : ∀ w ∈ wsL_law0_r47, w ∈ lw_tbl := fun w h => (goodIn_p wsL_law0_r47 [1078, 1439] (by decide +kernel) (by decide +kernel) w h).1
theorem wx_X8 : ∀ w ∈ wsX80, w ∈ lw_tbl := by decide +kernel
theorem wx_X9 : ∀ w ∈ wsX90, w ∈ lw_tbl := by decide +kernel
theorem wx_X1 : ∀ w ∈ wsX10, w ∈ lw_tbl := by decide +kernel
theorem wx_X5 : ∀ w ∈ wsX50, w ∈ lw_tbl := by decide +kernel
theorem wx_X0 : ∀ w ∈ wsX00, w ∈ lw_tbl := by decide +kernel
theorem wx_X3 : ∀ w ∈ wsX30, w ∈ lw_tbl := by decide +kernel
theorem wx_X2 : ∀ w ∈ wsX20, w ∈ lw_tbl := by decide +kernel
theorem wx_X6 : ∀ w ∈ wsX60, w ∈ lw_tbl := by decide +kernel
theorem wx_Jx4a65c : ∀ w ∈ wsJx4a65c0, w ∈ lw_tbl := by decide +kernel
theorem wx_X4 : ∀ w ∈ wsX40, w ∈ lw_tbl := by decide +kernel
theorem wr_all : ∀ w ∈ wsL_law0, w ∈ lw_tbl := by
  unfold wsL_law0
  exact List.forall_mem_append.mpr ⟨List.forall_mem_append.mpr ⟨List.forall_mem_append.mpr ⟨List.forall_mem_append.mpr ⟨List.forall_mem_append.mpr ⟨List.forall_mem_append.mpr ⟨List.forall_mem_append.mpr ⟨List.forall_mem_append.mpr ⟨List.forall_mem_append.mpr ⟨List.forall_mem_append.mpr ⟨List.forall_mem_append.mpr ⟨List.forall_mem_append.mpr ⟨wr_1, List.forall_mem_append.mpr ⟨wr_2, List.forall_mem_append.mpr ⟨wr_3, List.forall_mem_append.mpr ⟨wr_4, List.forall_mem_append.mpr ⟨wr_5, List.forall_mem_append.mpr ⟨wr_6, List.forall_mem_append.mpr ⟨wr_7, List.forall_mem_append.mpr ⟨wr_8, List.forall_mem_append.mpr ⟨wr_9, List.forall_mem_append.mpr ⟨wr_10, List.forall_mem_append.mpr ⟨wr_11, List.forall_mem_append.mpr ⟨wr_12, List.forall_mem_append.mpr ⟨wr_13, List.forall_mem_append.mpr ⟨wr_14, List.forall_mem_append.mpr ⟨wr_15, List.forall_mem_append.mpr ⟨wr_16, List.forall_mem_append.mpr ⟨wr_17, List.forall_mem_append.mpr ⟨wr_18, List.forall_mem_append.mpr ⟨wr_19, List.forall_mem_append.mpr ⟨wr_20, List.forall_mem_append.mpr ⟨wr_21, List.forall_mem_append.mpr ⟨wr_22, List.forall_mem_append.mpr ⟨wr_23, List.forall_mem_append.mpr ⟨wr_24, List.forall_mem_append.mpr ⟨wr_25, List.forall_mem_append.mpr ⟨wr_26, List.forall_mem_append.mpr ⟨wr_27, List.forall_mem_append.mpr ⟨wr_28, List.forall_mem_append.mpr ⟨wr_29, List.forall_mem_append.mpr ⟨wr_30, List.forall_mem_append.mpr ⟨wr_31, List.forall_mem_append.mpr ⟨wr_32, List.forall_mem_append.mpr ⟨wr_33, List.forall_mem_append.mpr ⟨wr_34, List.forall_mem_append.mpr ⟨wr_35, List.forall_mem_append.mpr ⟨wr_36, List.forall_mem_append.mpr ⟨wr_37, List.forall_mem_append.mpr ⟨wr_38, List.forall_mem_append.mpr ⟨wr_39, List.forall_mem_append.mpr ⟨wr_40, List.forall_mem_append.mpr ⟨wr_41, List.forall_mem_append.mpr ⟨wr_42, List.forall_mem_append.mpr ⟨wr_43, List.forall_mem_append.mpr ⟨wr_44, List.forall_mem_append.mpr ⟨wr_45, List.forall_mem_append.mpr ⟨wr_46, wr_47⟩⟩⟩⟩⟩⟩⟩⟩⟩⟩⟩⟩⟩⟩⟩⟩⟩⟩⟩⟩⟩⟩⟩⟩⟩⟩⟩⟩⟩⟩⟩⟩⟩⟩⟩⟩⟩⟩⟩⟩⟩⟩⟩⟩⟩⟩, wx_X8⟩, wx_X9⟩, wx_X1⟩, wx_X5⟩, wx_X0⟩, wx_X3⟩, wx_X2⟩, wx_X6⟩, wx_Jx4a65c⟩, wx_X4⟩, fun _ h => absurd h List.not_mem_nil⟩
theorem wsL_law_x0 : ∀ w ∈ (vx_atS RX8 56 "java/lang/IllegalStateException" ["java/lang/RuntimeException", "java/lang/Exception"]).filter goodWord, w ∈ lw_tbl := by decide +kernel
theorem wsL_law_x1 : ∀ w ∈ (vx_atS RX8 279 "java/lang/IllegalArgumentException" ["java/lang/RuntimeException", "java/lang/Exception"]).filter goodWord, w ∈ lw_tbl := by decide +kernel
theorem wsL_law_x2 : ∀ w ∈ (vx_atS RX8 82 "java/util/NoSuchElementException" ["java/lang/RuntimeException", "java/lang/Exception"]).filter goodWord, w ∈ lw_tbl := by decide +kernel
theorem wsL_law_x3 : ∀ w ∈ (vx_atS RX8 267 "java/lang/IndexOutOfBoundsException" ["java/lang/RuntimeException", "java/lang/Exception"]).filter goodWord, w ∈ lw_tbl := by decide +kernel
theorem wsL_law_in : ∀ w ∈ wsL_law, w ∈ lw_tbl := by
  unfold wsL_law
  exact List.forall_mem_append.mpr ⟨List.forall_mem_append.mpr ⟨List.forall_mem_append.mpr ⟨List.forall_mem_append.mpr ⟨wr_all, wsL_law_x0⟩, wsL_law_x1⟩, wsL_law_x2⟩, wsL_law_x3⟩
