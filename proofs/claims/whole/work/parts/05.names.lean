set_option maxRecDepth 20000 in
theorem ggL_addWord_X8_addWord : GoodIn wsL_addWord wsX8_addWord := goodIn_ca (goodIn_ca (goodIn_r _ [7, 8, 9, 10, 11, 12, 6, 13, 14, 15, 16, 17, 18, 19, 20, 21, 22, 23, 24, 25, 26, 27, 28, 29, 30, 31, 32, 33, 34, 35, 36, 37, 38, 39, 40, 41, 42, 43, 44, 45, 46, 47, 48, 49, 50, 51, 52, 53, 54, 55, 56, 57, 58, 59, 60, 61, 62, 63, 64, 65, 66, 67, 68, 69, 70, 71, 72, 73, 74, 75, 76, 77] (by decide +kernel) (by decide +kernel)) (goodIn_sub (fun _ h => List.mem_cons_of_mem _ (List.mem_append_left _ (List.mem_append_right _ h))) (by decide +kernel))) (goodIn_sub (fun _ h => List.mem_cons_of_mem _ (List.mem_append_right _ h)) (by decide +kernel))
set_option maxRecDepth 20000 in
theorem gL_addWord_X8_addWord : GoodIn wsL_addWord (wsV RL 7 RX8 yX8_addWord wsX8_addWord) := goodIn_app (goodIn_of _ (by decide +kernel)) ggL_addWord_X8_addWord
theorem dL_addWord_0 : decode cL_addWord 0 = .ok (.aload_n 3, 1) := by decide +kernel
theorem dL_addWord_1 : decode cL_addWord 1 = .ok (.iconst 0, 1) := by decide +kernel
theorem dL_addWord_2 : decode cL_addWord 2 = .ok (.aload_n 0, 1) := by decide +kernel
theorem dL_addWord_3 : decode cL_addWord 3 = .ok (.lload_n 1, 1) := by decide +kernel
theorem dL_addWord_4 : decode cL_addWord 4 = .ok (.invokevirtual 7, 3) := by decide +kernel
theorem dL_addWord_7 : decode cL_addWord 7 = .ok (.i2l, 1) := by decide +kernel
theorem dL_addWord_8 : decode cL_addWord 8 = .ok (.lastore, 1) := by decide +kernel
theorem dL_addWord_9 : decode cL_addWord 9 = .ok (.goto 11, 3) := by decide +kernel
theorem dL_addWord_12 : decode cL_addWord 12 = .ok (.astore 4, 2) := by decide +kernel
theorem dL_addWord_14 : decode cL_addWord 14 = .ok (.iconst 1, 1) := by decide +kernel
theorem dL_addWord_15 : decode cL_addWord 15 = .ok (.ireturn, 1) := by decide +kernel
theorem dL_addWord_16 : decode cL_addWord 16 = .ok (.astore 4, 2) := by decide +kernel
theorem dL_addWord_18 : decode cL_addWord 18 = .ok (.iconst 2, 1) := by decide +kernel
theorem dL_addWord_19 : decode cL_addWord 19 = .ok (.ireturn, 1) := by decide +kernel
theorem dL_addWord_20 : decode cL_addWord 20 = .ok (.iconst 0, 1) := by decide +kernel
theorem dL_addWord_21 : decode cL_addWord 21 = .ok (.ireturn, 1) := by decide +kernel
set_option maxRecDepth 20000 in
theorem ggL_removeWord_X8_removeWord : GoodIn wsL_removeWord wsX8_removeWord := goodIn_ca (goodIn_ca (goodIn_r _ [7, 8, 9, 10, 11, 12, 6, 13, 14, 15, 16, 17, 18, 19, 20, 21, 22, 23, 24, 25, 26, 27, 28, 29, 30, 31, 32, 33, 34, 35, 36, 37, 38, 39, 40, 41, 42, 43, 44, 45, 46, 47, 48, 49, 50, 51, 52, 53, 54, 55, 56, 57, 58, 59, 60, 61, 62, 63, 64, 65, 66, 67, 68, 69, 70, 71, 72, 73] (by decide +kernel) (by decide +kernel)) (goodIn_sub (fun _ h => List.mem_cons_of_mem _ (List.mem_append_left _ (List.mem_append_right _ h))) (by decide +kernel))) (goodIn_sub (fun _ h => List.mem_cons_of_mem _ (List.mem_append_right _ h)) (by decide +kernel))
set_option maxRecDepth 20000 in
theorem gL_removeWord_X8_removeWord : GoodIn wsL_removeWord (wsV RL 17 RX8 yX8_removeWord wsX8_removeWord) := goodIn_app (goodIn_of _ (by decide +kernel)) ggL_removeWord_X8_removeWord
theorem dL_removeWord_0 : decode cL_removeWord 0 = .ok (.aload_n 3, 1) := by decide +kernel
theorem dL_removeWord_1 : decode cL_removeWord 1 = .ok (.iconst 0, 1) := by decide +kernel
theorem dL_removeWord_2 : decode cL_removeWord 2 = .ok (.aload_n 0, 1) := by decide +kernel
theorem dL_removeWord_3 : decode cL_removeWord 3 = .ok (.lload_n 1, 1) := by decide +kernel
theorem dL_removeWord_4 : decode cL_removeWord 4 = .ok (.invokevirtual 17, 3) := by decide +kernel
theorem dL_removeWord_7 : decode cL_removeWord 7 = .ok (.i2l, 1) := by decide +kernel
theorem dL_removeWord_8 : decode cL_removeWord 8 = .ok (.lastore, 1) := by decide +kernel
theorem dL_removeWord_9 : decode cL_removeWord 9 = .ok (.goto 11, 3) := by decide +kernel
theorem dL_removeWord_12 : decode cL_removeWord 12 = .ok (.astore 4, 2) := by decide +kernel
theorem dL_removeWord_14 : decode cL_removeWord 14 = .ok (.iconst 1, 1) := by decide +kernel
theorem dL_removeWord_15 : decode cL_removeWord 15 = .ok (.ireturn, 1) := by decide +kernel
theorem dL_removeWord_16 : decode cL_removeWord 16 = .ok (.astore 4, 2) := by decide +kernel
theorem dL_removeWord_18 : decode cL_removeWord 18 = .ok (.iconst 2, 1) := by decide +kernel
theorem dL_removeWord_19 : decode cL_removeWord 19 = .ok (.ireturn, 1) := by decide +kernel
theorem dL_removeWord_20 : decode cL_removeWord 20 = .ok (.iconst 0, 1) := by decide +kernel
theorem dL_removeWord_21 : decode cL_removeWord 21 = .ok (.ireturn, 1) := by decide +kernel
set_option maxRecDepth 20000 in
theorem ggL_wordAt_X8_wordAt : GoodIn wsL_wordAt wsX8_wordAt := goodIn_ca (goodIn_r _ [6, 7, 8, 9, 10, 11, 12, 13, 14, 15, 5, 16, 17, 18, 19, 20, 21, 22, 23, 24, 25, 26, 27, 28, 29, 30, 31, 32, 33, 34, 35, 36, 37, 38, 39] (by decide +kernel) (by decide +kernel)) (goodIn_sub (fun _ h => List.mem_cons_of_mem _ (List.mem_append_right _ h)) (by decide +kernel))
set_option maxRecDepth 20000 in
theorem gL_wordAt_X8_wordAt : GoodIn wsL_wordAt (wsV RL 22 RX8 yX8_wordAt wsX8_wordAt) := goodIn_app (goodIn_of _ (by decide +kernel)) ggL_wordAt_X8_wordAt
theorem dL_wordAt_0 : decode cL_wordAt 0 = .ok (.aload_n 2, 1) := by decide +kernel
theorem dL_wordAt_1 : decode cL_wordAt 1 = .ok (.iconst 0, 1) := by decide +kernel
theorem dL_wordAt_2 : decode cL_wordAt 2 = .ok (.aload_n 0, 1) := by decide +kernel
theorem dL_wordAt_3 : decode cL_wordAt 3 = .ok (.iload_n 1, 1) := by decide +kernel
theorem dL_wordAt_4 : decode cL_wordAt 4 = .ok (.invokevirtual 22, 3) := by decide +kernel
theorem dL_wordAt_7 : decode cL_wordAt 7 = .ok (.lastore, 1) := by decide +kernel
theorem dL_wordAt_8 : decode cL_wordAt 8 = .ok (.goto 6, 3) := by decide +kernel
theorem dL_wordAt_11 : decode cL_wordAt 11 = .ok (.astore_n 3, 1) := by decide +kernel
theorem dL_wordAt_12 : decode cL_wordAt 12 = .ok (.iconst 1, 1) := by decide +kernel
theorem dL_wordAt_13 : decode cL_wordAt 13 = .ok (.ireturn, 1) := by decide +kernel
theorem dL_wordAt_14 : decode cL_wordAt 14 = .ok (.iconst 0, 1) := by decide +kernel
theorem dL_wordAt_15 : decode cL_wordAt 15 = .ok (.ireturn, 1) := by decide +kernel
set_option maxRecDepth 20000 in
theorem ggL_hasWord_X8_hasWord : GoodIn wsL_hasWord wsX8_hasWord := goodIn_ca (goodIn_r _ [6, 7, 8, 9, 5, 10, 11, 12, 13, 14, 15, 16, 17, 18, 19, 20, 21, 22, 23, 24, 25, 26, 27, 28, 29, 30, 31, 32, 33, 34, 35, 36, 37, 38, 39, 40, 41, 42, 43, 44, 45, 46, 47, 48, 49, 50, 51, 52, 53, 54, 55, 56, 57] (by decide +kernel) (by decide +kernel)) (goodIn_sub (fun _ h => List.mem_cons_of_mem _ (List.mem_append_right _ h)) (by decide +kernel))
set_option maxRecDepth 20000 in
theorem gL_hasWord_X8_hasWord : GoodIn wsL_hasWord (wsV RL 28 RX8 yX8_hasWord wsX8_hasWord) := goodIn_app (goodIn_of _ (by decide +kernel)) ggL_hasWord_X8_hasWord
theorem dL_hasWord_0 : decode cL_hasWord 0 = .ok (.aload_n 3, 1) := by decide +kernel
theorem dL_hasWord_1 : decode cL_hasWord 1 = .ok (.iconst 0, 1) := by decide +kernel
theorem dL_hasWord_2 : decode cL_hasWord 2 = .ok (.aload_n 0, 1) := by decide +kernel
theorem dL_hasWord_3 : decode cL_hasWord 3 = .ok (.lload_n 1, 1) := by decide +kernel
theorem dL_hasWord_4 : decode cL_hasWord 4 = .ok (.invokevirtual 28, 3) := by decide +kernel
theorem dL_hasWord_7 : decode cL_hasWord 7 = .ok (.ifCond .eq 7, 3) := by decide +kernel
theorem dL_hasWord_10 : decode cL_hasWord 10 = .ok (.lconst 1, 1) := by decide +kernel
theorem dL_hasWord_11 : decode cL_hasWord 11 = .ok (.goto 4, 3) := by decide +kernel
theorem dL_hasWord_14 : decode cL_hasWord 14 = .ok (.lconst 0, 1) := by decide +kernel
theorem dL_hasWord_15 : decode cL_hasWord 15 = .ok (.lastore, 1) := by decide +kernel
theorem dL_hasWord_16 : decode cL_hasWord 16 = .ok (.goto 7, 3) := by decide +kernel
theorem dL_hasWord_19 : decode cL_hasWord 19 = .ok (.astore 4, 2) := by decide +kernel
theorem dL_hasWord_21 : decode cL_hasWord 21 = .ok (.iconst 1, 1) := by decide +kernel
theorem dL_hasWord_22 : decode cL_hasWord 22 = .ok (.ireturn, 1) := by decide +kernel
theorem dL_hasWord_23 : decode cL_hasWord 23 = .ok (.iconst 0, 1) := by decide +kernel
theorem dL_hasWord_24 : decode cL_hasWord 24 = .ok (.ireturn, 1) := by decide +kernel
set_option maxRecDepth 20000 in
theorem ggL_anagramCount_X8_anagramCount : GoodIn wsL_anagramCount wsX8_anagramCount := goodIn_ca (goodIn_r _ [6, 7, 8, 9, 5, 10, 11, 12, 13, 14, 15, 16, 17, 18, 19, 20, 21, 22, 23, 24, 25, 26, 27, 28, 29, 30, 31, 32, 33, 34, 35, 36, 37, 38, 39, 40, 41, 42, 43, 44, 45, 46, 47, 48, 49, 50, 51, 52, 53, 54, 55, 56, 57, 58, 59, 60, 61, 62, 63, 64, 65, 66, 67, 68, 69, 70, 71, 72, 73, 74, 75, 76, 77, 78, 79, 80, 81, 82, 83, 84, 85, 86, 87, 88, 89, 90, 91, 92] (by decide +kernel) (by decide +kernel)) (goodIn_sub (fun _ h => List.mem_cons_of_mem _ (List.mem_append_right _ h)) (by decide +kernel))
set_option maxRecDepth 20000 in
theorem gL_anagramCount_X8_anagramCount : GoodIn wsL_anagramCount (wsV RL 32 RX8 yX8_anagramCount wsX8_anagramCount) := goodIn_app (goodIn_of _ (by decide +kernel)) ggL_anagramCount_X8_anagramCount
theorem dL_anagramCount_0 : decode cL_anagramCount 0 = .ok (.aload_n 3, 1) := by decide +kernel
theorem dL_anagramCount_1 : decode cL_anagramCount 1 = .ok (.iconst 0, 1) := by decide +kernel
theorem dL_anagramCount_2 : decode cL_anagramCount 2 = .ok (.aload_n 0, 1) := by decide +kernel
theorem dL_anagramCount_3 : decode cL_anagramCount 3 = .ok (.lload_n 1, 1) := by decide +kernel
theorem dL_anagramCount_4 : decode cL_anagramCount 4 = .ok (.invokevirtual 32, 3) := by decide +kernel
theorem dL_anagramCount_7 : decode cL_anagramCount 7 = .ok (.i2l, 1) := by decide +kernel
theorem dL_anagramCount_8 : decode cL_anagramCount 8 = .ok (.lastore, 1) := by decide +kernel
theorem dL_anagramCount_9 : decode cL_anagramCount 9 = .ok (.goto 7, 3) := by decide +kernel
theorem dL_anagramCount_12 : decode cL_anagramCount 12 = .ok (.astore 4, 2) := by decide +kernel
theorem dL_anagramCount_14 : decode cL_anagramCount 14 = .ok (.iconst 1, 1) := by decide +kernel
theorem dL_anagramCount_15 : decode cL_anagramCount 15 = .ok (.ireturn, 1) := by decide +kernel
theorem dL_anagramCount_16 : decode cL_anagramCount 16 = .ok (.iconst 0, 1) := by decide +kernel
theorem dL_anagramCount_17 : decode cL_anagramCount 17 = .ok (.ireturn, 1) := by decide +kernel
set_option maxRecDepth 20000 in
theorem ggL_anagramAt_X8_anagramAt : GoodIn wsL_anagramAt wsX8_anagramAt := goodIn_ca (goodIn_ca (goodIn_r _ [7, 8, 9, 10, 6, 11, 12, 13, 14, 15, 16, 17, 18, 19, 20, 21, 22, 23, 24, 25, 26, 27, 28, 29, 30, 31, 32, 33, 34, 35, 36, 37, 38, 39, 40, 41, 42, 43, 44, 45, 46, 47, 48, 49, 50, 51, 52, 53, 54, 55, 56, 57, 58, 59, 60, 61, 62, 63, 64, 65, 66, 67, 68, 69, 70, 71, 72, 73, 74, 75, 76, 77, 78, 79, 80, 81, 82, 83, 84, 85, 86, 87, 88, 89, 90, 91, 92, 93, 94, 95, 96, 97, 98, 99] (by decide +kernel) (by decide +kernel)) (goodIn_sub (fun _ h => List.mem_cons_of_mem _ (List.mem_append_left _ (List.mem_append_right _ h))) (by decide +kernel))) (goodIn_sub (fun _ h => List.mem_cons_of_mem _ (List.mem_append_right _ h)) (by decide +kernel))
set_option maxRecDepth 20000 in
theorem gL_anagramAt_X8_anagramAt : GoodIn wsL_anagramAt (wsV RL 35 RX8 yX8_anagramAt wsX8_anagramAt) := goodIn_app (goodIn_of _ (by decide +kernel)) ggL_anagramAt_X8_anagramAt
theorem dL_anagramAt_0 : decode cL_anagramAt 0 = .ok (.aload 4, 2) := by decide +kernel
theorem dL_anagramAt_2 : decode cL_anagramAt 2 = .ok (.iconst 0, 1) := by decide +kernel
theorem dL_anagramAt_3 : decode cL_anagramAt 3 = .ok (.aload_n 0, 1) := by decide +kernel
theorem dL_anagramAt_4 : decode cL_anagramAt 4 = .ok (.lload_n 1, 1) := by decide +kernel
theorem dL_anagramAt_5 : decode cL_anagramAt 5 = .ok (.iload_n 3, 1) := by decide +kernel
theorem dL_anagramAt_6 : decode cL_anagramAt 6 = .ok (.invokevirtual 35, 3) := by decide +kernel
theorem dL_anagramAt_9 : decode cL_anagramAt 9 = .ok (.lastore, 1) := by decide +kernel
theorem dL_anagramAt_10 : decode cL_anagramAt 10 = .ok (.goto 11, 3) := by decide +kernel
theorem dL_anagramAt_13 : decode cL_anagramAt 13 = .ok (.astore 5, 2) := by decide +kernel
theorem dL_anagramAt_15 : decode cL_anagramAt 15 = .ok (.iconst 1, 1) := by decide +kernel
theorem dL_anagramAt_16 : decode cL_anagramAt 16 = .ok (.ireturn, 1) := by decide +kernel
theorem dL_anagramAt_17 : decode cL_anagramAt 17 = .ok (.astore 5, 2) := by decide +kernel
theorem dL_anagramAt_19 : decode cL_anagramAt 19 = .ok (.iconst 2, 1) := by decide +kernel
theorem dL_anagramAt_20 : decode cL_anagramAt 20 = .ok (.ireturn, 1) := by decide +kernel
theorem dL_anagramAt_21 : decode cL_anagramAt 21 = .ok (.iconst 0, 1) := by decide +kernel
theorem dL_anagramAt_22 : decode cL_anagramAt 22 = .ok (.ireturn, 1) := by decide +kernel
set_option maxRecDepth 20000 in
theorem ggL_fittingCount_X8_fittingCount : GoodIn wsL_fittingCount wsX8_fittingCount := goodIn_ca (goodIn_r _ [6, 7, 8, 9, 5, 10, 11, 12, 13, 14, 15, 16, 17, 18, 19, 20, 21, 22, 23, 24, 25, 26, 27, 28, 29, 30, 31, 32, 33, 34, 35, 36, 37, 38, 39, 40, 41, 42, 43, 44, 45, 46, 47, 48, 49, 50, 51, 52, 53, 54, 55, 56, 57, 58, 59, 60, 61, 62, 63, 64, 65, 66, 67, 68, 69, 70, 71, 72, 73, 74, 75, 76, 77, 78, 79, 80, 81, 82, 83, 84, 85, 86, 87, 88, 89, 90, 91, 92] (by decide +kernel) (by decide +kernel)) (goodIn_sub (fun _ h => List.mem_cons_of_mem _ (List.mem_append_right _ h)) (by decide +kernel))
set_option maxRecDepth 20000 in
theorem gL_fittingCount_X8_fittingCount : GoodIn wsL_fittingCount (wsV RL 39 RX8 yX8_fittingCount wsX8_fittingCount) := goodIn_app (goodIn_of _ (by decide +kernel)) ggL_fittingCount_X8_fittingCount
theorem dL_fittingCount_0 : decode cL_fittingCount 0 = .ok (.aload_n 3, 1) := by decide +kernel
theorem dL_fittingCount_1 : decode cL_fittingCount 1 = .ok (.iconst 0, 1) := by decide +kernel
theorem dL_fittingCount_2 : decode cL_fittingCount 2 = .ok (.aload_n 0, 1) := by decide +kernel
theorem dL_fittingCount_3 : decode cL_fittingCount 3 = .ok (.lload_n 1, 1) := by decide +kernel
theorem dL_fittingCount_4 : decode cL_fittingCount 4 = .ok (.invokevirtual 39, 3) := by decide +kernel
theorem dL_fittingCount_7 : decode cL_fittingCount 7 = .ok (.i2l, 1) := by decide +kernel
theorem dL_fittingCount_8 : decode cL_fittingCount 8 = .ok (.lastore, 1) := by decide +kernel
theorem dL_fittingCount_9 : decode cL_fittingCount 9 = .ok (.goto 7, 3) := by decide +kernel
theorem dL_fittingCount_12 : decode cL_fittingCount 12 = .ok (.astore 4, 2) := by decide +kernel
theorem dL_fittingCount_14 : decode cL_fittingCount 14 = .ok (.iconst 1, 1) := by decide +kernel
theorem dL_fittingCount_15 : decode cL_fittingCount 15 = .ok (.ireturn, 1) := by decide +kernel
theorem dL_fittingCount_16 : decode cL_fittingCount 16 = .ok (.iconst 0, 1) := by decide +kernel
theorem dL_fittingCount_17 : decode cL_fittingCount 17 = .ok (.ireturn, 1) := by decide +kernel
set_option maxRecDepth 20000 in
theorem ggL_fittingWord_X8_fittingWord : GoodIn wsL_fittingWord wsX8_fittingWord := goodIn_ca (goodIn_ca (goodIn_r _ [7, 8, 9, 10, 6, 11, 12, 13, 14, 15, 16, 17, 18, 19, 20, 21, 22, 23, 24, 25, 26, 27, 28, 29, 30, 31, 32, 33, 34, 35, 36, 37, 38, 39, 40, 41, 42, 43, 44, 45, 46, 47, 48, 49, 50, 51, 52, 53, 54, 55, 56, 57, 58, 59, 60, 61, 62, 63, 64, 65, 66, 67, 68, 69, 70, 71, 72, 73, 74, 75, 76, 77, 78, 79, 80, 81, 82, 83, 84, 85, 86, 87, 88, 89, 90, 91, 92, 93, 94, 95, 96, 97, 98, 99] (by decide +kernel) (by decide +kernel)) (goodIn_sub (fun _ h => List.mem_cons_of_mem _ (List.mem_append_left _ (List.mem_append_right _ h))) (by decide +kernel))) (goodIn_sub (fun _ h => List.mem_cons_of_mem _ (List.mem_append_right _ h)) (by decide +kernel))
set_option maxRecDepth 20000 in
theorem gL_fittingWord_X8_fittingWord : GoodIn wsL_fittingWord (wsV RL 42 RX8 yX8_fittingWord wsX8_fittingWord) := goodIn_app (goodIn_of _ (by decide +kernel)) ggL_fittingWord_X8_fittingWord
theorem dL_fittingWord_0 : decode cL_fittingWord 0 = .ok (.aload 4, 2) := by decide +kernel
theorem dL_fittingWord_2 : decode cL_fittingWord 2 = .ok (.iconst 0, 1) := by decide +kernel
theorem dL_fittingWord_3 : decode cL_fittingWord 3 = .ok (.aload_n 0, 1) := by decide +kernel
theorem dL_fittingWord_4 : decode cL_fittingWord 4 = .ok (.lload_n 1, 1) := by decide +kernel
theorem dL_fittingWord_5 : decode cL_fittingWord 5 = .ok (.iload_n 3, 1) := by decide +kernel
theorem dL_fittingWord_6 : decode cL_fittingWord 6 = .ok (.invokevirtual 42, 3) := by decide +kernel
theorem dL_fittingWord_9 : decode cL_fittingWord 9 = .ok (.lastore, 1) := by decide +kernel
theorem dL_fittingWord_10 : decode cL_fittingWord 10 = .ok (.goto 11, 3) := by decide +kernel
theorem dL_fittingWord_13 : decode cL_fittingWord 13 = .ok (.astore 5, 2) := by decide +kernel
theorem dL_fittingWord_15 : decode cL_fittingWord 15 = .ok (.iconst 1, 1) := by decide +kernel
theorem dL_fittingWord_16 : decode cL_fittingWord 16 = .ok (.ireturn, 1) := by decide +kernel
theorem dL_fittingWord_17 : decode cL_fittingWord 17 = .ok (.astore 5, 2) := by decide +kernel
theorem dL_fittingWord_19 : decode cL_fittingWord 19 = .ok (.iconst 2, 1) := by decide +kernel
theorem dL_fittingWord_20 : decode cL_fittingWord 20 = .ok (.ireturn, 1) := by decide +kernel
theorem dL_fittingWord_21 : decode cL_fittingWord 21 = .ok (.iconst 0, 1) := by decide +kernel
theorem dL_fittingWord_22 : decode cL_fittingWord 22 = .ok (.ireturn, 1) := by decide +kernel
set_option maxRecDepth 20000 in
theorem ggL_cut_X8_cut : GoodIn wsL_cut wsX8_cut := goodIn_ca (goodIn_ca (goodIn_r _ [7, 8, 9, 10, 11, 12, 13, 14, 6, 15, 16, 17, 18, 19, 20, 21, 22, 23, 24, 25, 26, 27, 28, 29, 30, 31, 32, 33, 34, 35, 36, 37, 38, 39, 40, 41, 42, 43, 44, 45, 46, 47, 48, 49, 50, 51, 52, 53, 54, 55, 56, 57, 58, 59, 60, 61, 62, 63, 64, 65, 66, 67, 68, 69, 70, 71, 72, 73, 74, 75, 76, 77, 78, 79, 80] (by decide +kernel) (by decide +kernel)) (goodIn_sub (fun _ h => List.mem_cons_of_mem _ (List.mem_append_left _ (List.mem_append_right _ h))) (by decide +kernel))) (goodIn_sub (fun _ h => List.mem_cons_of_mem _ (List.mem_append_right _ h)) (by decide +kernel))
set_option maxRecDepth 20000 in
theorem gL_cut_X8_cut : GoodIn wsL_cut (wsV RL 45 RX8 yX8_cut wsX8_cut) := goodIn_app (goodIn_of _ (by decide +kernel)) ggL_cut_X8_cut
theorem dL_cut_0 : decode cL_cut 0 = .ok (.aload 4, 2) := by decide +kernel
theorem dL_cut_2 : decode cL_cut 2 = .ok (.iconst 0, 1) := by decide +kernel
theorem dL_cut_3 : decode cL_cut 3 = .ok (.aload_n 0, 1) := by decide +kernel
theorem dL_cut_4 : decode cL_cut 4 = .ok (.lload_n 1, 1) := by decide +kernel
theorem dL_cut_5 : decode cL_cut 5 = .ok (.iload_n 3, 1) := by decide +kernel
theorem dL_cut_6 : decode cL_cut 6 = .ok (.invokevirtual 45, 3) := by decide +kernel
theorem dL_cut_9 : decode cL_cut 9 = .ok (.i2l, 1) := by decide +kernel
theorem dL_cut_10 : decode cL_cut 10 = .ok (.lastore, 1) := by decide +kernel
theorem dL_cut_11 : decode cL_cut 11 = .ok (.goto 11, 3) := by decide +kernel
theorem dL_cut_14 : decode cL_cut 14 = .ok (.astore 5, 2) := by decide +kernel
theorem dL_cut_16 : decode cL_cut 16 = .ok (.iconst 1, 1) := by decide +kernel
theorem dL_cut_17 : decode cL_cut 17 = .ok (.ireturn, 1) := by decide +kernel
theorem dL_cut_18 : decode cL_cut 18 = .ok (.astore 5, 2) := by decide +kernel
theorem dL_cut_20 : decode cL_cut 20 = .ok (.iconst 2, 1) := by decide +kernel
theorem dL_cut_21 : decode cL_cut 21 = .ok (.ireturn, 1) := by decide +kernel
theorem dL_cut_22 : decode cL_cut 22 = .ok (.iconst 0, 1) := by decide +kernel
theorem dL_cut_23 : decode cL_cut 23 = .ok (.ireturn, 1) := by decide +kernel
set_option maxRecDepth 20000 in
theorem ggL_stockOf_X8_stockOf : GoodIn wsL_stockOf wsX8_stockOf := goodIn_ca (goodIn_r _ [6, 7, 8, 9, 10, 5, 11, 12, 13, 14, 15, 16, 17, 18, 19, 20, 21, 22, 23, 24, 25, 26, 27, 28, 29, 30, 31] (by decide +kernel) (by decide +kernel)) (goodIn_sub (fun _ h => List.mem_cons_of_mem _ (List.mem_append_right _ h)) (by decide +kernel))
set_option maxRecDepth 20000 in
theorem gL_stockOf_X8_stockOf : GoodIn wsL_stockOf (wsV RL 49 RX8 yX8_stockOf wsX8_stockOf) := goodIn_app (goodIn_of _ (by decide +kernel)) ggL_stockOf_X8_stockOf
theorem dL_stockOf_0 : decode cL_stockOf 0 = .ok (.aload_n 2, 1) := by decide +kernel
theorem dL_stockOf_1 : decode cL_stockOf 1 = .ok (.iconst 0, 1) := by decide +kernel
theorem dL_stockOf_2 : decode cL_stockOf 2 = .ok (.aload_n 0, 1) := by decide +kernel
theorem dL_stockOf_3 : decode cL_stockOf 3 = .ok (.iload_n 1, 1) := by decide +kernel
theorem dL_stockOf_4 : decode cL_stockOf 4 = .ok (.invokevirtual 49, 3) := by decide +kernel
theorem dL_stockOf_7 : decode cL_stockOf 7 = .ok (.i2l, 1) := by decide +kernel
theorem dL_stockOf_8 : decode cL_stockOf 8 = .ok (.lastore, 1) := by decide +kernel
theorem dL_stockOf_9 : decode cL_stockOf 9 = .ok (.goto 6, 3) := by decide +kernel
theorem dL_stockOf_12 : decode cL_stockOf 12 = .ok (.astore_n 3, 1) := by decide +kernel
theorem dL_stockOf_13 : decode cL_stockOf 13 = .ok (.iconst 1, 1) := by decide +kernel
theorem dL_stockOf_14 : decode cL_stockOf 14 = .ok (.ireturn, 1) := by decide +kernel
theorem dL_stockOf_15 : decode cL_stockOf 15 = .ok (.iconst 0, 1) := by decide +kernel
theorem dL_stockOf_16 : decode cL_stockOf 16 = .ok (.ireturn, 1) := by decide +kernel
set_option maxRecDepth 20000 in
theorem ggL_setBasePrice_X8_setBasePrice : GoodIn wsL_setBasePrice wsX8_setBasePrice := goodIn_ca (goodIn_r _ [6, 7, 8, 9, 5, 10, 11, 12, 13, 14, 15, 16, 17, 18, 19, 20, 21, 22, 23, 24, 25, 26, 27, 28, 29, 30, 31, 32, 33] (by decide +kernel) (by decide +kernel)) (goodIn_sub (fun _ h => List.mem_cons_of_mem _ (List.mem_append_right _ h)) (by decide +kernel))
set_option maxRecDepth 20000 in
theorem gL_setBasePrice_X8_setBasePrice : GoodIn wsL_setBasePrice (wsV RL 53 RX8 yX8_setBasePrice wsX8_setBasePrice) := goodIn_app (goodIn_of _ (by decide +kernel)) ggL_setBasePrice_X8_setBasePrice
theorem dL_setBasePrice_0 : decode cL_setBasePrice 0 = .ok (.aload_n 3, 1) := by decide +kernel
theorem dL_setBasePrice_1 : decode cL_setBasePrice 1 = .ok (.iconst 0, 1) := by decide +kernel
theorem dL_setBasePrice_2 : decode cL_setBasePrice 2 = .ok (.aload_n 0, 1) := by decide +kernel
theorem dL_setBasePrice_3 : decode cL_setBasePrice 3 = .ok (.iload_n 1, 1) := by decide +kernel
theorem dL_setBasePrice_4 : decode cL_setBasePrice 4 = .ok (.iload_n 2, 1) := by decide +kernel
theorem dL_setBasePrice_5 : decode cL_setBasePrice 5 = .ok (.invokevirtual 53, 3) := by decide +kernel
theorem dL_setBasePrice_8 : decode cL_setBasePrice 8 = .ok (.i2l, 1) := by decide +kernel
theorem dL_setBasePrice_9 : decode cL_setBasePrice 9 = .ok (.lastore, 1) := by decide +kernel
theorem dL_setBasePrice_10 : decode cL_setBasePrice 10 = .ok (.goto 7, 3) := by decide +kernel
theorem dL_setBasePrice_13 : decode cL_setBasePrice 13 = .ok (.astore 4, 2) := by decide +kernel
theorem dL_setBasePrice_15 : decode cL_setBasePrice 15 = .ok (.iconst 1, 1) := by decide +kernel
theorem dL_setBasePrice_16 : decode cL_setBasePrice 16 = .ok (.ireturn, 1) := by decide +kernel
theorem dL_setBasePrice_17 : decode cL_setBasePrice 17 = .ok (.iconst 0, 1) := by decide +kernel
theorem dL_setBasePrice_18 : decode cL_setBasePrice 18 = .ok (.ireturn, 1) := by decide +kernel
set_option maxRecDepth 20000 in
theorem ggL_basePriceOf_X8_basePriceOf : GoodIn wsL_basePriceOf wsX8_basePriceOf := goodIn_ca (goodIn_r _ [6, 7, 8, 9, 5, 10, 11, 12, 13, 14, 15, 16, 17, 18, 19, 20, 21, 22, 23, 24, 25, 26, 27, 28, 29] (by decide +kernel) (by decide +kernel)) (goodIn_sub (fun _ h => List.mem_cons_of_mem _ (List.mem_append_right _ h)) (by decide +kernel))
set_option maxRecDepth 20000 in
theorem gL_basePriceOf_X8_basePriceOf : GoodIn wsL_basePriceOf (wsV RL 57 RX8 yX8_basePriceOf wsX8_basePriceOf) := goodIn_app (goodIn_of _ (by decide +kernel)) ggL_basePriceOf_X8_basePriceOf
theorem dL_basePriceOf_0 : decode cL_basePriceOf 0 = .ok (.aload_n 2, 1) := by decide +kernel
theorem dL_basePriceOf_1 : decode cL_basePriceOf 1 = .ok (.iconst 0, 1) := by decide +kernel
theorem dL_basePriceOf_2 : decode cL_basePriceOf 2 = .ok (.aload_n 0, 1) := by decide +kernel
theorem dL_basePriceOf_3 : decode cL_basePriceOf 3 = .ok (.iload_n 1, 1) := by decide +kernel
theorem dL_basePriceOf_4 : decode cL_basePriceOf 4 = .ok (.invokevirtual 57, 3) := by decide +kernel
theorem dL_basePriceOf_7 : decode cL_basePriceOf 7 = .ok (.i2l, 1) := by decide +kernel
theorem dL_basePriceOf_8 : decode cL_basePriceOf 8 = .ok (.lastore, 1) := by decide +kernel
theorem dL_basePriceOf_9 : decode cL_basePriceOf 9 = .ok (.goto 6, 3) := by decide +kernel
theorem dL_basePriceOf_12 : decode cL_basePriceOf 12 = .ok (.astore_n 3, 1) := by decide +kernel
theorem dL_basePriceOf_13 : decode cL_basePriceOf 13 = .ok (.iconst 1, 1) := by decide +kernel
theorem dL_basePriceOf_14 : decode cL_basePriceOf 14 = .ok (.ireturn, 1) := by decide +kernel
theorem dL_basePriceOf_15 : decode cL_basePriceOf 15 = .ok (.iconst 0, 1) := by decide +kernel
theorem dL_basePriceOf_16 : decode cL_basePriceOf 16 = .ok (.ireturn, 1) := by decide +kernel
set_option maxRecDepth 20000 in
theorem ggL_presentPriceOf_X8_presentPriceOf : GoodIn wsL_presentPriceOf wsX8_presentPriceOf := goodIn_ca (goodIn_r _ [6, 7, 8, 9, 5, 10, 11, 12, 13, 14, 15, 16, 17, 18, 19, 20, 21, 22, 23, 24, 25, 26, 27, 28, 29, 30, 31, 32, 33, 34, 35, 36, 37, 38, 39, 40, 41, 42, 43, 44, 45] (by decide +kernel) (by decide +kernel)) (goodIn_sub (fun _ h => List.mem_cons_of_mem _ (List.mem_append_right _ h)) (by decide +kernel))
set_option maxRecDepth 20000 in
theorem gL_presentPriceOf_X8_presentPriceOf : GoodIn wsL_presentPriceOf (wsV RL 60 RX8 yX8_presentPriceOf wsX8_presentPriceOf) := goodIn_app (goodIn_of _ (by decide +kernel)) ggL_presentPriceOf_X8_presentPriceOf
theorem dL_presentPriceOf_0 : decode cL_presentPriceOf 0 = .ok (.aload_n 2, 1) := by decide +kernel
theorem dL_presentPriceOf_1 : decode cL_presentPriceOf 1 = .ok (.iconst 0, 1) := by decide +kernel
theorem dL_presentPriceOf_2 : decode cL_presentPriceOf 2 = .ok (.aload_n 0, 1) := by decide +kernel
theorem dL_presentPriceOf_3 : decode cL_presentPriceOf 3 = .ok (.iload_n 1, 1) := by decide +kernel
theorem dL_presentPriceOf_4 : decode cL_presentPriceOf 4 = .ok (.invokevirtual 60, 3) := by decide +kernel
theorem dL_presentPriceOf_7 : decode cL_presentPriceOf 7 = .ok (.i2l, 1) := by decide +kernel
theorem dL_presentPriceOf_8 : decode cL_presentPriceOf 8 = .ok (.lastore, 1) := by decide +kernel
theorem dL_presentPriceOf_9 : decode cL_presentPriceOf 9 = .ok (.goto 6, 3) := by decide +kernel
theorem dL_presentPriceOf_12 : decode cL_presentPriceOf 12 = .ok (.astore_n 3, 1) := by decide +kernel
theorem dL_presentPriceOf_13 : decode cL_presentPriceOf 13 = .ok (.iconst 1, 1) := by decide +kernel
theorem dL_presentPriceOf_14 : decode cL_presentPriceOf 14 = .ok (.ireturn, 1) := by decide +kernel
theorem dL_presentPriceOf_15 : decode cL_presentPriceOf 15 = .ok (.iconst 0, 1) := by decide +kernel
theorem dL_presentPriceOf_16 : decode cL_presentPriceOf 16 = .ok (.ireturn, 1) := by decide +kernel
set_option maxRecDepth 20000 in
theorem ggL_weightOf_X8_weightOf : GoodIn wsL_weightOf wsX8_weightOf := goodIn_ca (goodIn_r _ [6, 7, 8, 9, 5, 10, 11, 12, 13, 14, 15, 16, 17, 18, 19, 20, 21, 22, 23, 24, 25, 26, 27, 28, 29, 30, 31, 32, 33, 34, 35, 36, 37, 38, 39] (by decide +kernel) (by decide +kernel)) (goodIn_sub (fun _ h => List.mem_cons_of_mem _ (List.mem_append_right _ h)) (by decide +kernel))
set_option maxRecDepth 20000 in
theorem gL_weightOf_X8_weightOf : GoodIn wsL_weightOf (wsV RL 63 RX8 yX8_weightOf wsX8_weightOf) := goodIn_app (goodIn_of _ (by decide +kernel)) ggL_weightOf_X8_weightOf
theorem dL_weightOf_0 : decode cL_weightOf 0 = .ok (.aload_n 3, 1) := by decide +kernel
theorem dL_weightOf_1 : decode cL_weightOf 1 = .ok (.iconst 0, 1) := by decide +kernel
theorem dL_weightOf_2 : decode cL_weightOf 2 = .ok (.aload_n 0, 1) := by decide +kernel
theorem dL_weightOf_3 : decode cL_weightOf 3 = .ok (.lload_n 1, 1) := by decide +kernel
theorem dL_weightOf_4 : decode cL_weightOf 4 = .ok (.invokevirtual 63, 3) := by decide +kernel
theorem dL_weightOf_7 : decode cL_weightOf 7 = .ok (.i2l, 1) := by decide +kernel
theorem dL_weightOf_8 : decode cL_weightOf 8 = .ok (.lastore, 1) := by decide +kernel
theorem dL_weightOf_9 : decode cL_weightOf 9 = .ok (.goto 7, 3) := by decide +kernel
theorem dL_weightOf_12 : decode cL_weightOf 12 = .ok (.astore 4, 2) := by decide +kernel
theorem dL_weightOf_14 : decode cL_weightOf 14 = .ok (.iconst 1, 1) := by decide +kernel
theorem dL_weightOf_15 : decode cL_weightOf 15 = .ok (.ireturn, 1) := by decide +kernel
theorem dL_weightOf_16 : decode cL_weightOf 16 = .ok (.iconst 0, 1) := by decide +kernel
theorem dL_weightOf_17 : decode cL_weightOf 17 = .ok (.ireturn, 1) := by decide +kernel
set_option maxRecDepth 20000 in
theorem ggL_costOf_X8_costOf : GoodIn wsL_costOf wsX8_costOf := goodIn_ca (goodIn_ca (goodIn_r _ [7, 8, 9, 10, 11, 12, 13, 6, 14, 15, 16, 17, 18, 19, 20, 21, 22, 23, 24, 25, 26, 27, 28, 29, 30, 31, 32, 33, 34, 35, 36, 37, 38, 39, 40, 41, 42, 43, 44, 45, 46, 47, 48, 49, 50, 51, 52, 53, 54, 55, 56, 57, 58, 59, 60, 61, 62, 63, 64, 65, 66, 67, 68, 69, 70, 71, 72, 73, 74, 75, 76, 77, 78, 79, 80, 81, 82, 83] (by decide +kernel) (by decide +kernel)) (goodIn_sub (fun _ h => List.mem_cons_of_mem _ (List.mem_append_left _ (List.mem_append_right _ h))) (by decide +kernel))) (goodIn_sub (fun _ h => List.mem_cons_of_mem _ (List.mem_append_right _ h)) (by decide +kernel))
set_option maxRecDepth 20000 in
theorem gL_costOf_X8_costOf : GoodIn wsL_costOf (wsV RL 66 RX8 yX8_costOf wsX8_costOf) := goodIn_app (goodIn_of _ (by decide +kernel)) ggL_costOf_X8_costOf
theorem dL_costOf_0 : decode cL_costOf 0 = .ok (.aload_n 3, 1) := by decide +kernel
theorem dL_costOf_1 : decode cL_costOf 1 = .ok (.iconst 0, 1) := by decide +kernel
theorem dL_costOf_2 : decode cL_costOf 2 = .ok (.aload_n 0, 1) := by decide +kernel
theorem dL_costOf_3 : decode cL_costOf 3 = .ok (.lload_n 1, 1) := by decide +kernel
theorem dL_costOf_4 : decode cL_costOf 4 = .ok (.invokevirtual 66, 3) := by decide +kernel
theorem dL_costOf_7 : decode cL_costOf 7 = .ok (.i2l, 1) := by decide +kernel
theorem dL_costOf_8 : decode cL_costOf 8 = .ok (.lastore, 1) := by decide +kernel
theorem dL_costOf_9 : decode cL_costOf 9 = .ok (.goto 11, 3) := by decide +kernel
theorem dL_costOf_12 : decode cL_costOf 12 = .ok (.astore 4, 2) := by decide +kernel
theorem dL_costOf_14 : decode cL_costOf 14 = .ok (.iconst 1, 1) := by decide +kernel
theorem dL_costOf_15 : decode cL_costOf 15 = .ok (.ireturn, 1) := by decide +kernel
theorem dL_costOf_16 : decode cL_costOf 16 = .ok (.astore 4, 2) := by decide +kernel
theorem dL_costOf_18 : decode cL_costOf 18 = .ok (.iconst 2, 1) := by decide +kernel
theorem dL_costOf_19 : decode cL_costOf 19 = .ok (.ireturn, 1) := by decide +kernel
theorem dL_costOf_20 : decode cL_costOf 20 = .ok (.iconst 0, 1) := by decide +kernel
theorem dL_costOf_21 : decode cL_costOf 21 = .ok (.ireturn, 1) := by decide +kernel
set_option maxRecDepth 20000 in
theorem ggL_missingLetter_X8_missingLetter : GoodIn wsL_missingLetter wsX8_missingLetter := goodIn_ca (goodIn_r _ [6, 7, 8, 9, 10, 5, 11, 12, 13, 14, 15, 16, 17, 18, 19, 20, 21, 22, 23, 24, 25, 26, 27, 28, 29, 30, 31, 32, 33, 34, 35, 36, 37, 38, 39, 40, 41, 42] (by decide +kernel) (by decide +kernel)) (goodIn_sub (fun _ h => List.mem_cons_of_mem _ (List.mem_append_right _ h)) (by decide +kernel))
set_option maxRecDepth 20000 in
theorem gL_missingLetter_X8_missingLetter : GoodIn wsL_missingLetter (wsV RL 69 RX8 yX8_missingLetter wsX8_missingLetter) := goodIn_app (goodIn_of _ (by decide +kernel)) ggL_missingLetter_X8_missingLetter
theorem dL_missingLetter_0 : decode cL_missingLetter 0 = .ok (.aload_n 3, 1) := by decide +kernel
theorem dL_missingLetter_1 : decode cL_missingLetter 1 = .ok (.iconst 0, 1) := by decide +kernel
theorem dL_missingLetter_2 : decode cL_missingLetter 2 = .ok (.aload_n 0, 1) := by decide +kernel
theorem dL_missingLetter_3 : decode cL_missingLetter 3 = .ok (.lload_n 1, 1) := by decide +kernel
theorem dL_missingLetter_4 : decode cL_missingLetter 4 = .ok (.invokevirtual 69, 3) := by decide +kernel
theorem dL_missingLetter_7 : decode cL_missingLetter 7 = .ok (.i2l, 1) := by decide +kernel
theorem dL_missingLetter_8 : decode cL_missingLetter 8 = .ok (.lastore, 1) := by decide +kernel
theorem dL_missingLetter_9 : decode cL_missingLetter 9 = .ok (.goto 7, 3) := by decide +kernel
theorem dL_missingLetter_12 : decode cL_missingLetter 12 = .ok (.astore 4, 2) := by decide +kernel
theorem dL_missingLetter_14 : decode cL_missingLetter 14 = .ok (.iconst 1, 1) := by decide +kernel
theorem dL_missingLetter_15 : decode cL_missingLetter 15 = .ok (.ireturn, 1) := by decide +kernel
theorem dL_missingLetter_16 : decode cL_missingLetter 16 = .ok (.iconst 0, 1) := by decide +kernel
theorem dL_missingLetter_17 : decode cL_missingLetter 17 = .ok (.ireturn, 1) := by decide +kernel
set_option maxRecDepth 20000 in
theorem ggL_refusalOf_X8_refusalOf : GoodIn wsL_refusalOf wsX8_refusalOf := goodIn_ca (goodIn_r _ [6, 7, 8, 5, 9, 10, 11, 12, 13, 14, 15, 16, 17, 18, 19, 20, 21, 22, 23, 24, 25, 26, 27, 28, 29, 30, 31, 32, 33, 34, 35, 36, 37, 38, 39, 40, 41, 42, 43, 44, 45, 46, 47, 48, 49, 50, 51, 52, 53, 54, 55, 56, 57, 58, 59, 60, 61, 62, 63, 64, 65, 66, 67, 68, 69, 70, 71, 72, 73, 74, 75, 76, 77, 78, 79, 80, 81, 82, 83, 84, 85, 86, 87, 88, 89, 90, 91, 92, 93, 94, 95, 96, 97, 98, 99, 100, 101, 102, 103, 104, 105, 106, 107, 108, 109, 110, 111, 112, 113, 114, 115, 116, 117, 118, 119, 120, 121] (by decide +kernel) (by decide +kernel)) (goodIn_sub (fun _ h => List.mem_cons_of_mem _ (List.mem_append_right _ h)) (by decide +kernel))
set_option maxRecDepth 20000 in
theorem gL_refusalOf_X8_refusalOf : GoodIn wsL_refusalOf (wsV RL 72 RX8 yX8_refusalOf wsX8_refusalOf) := goodIn_app (goodIn_of _ (by decide +kernel)) ggL_refusalOf_X8_refusalOf
theorem dL_refusalOf_0 : decode cL_refusalOf 0 = .ok (.aload 4, 2) := by decide +kernel
theorem dL_refusalOf_2 : decode cL_refusalOf 2 = .ok (.iconst 0, 1) := by decide +kernel
theorem dL_refusalOf_3 : decode cL_refusalOf 3 = .ok (.aload_n 0, 1) := by decide +kernel
theorem dL_refusalOf_4 : decode cL_refusalOf 4 = .ok (.lload_n 1, 1) := by decide +kernel
theorem dL_refusalOf_5 : decode cL_refusalOf 5 = .ok (.iload_n 3, 1) := by decide +kernel
theorem dL_refusalOf_6 : decode cL_refusalOf 6 = .ok (.invokevirtual 72, 3) := by decide +kernel
theorem dL_refusalOf_9 : decode cL_refusalOf 9 = .ok (.i2l, 1) := by decide +kernel
theorem dL_refusalOf_10 : decode cL_refusalOf 10 = .ok (.lastore, 1) := by decide +kernel
theorem dL_refusalOf_11 : decode cL_refusalOf 11 = .ok (.goto 7, 3) := by decide +kernel
theorem dL_refusalOf_14 : decode cL_refusalOf 14 = .ok (.astore 5, 2) := by decide +kernel
theorem dL_refusalOf_16 : decode cL_refusalOf 16 = .ok (.iconst 1, 1) := by decide +kernel
theorem dL_refusalOf_17 : decode cL_refusalOf 17 = .ok (.ireturn, 1) := by decide +kernel
theorem dL_refusalOf_18 : decode cL_refusalOf 18 = .ok (.iconst 0, 1) := by decide +kernel
theorem dL_refusalOf_19 : decode cL_refusalOf 19 = .ok (.ireturn, 1) := by decide +kernel
set_option maxRecDepth 20000 in
theorem ggL_sell_X8_sell : GoodIn wsL_sell wsX8_sell := goodIn_ca (goodIn_ca (goodIn_r _ [7, 8, 9, 10, 11, 6, 12, 13, 14, 15, 16, 17, 18, 19, 20, 21, 22, 23, 24, 25, 26, 27, 28, 29, 30, 31, 32, 33, 34, 35, 36, 37, 38, 39, 40, 41, 42, 43, 44, 45, 46, 47, 48, 49, 50, 51, 52, 53, 54, 55, 56, 57, 58, 59, 60, 61, 62, 63, 64, 65, 66, 67, 68, 69, 70, 71, 72, 73, 74, 75, 76, 77, 78, 79, 80, 81, 82, 83, 84, 85, 86, 87, 88, 89, 90, 91, 92, 93, 94, 95, 96, 97, 98, 99, 100, 101, 102, 103, 104, 105, 106, 107, 108, 109, 110, 111, 112, 113, 114, 115, 116, 117, 118, 119, 120, 121, 122, 123, 124, 125, 126, 127, 128, 129, 130, 131, 132, 133, 134, 135, 136, 137, 138, 139, 140, 141, 142, 143, 144, 145, 146, 147, 148, 149, 150, 151, 152, 153, 154, 155, 156, 157, 158, 159, 160, 161, 162, 163, 164, 165, 166, 167, 168, 169, 170, 171, 172, 173, 174, 175, 176, 177, 178, 179, 180, 181, 182, 183, 184, 185, 186, 187, 188, 189, 190, 191, 192, 193, 194, 195, 196, 197, 198, 199, 200, 201, 202, 203, 204, 205, 206, 207, 208, 209, 210, 211, 212, 213, 214, 215, 216, 217, 218, 219, 220, 221, 222, 223, 224, 225] (by decide +kernel) (by decide +kernel)) (goodIn_sub (fun _ h => List.mem_cons_of_mem _ (List.mem_append_left _ (List.mem_append_right _ h))) (by decide +kernel))) (goodIn_sub (fun _ h => List.mem_cons_of_mem _ (List.mem_append_right _ h)) (by decide +kernel))
set_option maxRecDepth 20000 in
theorem gL_sell_X8_sell : GoodIn wsL_sell (wsV RL 75 RX8 yX8_sell wsX8_sell) := goodIn_app (goodIn_of _ (by decide +kernel)) ggL_sell_X8_sell
theorem dL_sell_0 : decode cL_sell 0 = .ok (.aload 4, 2) := by decide +kernel
theorem dL_sell_2 : decode cL_sell 2 = .ok (.iconst 0, 1) := by decide +kernel
theorem dL_sell_3 : decode cL_sell 3 = .ok (.aload_n 0, 1) := by decide +kernel
theorem dL_sell_4 : decode cL_sell 4 = .ok (.lload_n 1, 1) := by decide +kernel
theorem dL_sell_5 : decode cL_sell 5 = .ok (.iload_n 3, 1) := by decide +kernel
theorem dL_sell_6 : decode cL_sell 6 = .ok (.invokevirtual 75, 3) := by decide +kernel
theorem dL_sell_9 : decode cL_sell 9 = .ok (.i2l, 1) := by decide +kernel
theorem dL_sell_10 : decode cL_sell 10 = .ok (.lastore, 1) := by decide +kernel
theorem dL_sell_11 : decode cL_sell 11 = .ok (.goto 11, 3) := by decide +kernel
theorem dL_sell_14 : decode cL_sell 14 = .ok (.astore 5, 2) := by decide +kernel
theorem dL_sell_16 : decode cL_sell 16 = .ok (.iconst 1, 1) := by decide +kernel
theorem dL_sell_17 : decode cL_sell 17 = .ok (.ireturn, 1) := by decide +kernel
theorem dL_sell_18 : decode cL_sell 18 = .ok (.astore 5, 2) := by decide +kernel
theorem dL_sell_20 : decode cL_sell 20 = .ok (.iconst 2, 1) := by decide +kernel
theorem dL_sell_21 : decode cL_sell 21 = .ok (.ireturn, 1) := by decide +kernel
theorem dL_sell_22 : decode cL_sell 22 = .ok (.iconst 0, 1) := by decide +kernel
theorem dL_sell_23 : decode cL_sell 23 = .ok (.ireturn, 1) := by decide +kernel
set_option maxRecDepth 20000 in
theorem ggL_affordableWords_X8_affordableWords : GoodIn wsL_affordableWords wsX8_affordableWords := goodIn_ca (goodIn_r _ [6, 7, 8, 9, 10, 5, 11, 12, 13, 14, 15, 16, 17, 18, 19, 20, 21, 22, 23, 24, 25, 26, 27, 28, 29, 30, 31, 32, 33, 34, 35, 36, 37, 38, 39, 40, 41, 42, 43, 44, 45, 46, 47, 48, 49, 50, 51, 52, 53, 54, 55, 56, 57, 58, 59, 60, 61, 62, 63, 64, 65, 66, 67, 68, 69, 70, 71, 72, 73, 74, 75, 76, 77, 78, 79, 80, 81, 82, 83, 84, 85, 86, 87, 88, 89, 90, 91, 92, 93, 94, 95, 96, 97, 98, 99, 100, 101, 102, 103, 104] (by decide +kernel) (by decide +kernel)) (goodIn_sub (fun _ h => List.mem_cons_of_mem _ (List.mem_append_right _ h)) (by decide +kernel))
set_option maxRecDepth 20000 in
theorem gL_affordableWords_X8_affordableWords : GoodIn wsL_affordableWords (wsV RL 78 RX8 yX8_affordableWords wsX8_affordableWords) := goodIn_app (goodIn_of _ (by decide +kernel)) ggL_affordableWords_X8_affordableWords
theorem dL_affordableWords_0 : decode cL_affordableWords 0 = .ok (.aload_n 2, 1) := by decide +kernel
theorem dL_affordableWords_1 : decode cL_affordableWords 1 = .ok (.iconst 0, 1) := by decide +kernel
theorem dL_affordableWords_2 : decode cL_affordableWords 2 = .ok (.aload_n 0, 1) := by decide +kernel
theorem dL_affordableWords_3 : decode cL_affordableWords 3 = .ok (.iload_n 1, 1) := by decide +kernel
theorem dL_affordableWords_4 : decode cL_affordableWords 4 = .ok (.invokevirtual 78, 3) := by decide +kernel
theorem dL_affordableWords_7 : decode cL_affordableWords 7 = .ok (.i2l, 1) := by decide +kernel
theorem dL_affordableWords_8 : decode cL_affordableWords 8 = .ok (.lastore, 1) := by decide +kernel
theorem dL_affordableWords_9 : decode cL_affordableWords 9 = .ok (.goto 6, 3) := by decide +kernel
theorem dL_affordableWords_12 : decode cL_affordableWords 12 = .ok (.astore_n 3, 1) := by decide +kernel
theorem dL_affordableWords_13 : decode cL_affordableWords 13 = .ok (.iconst 1, 1) := by decide +kernel
theorem dL_affordableWords_14 : decode cL_affordableWords 14 = .ok (.ireturn, 1) := by decide +kernel
theorem dL_affordableWords_15 : decode cL_affordableWords 15 = .ok (.iconst 0, 1) := by decide +kernel
theorem dL_affordableWords_16 : decode cL_affordableWords 16 = .ok (.ireturn, 1) := by decide +kernel
set_option maxRecDepth 20000 in
theorem ggL_bestWord_X8_bestWord : GoodIn wsL_bestWord wsX8_bestWord := goodIn_ca (goodIn_r _ [6, 7, 8, 5, 9, 10, 11, 12, 13, 14, 15, 16, 17, 18, 19, 20, 21, 22, 23, 24, 25, 26, 27, 28, 29, 30, 31, 32, 33, 34, 35, 36, 37, 38, 39, 40, 41, 42, 43, 44, 45, 46, 47, 48, 49, 50, 51, 52, 53, 54, 55, 56, 57, 58, 59, 60, 61, 62, 63, 64, 65, 66, 67, 68, 69, 70, 71, 72, 73, 74, 75, 76, 77, 78, 79, 80, 81, 82, 83, 84, 85, 86, 87, 88, 89, 90, 91, 92, 93, 94, 95, 96, 97, 98, 99, 100, 101, 102, 103, 104, 105, 106, 107, 108, 109, 110] (by decide +kernel) (by decide +kernel)) (goodIn_sub (fun _ h => List.mem_cons_of_mem _ (List.mem_append_right _ h)) (by decide +kernel))
set_option maxRecDepth 20000 in
theorem gL_bestWord_X8_bestWord : GoodIn wsL_bestWord (wsV RL 81 RX8 yX8_bestWord wsX8_bestWord) := goodIn_app (goodIn_of _ (by decide +kernel)) ggL_bestWord_X8_bestWord
theorem dL_bestWord_0 : decode cL_bestWord 0 = .ok (.aload_n 2, 1) := by decide +kernel
theorem dL_bestWord_1 : decode cL_bestWord 1 = .ok (.iconst 0, 1) := by decide +kernel
theorem dL_bestWord_2 : decode cL_bestWord 2 = .ok (.aload_n 0, 1) := by decide +kernel
theorem dL_bestWord_3 : decode cL_bestWord 3 = .ok (.iload_n 1, 1) := by decide +kernel
theorem dL_bestWord_4 : decode cL_bestWord 4 = .ok (.invokevirtual 81, 3) := by decide +kernel
theorem dL_bestWord_7 : decode cL_bestWord 7 = .ok (.lastore, 1) := by decide +kernel
theorem dL_bestWord_8 : decode cL_bestWord 8 = .ok (.goto 6, 3) := by decide +kernel
theorem dL_bestWord_11 : decode cL_bestWord 11 = .ok (.astore_n 3, 1) := by decide +kernel
theorem dL_bestWord_12 : decode cL_bestWord 12 = .ok (.iconst 1, 1) := by decide +kernel
theorem dL_bestWord_13 : decode cL_bestWord 13 = .ok (.ireturn, 1) := by decide +kernel
theorem dL_bestWord_14 : decode cL_bestWord 14 = .ok (.iconst 0, 1) := by decide +kernel
theorem dL_bestWord_15 : decode cL_bestWord 15 = .ok (.ireturn, 1) := by decide +kernel
set_option maxRecDepth 20000 in
theorem ggL_spend_X8_spend : GoodIn wsL_spend wsX8_spend := goodIn_ca (goodIn_r _ [6, 7, 8, 9, 5, 10, 11, 12, 13, 14, 15, 16, 17, 18, 19, 20, 21, 22, 23, 24, 25, 26, 27, 28, 29, 30, 31, 32, 33, 34, 35, 36, 37, 38, 39, 40, 41, 42, 43, 44, 45, 46, 47, 48, 49, 50, 51, 52, 53, 54, 55, 56, 57, 58, 59, 60, 61, 62, 63, 64, 65, 66, 67, 68, 69, 70, 71, 72, 73, 74, 75, 76, 77, 78, 79, 80, 81, 82, 83, 84, 85, 86, 87, 88, 89, 90, 91, 92, 93, 94, 95, 96, 97, 98, 99, 100, 101, 102, 103, 104, 105, 106, 107, 108, 109, 110, 111, 112, 113, 114, 115, 116, 117, 118, 119, 120, 121, 122, 123, 124, 125, 126, 127, 128, 129, 130, 131, 132, 133, 134, 135, 136, 137, 138, 139, 140, 141, 142, 143, 144, 145, 146, 147, 148, 149, 150, 151, 152, 153, 154, 155, 156, 157, 158, 159, 160, 161, 162, 163, 164, 165, 166, 167, 168, 169, 170, 171, 172, 173, 174, 175, 176, 177, 178, 179, 180, 181, 182, 183, 184, 185, 186, 187, 188, 189, 190, 191, 192, 193, 194, 195, 196, 197, 198, 199, 200, 201, 202, 203, 204, 205, 206, 207, 208] (by decide +kernel) (by decide +kernel)) (goodIn_sub (fun _ h => List.mem_cons_of_mem _ (List.mem_append_right _ h)) (by decide +kernel))
set_option maxRecDepth 20000 in
theorem gL_spend_X8_spend : GoodIn wsL_spend (wsV RL 84 RX8 yX8_spend wsX8_spend) := goodIn_app (goodIn_of _ (by decide +kernel)) ggL_spend_X8_spend
theorem dL_spend_0 : decode cL_spend 0 = .ok (.aload_n 2, 1) := by decide +kernel
theorem dL_spend_1 : decode cL_spend 1 = .ok (.iconst 0, 1) := by decide +kernel
theorem dL_spend_2 : decode cL_spend 2 = .ok (.aload_n 0, 1) := by decide +kernel
theorem dL_spend_3 : decode cL_spend 3 = .ok (.iload_n 1, 1) := by decide +kernel
theorem dL_spend_4 : decode cL_spend 4 = .ok (.invokevirtual 84, 3) := by decide +kernel
theorem dL_spend_7 : decode cL_spend 7 = .ok (.i2l, 1) := by decide +kernel
theorem dL_spend_8 : decode cL_spend 8 = .ok (.lastore, 1) := by decide +kernel
theorem dL_spend_9 : decode cL_spend 9 = .ok (.goto 6, 3) := by decide +kernel
theorem dL_spend_12 : decode cL_spend 12 = .ok (.astore_n 3, 1) := by decide +kernel
theorem dL_spend_13 : decode cL_spend 13 = .ok (.iconst 1, 1) := by decide +kernel
theorem dL_spend_14 : decode cL_spend 14 = .ok (.ireturn, 1) := by decide +kernel
theorem dL_spend_15 : decode cL_spend 15 = .ok (.iconst 0, 1) := by decide +kernel
theorem dL_spend_16 : decode cL_spend 16 = .ok (.ireturn, 1) := by decide +kernel
set_option maxRecDepth 20000 in
theorem ggL_planLength_X8_planLength : GoodIn wsL_planLength wsX8_planLength := goodIn_ca (goodIn_r _ [6, 7, 8, 9, 10, 5, 11, 12, 13, 14, 15, 16, 17, 18, 19, 20, 21, 22, 23, 24, 25, 26, 27, 28, 29, 30, 31, 32, 33, 34, 35, 36, 37, 38, 39, 40, 41, 42, 43, 44, 45, 46, 47, 48, 49, 50, 51, 52, 53, 54, 55, 56, 57, 58, 59, 60, 61, 62, 63, 64, 65, 66, 67, 68, 69, 70, 71, 72, 73, 74, 75, 76, 77, 78, 79, 80, 81, 82, 83, 84, 85, 86, 87, 88, 89, 90, 91, 92, 93, 94, 95, 96, 97, 98, 99, 100, 101, 102, 103, 104, 105, 106, 107, 108, 109, 110, 111, 112, 113, 114, 115, 116, 117, 118, 119, 120, 121, 122, 123, 124, 125, 126, 127, 128, 129, 130, 131, 132, 133, 134, 135, 136, 137, 138, 139, 140, 141, 142, 143, 144, 145, 146, 147, 148, 149, 150] (by decide +kernel) (by decide +kernel)) (goodIn_sub (fun _ h => List.mem_cons_of_mem _ (List.mem_append_right _ h)) (by decide +kernel))
set_option maxRecDepth 20000 in
theorem gL_planLength_X8_planLength : GoodIn wsL_planLength (wsV RL 87 RX8 yX8_planLength wsX8_planLength) := goodIn_app (goodIn_of _ (by decide +kernel)) ggL_planLength_X8_planLength
theorem dL_planLength_0 : decode cL_planLength 0 = .ok (.aload 4, 2) := by decide +kernel
theorem dL_planLength_2 : decode cL_planLength 2 = .ok (.iconst 0, 1) := by decide +kernel
theorem dL_planLength_3 : decode cL_planLength 3 = .ok (.aload_n 0, 1) := by decide +kernel
theorem dL_planLength_4 : decode cL_planLength 4 = .ok (.lload_n 1, 1) := by decide +kernel
theorem dL_planLength_5 : decode cL_planLength 5 = .ok (.iload_n 3, 1) := by decide +kernel
theorem dL_planLength_6 : decode cL_planLength 6 = .ok (.invokevirtual 87, 3) := by decide +kernel
theorem dL_planLength_9 : decode cL_planLength 9 = .ok (.i2l, 1) := by decide +kernel
theorem dL_planLength_10 : decode cL_planLength 10 = .ok (.lastore, 1) := by decide +kernel
theorem dL_planLength_11 : decode cL_planLength 11 = .ok (.goto 7, 3) := by decide +kernel
theorem dL_planLength_14 : decode cL_planLength 14 = .ok (.astore 5, 2) := by decide +kernel
theorem dL_planLength_16 : decode cL_planLength 16 = .ok (.iconst 1, 1) := by decide +kernel
theorem dL_planLength_17 : decode cL_planLength 17 = .ok (.ireturn, 1) := by decide +kernel
theorem dL_planLength_18 : decode cL_planLength 18 = .ok (.iconst 0, 1) := by decide +kernel
theorem dL_planLength_19 : decode cL_planLength 19 = .ok (.ireturn, 1) := by decide +kernel
set_option maxRecDepth 20000 in
theorem ggL_planWord_X8_planWord : GoodIn wsL_planWord wsX8_planWord := goodIn_ca (goodIn_ca (goodIn_r _ [7, 8, 9, 10, 11, 6, 12, 13, 14, 15, 16, 17, 18, 19, 20, 21, 22, 23, 24, 25, 26, 27, 28, 29, 30, 31, 32, 33, 34, 35, 36, 37, 38, 39, 40, 41, 42, 43, 44, 45, 46, 47, 48, 49, 50, 51, 52, 53, 54, 55, 56, 57, 58, 59, 60, 61, 62, 63, 64, 65, 66, 67, 68, 69, 70, 71, 72, 73, 74, 75, 76, 77, 78, 79, 80, 81, 82, 83, 84, 85, 86, 87, 88, 89, 90, 91, 92, 93, 94, 95, 96, 97, 98, 99, 100, 101, 102, 103, 104, 105, 106, 107, 108, 109, 110, 111, 112, 113, 114, 115, 116, 117, 118, 119, 120, 121, 122, 123, 124, 125, 126, 127, 128, 129, 130, 131, 132, 133, 134, 135, 136, 137, 138, 139, 140, 141, 142, 143, 144, 145, 146, 147, 148, 149, 150, 151, 152, 153, 154, 155, 156, 157] (by decide +kernel) (by decide +kernel)) (goodIn_sub (fun _ h => List.mem_cons_of_mem _ (List.mem_append_left _ (List.mem_append_right _ h))) (by decide +kernel))) (goodIn_sub (fun _ h => List.mem_cons_of_mem _ (List.mem_append_right _ h)) (by decide +kernel))
set_option maxRecDepth 20000 in
theorem gL_planWord_X8_planWord : GoodIn wsL_planWord (wsV RL 90 RX8 yX8_planWord wsX8_planWord) := goodIn_app (goodIn_of _ (by decide +kernel)) ggL_planWord_X8_planWord
theorem dL_planWord_0 : decode cL_planWord 0 = .ok (.aload 5, 2) := by decide +kernel
theorem dL_planWord_2 : decode cL_planWord 2 = .ok (.iconst 0, 1) := by decide +kernel
theorem dL_planWord_3 : decode cL_planWord 3 = .ok (.aload_n 0, 1) := by decide +kernel
theorem dL_planWord_4 : decode cL_planWord 4 = .ok (.lload_n 1, 1) := by decide +kernel
theorem dL_planWord_5 : decode cL_planWord 5 = .ok (.iload_n 3, 1) := by decide +kernel
theorem dL_planWord_6 : decode cL_planWord 6 = .ok (.iload 4, 2) := by decide +kernel
theorem dL_planWord_8 : decode cL_planWord 8 = .ok (.invokevirtual 90, 3) := by decide +kernel
theorem dL_planWord_11 : decode cL_planWord 11 = .ok (.lastore, 1) := by decide +kernel
theorem dL_planWord_12 : decode cL_planWord 12 = .ok (.goto 11, 3) := by decide +kernel
theorem dL_planWord_15 : decode cL_planWord 15 = .ok (.astore 6, 2) := by decide +kernel
theorem dL_planWord_17 : decode cL_planWord 17 = .ok (.iconst 1, 1) := by decide +kernel
theorem dL_planWord_18 : decode cL_planWord 18 = .ok (.ireturn, 1) := by decide +kernel
theorem dL_planWord_19 : decode cL_planWord 19 = .ok (.astore 6, 2) := by decide +kernel
theorem dL_planWord_21 : decode cL_planWord 21 = .ok (.iconst 2, 1) := by decide +kernel
theorem dL_planWord_22 : decode cL_planWord 22 = .ok (.ireturn, 1) := by decide +kernel
theorem dL_planWord_23 : decode cL_planWord 23 = .ok (.iconst 0, 1) := by decide +kernel
theorem dL_planWord_24 : decode cL_planWord 24 = .ok (.ireturn, 1) := by decide +kernel
set_option maxRecDepth 20000 in
theorem ggL_leftoverCount_X8_leftoverCount : GoodIn wsL_leftoverCount wsX8_leftoverCount := goodIn_ca (goodIn_r _ [6, 7, 8, 9, 10, 5, 11, 12, 13, 14, 15, 16, 17, 18, 19, 20, 21, 22, 23, 24, 25, 26, 27, 28, 29, 30, 31, 32, 33, 34, 35, 36, 37, 38, 39, 40, 41, 42, 43, 44, 45, 46, 47, 48, 49, 50, 51, 52, 53, 54, 55, 56, 57, 58, 59, 60, 61, 62, 63, 64, 65, 66, 67, 68, 69, 70, 71, 72, 73, 74, 75, 76, 77, 78, 79, 80, 81, 82, 83, 84, 85, 86, 87, 88, 89, 90, 91, 92, 93, 94, 95, 96, 97, 98, 99, 100, 101, 102, 103, 104, 105, 106, 107, 108, 109, 110, 111, 112, 113, 114, 115, 116, 117, 118, 119, 120, 121, 122, 123, 124, 125, 126, 127, 128, 129, 130, 131, 132, 133, 134, 135, 136, 137, 138, 139, 140, 141, 142, 143, 144, 145, 146, 147, 148, 149, 150, 151, 152, 153] (by decide +kernel) (by decide +kernel)) (goodIn_sub (fun _ h => List.mem_cons_of_mem _ (List.mem_append_right _ h)) (by decide +kernel))
set_option maxRecDepth 20000 in
theorem gL_leftoverCount_X8_leftoverCount : GoodIn wsL_leftoverCount (wsV RL 94 RX8 yX8_leftoverCount wsX8_leftoverCount) := goodIn_app (goodIn_of _ (by decide +kernel)) ggL_leftoverCount_X8_leftoverCount
theorem dL_leftoverCount_0 : decode cL_leftoverCount 0 = .ok (.aload 4, 2) := by decide +kernel
theorem dL_leftoverCount_2 : decode cL_leftoverCount 2 = .ok (.iconst 0, 1) := by decide +kernel
theorem dL_leftoverCount_3 : decode cL_leftoverCount 3 = .ok (.aload_n 0, 1) := by decide +kernel
theorem dL_leftoverCount_4 : decode cL_leftoverCount 4 = .ok (.lload_n 1, 1) := by decide +kernel
theorem dL_leftoverCount_5 : decode cL_leftoverCount 5 = .ok (.iload_n 3, 1) := by decide +kernel
theorem dL_leftoverCount_6 : decode cL_leftoverCount 6 = .ok (.invokevirtual 94, 3) := by decide +kernel
theorem dL_leftoverCount_9 : decode cL_leftoverCount 9 = .ok (.i2l, 1) := by decide +kernel
theorem dL_leftoverCount_10 : decode cL_leftoverCount 10 = .ok (.lastore, 1) := by decide +kernel
theorem dL_leftoverCount_11 : decode cL_leftoverCount 11 = .ok (.goto 7, 3) := by decide +kernel
theorem dL_leftoverCount_14 : decode cL_leftoverCount 14 = .ok (.astore 5, 2) := by decide +kernel
theorem dL_leftoverCount_16 : decode cL_leftoverCount 16 = .ok (.iconst 1, 1) := by decide +kernel
theorem dL_leftoverCount_17 : decode cL_leftoverCount 17 = .ok (.ireturn, 1) := by decide +kernel
theorem dL_leftoverCount_18 : decode cL_leftoverCount 18 = .ok (.iconst 0, 1) := by decide +kernel
theorem dL_leftoverCount_19 : decode cL_leftoverCount 19 = .ok (.ireturn, 1) := by decide +kernel
set_option maxRecDepth 20000 in
theorem ggL_cutToOrder_X8_cutToOrder : GoodIn wsL_cutToOrder wsX8_cutToOrder := goodIn_ca (goodIn_ca (goodIn_r _ [7, 8, 9, 10, 11, 12, 13, 14, 15, 6, 16, 17, 18, 19, 20, 21, 22, 23, 24, 25, 26, 27, 28, 29, 30, 31, 32, 33, 34, 35, 36, 37, 38, 39, 40, 41, 42, 43, 44, 45, 46, 47, 48, 49, 50, 51, 52, 53, 54, 55, 56, 57, 58, 59, 60, 61, 62, 63, 64, 65, 66, 67, 68, 69, 70, 71, 72, 73, 74, 75, 76, 77, 78, 79, 80, 81, 82, 83, 84, 85, 86, 87, 88, 89, 90, 91, 92, 93, 94, 95, 96, 97, 98, 99, 100, 101, 102, 103, 104, 105, 106, 107, 108, 109, 110, 111, 112, 113, 114, 115, 116, 117, 118, 119, 120, 121, 122, 123, 124, 125, 126, 127, 128, 129, 130, 131, 132, 133, 134, 135, 136, 137, 138, 139, 140, 141, 142, 143, 144, 145, 146, 147, 148, 149, 150, 151, 152, 153, 154, 155, 156, 157, 158, 159, 160, 161, 162, 163, 164, 165, 166, 167, 168, 169, 170, 171, 172, 173, 174, 175, 176, 177, 178, 179, 180, 181, 182, 183, 184, 185, 186, 187, 188, 189, 190, 191, 192, 193, 194, 195, 196, 197, 198, 199, 200, 201, 202, 203, 204, 205, 206, 207, 208, 209, 210, 211, 212, 213, 214, 215, 216, 217, 218, 219, 220, 221, 222, 223, 224, 225, 226, 227, 228, 229, 230, 231, 232, 233, 234, 235, 236, 237, 238, 239, 240, 241, 242, 243, 244, 245, 246, 247, 248, 249, 250, 251, 252, 253, 254, 255, 256, 257, 258, 259, 260, 261, 262, 263, 264, 265, 266, 267, 268, 269, 270, 271, 272, 273, 274, 275, 276, 277, 278, 279, 280, 281, 282, 283, 284] (by decide +kernel) (by decide +kernel)) (goodIn_sub (fun _ h => List.mem_cons_of_mem _ (List.mem_append_left _ (List.mem_append_right _ h))) (by decide +kernel))) (goodIn_sub (fun _ h => List.mem_cons_of_mem _ (List.mem_append_right _ h)) (by decide +kernel))
set_option maxRecDepth 20000 in
theorem gL_cutToOrder_X8_cutToOrder : GoodIn wsL_cutToOrder (wsV RL 97 RX8 yX8_cutToOrder wsX8_cutToOrder) := goodIn_app (goodIn_of _ (by decide +kernel)) ggL_cutToOrder_X8_cutToOrder
theorem dL_cutToOrder_0 : decode cL_cutToOrder 0 = .ok (.aload 4, 2) := by decide +kernel
theorem dL_cutToOrder_2 : decode cL_cutToOrder 2 = .ok (.iconst 0, 1) := by decide +kernel
theorem dL_cutToOrder_3 : decode cL_cutToOrder 3 = .ok (.aload_n 0, 1) := by decide +kernel
theorem dL_cutToOrder_4 : decode cL_cutToOrder 4 = .ok (.lload_n 1, 1) := by decide +kernel
theorem dL_cutToOrder_5 : decode cL_cutToOrder 5 = .ok (.iload_n 3, 1) := by decide +kernel
theorem dL_cutToOrder_6 : decode cL_cutToOrder 6 = .ok (.invokevirtual 97, 3) := by decide +kernel
theorem dL_cutToOrder_9 : decode cL_cutToOrder 9 = .ok (.i2l, 1) := by decide +kernel
theorem dL_cutToOrder_10 : decode cL_cutToOrder 10 = .ok (.lastore, 1) := by decide +kernel
theorem dL_cutToOrder_11 : decode cL_cutToOrder 11 = .ok (.goto 11, 3) := by decide +kernel
theorem dL_cutToOrder_14 : decode cL_cutToOrder 14 = .ok (.astore 5, 2) := by decide +kernel
theorem dL_cutToOrder_16 : decode cL_cutToOrder 16 = .ok (.iconst 1, 1) := by decide +kernel
theorem dL_cutToOrder_17 : decode cL_cutToOrder 17 = .ok (.ireturn, 1) := by decide +kernel
theorem dL_cutToOrder_18 : decode cL_cutToOrder 18 = .ok (.astore 5, 2) := by decide +kernel
theorem dL_cutToOrder_20 : decode cL_cutToOrder 20 = .ok (.iconst 2, 1) := by decide +kernel
theorem dL_cutToOrder_21 : decode cL_cutToOrder 21 = .ok (.ireturn, 1) := by decide +kernel
theorem dL_cutToOrder_22 : decode cL_cutToOrder 22 = .ok (.iconst 0, 1) := by decide +kernel
theorem dL_cutToOrder_23 : decode cL_cutToOrder 23 = .ok (.ireturn, 1) := by decide +kernel
set_option maxRecDepth 20000 in
theorem ggL_receiptWord_X8_receiptWord : GoodIn wsL_receiptWord wsX8_receiptWord := goodIn_ca (goodIn_r _ [6, 7, 8, 9, 10, 5, 11, 12, 13, 14, 15, 16, 17, 18, 19, 20, 21, 22, 23, 24, 25, 26, 27, 28, 29, 30, 31, 32, 33, 34, 35, 36, 37, 38, 39, 40, 41, 42, 43, 44, 45, 46, 47, 48, 49, 50, 51, 52, 53, 54] (by decide +kernel) (by decide +kernel)) (goodIn_sub (fun _ h => List.mem_cons_of_mem _ (List.mem_append_right _ h)) (by decide +kernel))
set_option maxRecDepth 20000 in
theorem gL_receiptWord_X8_receiptWord : GoodIn wsL_receiptWord (wsV RL 100 RX8 yX8_receiptWord wsX8_receiptWord) := goodIn_app (goodIn_of _ (by decide +kernel)) ggL_receiptWord_X8_receiptWord
theorem dL_receiptWord_0 : decode cL_receiptWord 0 = .ok (.aload_n 2, 1) := by decide +kernel
theorem dL_receiptWord_1 : decode cL_receiptWord 1 = .ok (.iconst 0, 1) := by decide +kernel
theorem dL_receiptWord_2 : decode cL_receiptWord 2 = .ok (.aload_n 0, 1) := by decide +kernel
theorem dL_receiptWord_3 : decode cL_receiptWord 3 = .ok (.iload_n 1, 1) := by decide +kernel
theorem dL_receiptWord_4 : decode cL_receiptWord 4 = .ok (.invokevirtual 100, 3) := by decide +kernel
theorem dL_receiptWord_7 : decode cL_receiptWord 7 = .ok (.lastore, 1) := by decide +kernel
theorem dL_receiptWord_8 : decode cL_receiptWord 8 = .ok (.goto 6, 3) := by decide +kernel
theorem dL_receiptWord_11 : decode cL_receiptWord 11 = .ok (.astore_n 3, 1) := by decide +kernel
theorem dL_receiptWord_12 : decode cL_receiptWord 12 = .ok (.iconst 1, 1) := by decide +kernel
theorem dL_receiptWord_13 : decode cL_receiptWord 13 = .ok (.ireturn, 1) := by decide +kernel
theorem dL_receiptWord_14 : decode cL_receiptWord 14 = .ok (.iconst 0, 1) := by decide +kernel
theorem dL_receiptWord_15 : decode cL_receiptWord 15 = .ok (.ireturn, 1) := by decide +kernel
set_option maxRecDepth 20000 in
theorem ggL_receiptPrice_X8_receiptPrice : GoodIn wsL_receiptPrice wsX8_receiptPrice := goodIn_ca (goodIn_r _ [6, 7, 8, 9, 10, 5, 11, 12, 13, 14, 15, 16, 17, 18, 19, 20, 21, 22, 23, 24, 25, 26, 27, 28, 29, 30, 31, 32, 33, 34, 35, 36, 37, 38, 39, 40, 41, 42, 43, 44, 45, 46, 47, 48, 49, 50, 51, 52, 53, 54] (by decide +kernel) (by decide +kernel)) (goodIn_sub (fun _ h => List.mem_cons_of_mem _ (List.mem_append_right _ h)) (by decide +kernel))
set_option maxRecDepth 20000 in
theorem gL_receiptPrice_X8_receiptPrice : GoodIn wsL_receiptPrice (wsV RL 103 RX8 yX8_receiptPrice wsX8_receiptPrice) := goodIn_app (goodIn_of _ (by decide +kernel)) ggL_receiptPrice_X8_receiptPrice
theorem dL_receiptPrice_0 : decode cL_receiptPrice 0 = .ok (.aload_n 2, 1) := by decide +kernel
theorem dL_receiptPrice_1 : decode cL_receiptPrice 1 = .ok (.iconst 0, 1) := by decide +kernel
theorem dL_receiptPrice_2 : decode cL_receiptPrice 2 = .ok (.aload_n 0, 1) := by decide +kernel
theorem dL_receiptPrice_3 : decode cL_receiptPrice 3 = .ok (.iload_n 1, 1) := by decide +kernel
theorem dL_receiptPrice_4 : decode cL_receiptPrice 4 = .ok (.invokevirtual 103, 3) := by decide +kernel
theorem dL_receiptPrice_7 : decode cL_receiptPrice 7 = .ok (.i2l, 1) := by decide +kernel
theorem dL_receiptPrice_8 : decode cL_receiptPrice 8 = .ok (.lastore, 1) := by decide +kernel
theorem dL_receiptPrice_9 : decode cL_receiptPrice 9 = .ok (.goto 6, 3) := by decide +kernel
theorem dL_receiptPrice_12 : decode cL_receiptPrice 12 = .ok (.astore_n 3, 1) := by decide +kernel
theorem dL_receiptPrice_13 : decode cL_receiptPrice 13 = .ok (.iconst 1, 1) := by decide +kernel
theorem dL_receiptPrice_14 : decode cL_receiptPrice 14 = .ok (.ireturn, 1) := by decide +kernel
theorem dL_receiptPrice_15 : decode cL_receiptPrice 15 = .ok (.iconst 0, 1) := by decide +kernel
theorem dL_receiptPrice_16 : decode cL_receiptPrice 16 = .ok (.ireturn, 1) := by decide +kernel
set_option maxRecDepth 20000 in
theorem ggL_isReturned_X8_isReturned : GoodIn wsL_isReturned wsX8_isReturned := goodIn_ca (goodIn_r _ [6, 7, 8, 9, 10, 5, 11, 12, 13, 14, 15, 16, 17, 18, 19, 20, 21, 22, 23, 24, 25, 26, 27, 28, 29, 30, 31, 32, 33, 34, 35, 36, 37, 38, 39, 40, 41, 42, 43, 44, 45, 46, 47, 48, 49, 50, 51, 52, 53, 54] (by decide +kernel) (by decide +kernel)) (goodIn_sub (fun _ h => List.mem_cons_of_mem _ (List.mem_append_right _ h)) (by decide +kernel))
set_option maxRecDepth 20000 in
theorem gL_isReturned_X8_isReturned : GoodIn wsL_isReturned (wsV RL 106 RX8 yX8_isReturned wsX8_isReturned) := goodIn_app (goodIn_of _ (by decide +kernel)) ggL_isReturned_X8_isReturned
theorem dL_isReturned_0 : decode cL_isReturned 0 = .ok (.aload_n 2, 1) := by decide +kernel
theorem dL_isReturned_1 : decode cL_isReturned 1 = .ok (.iconst 0, 1) := by decide +kernel
theorem dL_isReturned_2 : decode cL_isReturned 2 = .ok (.aload_n 0, 1) := by decide +kernel
theorem dL_isReturned_3 : decode cL_isReturned 3 = .ok (.iload_n 1, 1) := by decide +kernel
theorem dL_isReturned_4 : decode cL_isReturned 4 = .ok (.invokevirtual 106, 3) := by decide +kernel
theorem dL_isReturned_7 : decode cL_isReturned 7 = .ok (.ifCond .eq 7, 3) := by decide +kernel
theorem dL_isReturned_10 : decode cL_isReturned 10 = .ok (.lconst 1, 1) := by decide +kernel
theorem dL_isReturned_11 : decode cL_isReturned 11 = .ok (.goto 4, 3) := by decide +kernel
theorem dL_isReturned_14 : decode cL_isReturned 14 = .ok (.lconst 0, 1) := by decide +kernel
theorem dL_isReturned_15 : decode cL_isReturned 15 = .ok (.lastore, 1) := by decide +kernel
theorem dL_isReturned_16 : decode cL_isReturned 16 = .ok (.goto 6, 3) := by decide +kernel
theorem dL_isReturned_19 : decode cL_isReturned 19 = .ok (.astore_n 3, 1) := by decide +kernel
theorem dL_isReturned_20 : decode cL_isReturned 20 = .ok (.iconst 1, 1) := by decide +kernel
theorem dL_isReturned_21 : decode cL_isReturned 21 = .ok (.ireturn, 1) := by decide +kernel
theorem dL_isReturned_22 : decode cL_isReturned 22 = .ok (.iconst 0, 1) := by decide +kernel
theorem dL_isReturned_23 : decode cL_isReturned 23 = .ok (.ireturn, 1) := by decide +kernel
set_option maxRecDepth 20000 in
theorem ggL_takeBack_X8_takeBack : GoodIn wsL_takeBack wsX8_takeBack := goodIn_ca (goodIn_ca (goodIn_r _ [7, 8, 9, 10, 11, 12, 13, 14, 15, 16, 17, 18, 6, 19, 20, 21, 22, 23, 24, 25, 26, 27, 28, 29, 30, 31, 32, 33, 34, 35, 36, 37, 38, 39, 40, 41, 42, 43, 44, 45, 46, 47, 48, 49, 50, 51, 52, 53, 54, 55, 56, 57, 58, 59, 60, 61, 62, 63, 64, 65, 66, 67, 68, 69, 70, 71, 72, 73, 74, 75, 76, 77, 78, 79, 80, 81, 82, 83, 84, 85, 86, 87, 88, 89, 90, 91, 92, 93, 94, 95, 96, 97, 98, 99, 100, 101, 102, 103, 104, 105, 106, 107, 108, 109, 110, 111, 112, 113, 114, 115, 116, 117] (by decide +kernel) (by decide +kernel)) (goodIn_sub (fun _ h => List.mem_cons_of_mem _ (List.mem_append_left _ (List.mem_append_right _ h))) (by decide +kernel))) (goodIn_sub (fun _ h => List.mem_cons_of_mem _ (List.mem_append_right _ h)) (by decide +kernel))
set_option maxRecDepth 20000 in
theorem gL_takeBack_X8_takeBack : GoodIn wsL_takeBack (wsV RL 110 RX8 yX8_takeBack wsX8_takeBack) := goodIn_app (goodIn_of _ (by decide +kernel)) ggL_takeBack_X8_takeBack
theorem dL_takeBack_0 : decode cL_takeBack 0 = .ok (.aload_n 2, 1) := by decide +kernel
theorem dL_takeBack_1 : decode cL_takeBack 1 = .ok (.iconst 0, 1) := by decide +kernel
theorem dL_takeBack_2 : decode cL_takeBack 2 = .ok (.aload_n 0, 1) := by decide +kernel
theorem dL_takeBack_3 : decode cL_takeBack 3 = .ok (.iload_n 1, 1) := by decide +kernel
theorem dL_takeBack_4 : decode cL_takeBack 4 = .ok (.invokevirtual 110, 3) := by decide +kernel
theorem dL_takeBack_7 : decode cL_takeBack 7 = .ok (.i2l, 1) := by decide +kernel
theorem dL_takeBack_8 : decode cL_takeBack 8 = .ok (.lastore, 1) := by decide +kernel
theorem dL_takeBack_9 : decode cL_takeBack 9 = .ok (.goto 9, 3) := by decide +kernel
theorem dL_takeBack_12 : decode cL_takeBack 12 = .ok (.astore_n 3, 1) := by decide +kernel
theorem dL_takeBack_13 : decode cL_takeBack 13 = .ok (.iconst 1, 1) := by decide +kernel
theorem dL_takeBack_14 : decode cL_takeBack 14 = .ok (.ireturn, 1) := by decide +kernel
theorem dL_takeBack_15 : decode cL_takeBack 15 = .ok (.astore_n 3, 1) := by decide +kernel
theorem dL_takeBack_16 : decode cL_takeBack 16 = .ok (.iconst 2, 1) := by decide +kernel
theorem dL_takeBack_17 : decode cL_takeBack 17 = .ok (.ireturn, 1) := by decide +kernel
theorem dL_takeBack_18 : decode cL_takeBack 18 = .ok (.iconst 0, 1) := by decide +kernel
theorem dL_takeBack_19 : decode cL_takeBack 19 = .ok (.ireturn, 1) := by decide +kernel
set_option maxRecDepth 20000 in
theorem ggL_cameIn_X8_cameIn : GoodIn wsL_cameIn wsX8_cameIn := goodIn_ca (goodIn_r _ [6, 7, 8, 9, 10, 5, 11, 12, 13, 14, 15, 16, 17, 18, 19, 20, 21, 22, 23, 24, 25, 26, 27, 28, 29, 30, 31, 32] (by decide +kernel) (by decide +kernel)) (goodIn_sub (fun _ h => List.mem_cons_of_mem _ (List.mem_append_right _ h)) (by decide +kernel))
set_option maxRecDepth 20000 in
theorem gL_cameIn_X8_cameIn : GoodIn wsL_cameIn (wsV RL 113 RX8 yX8_cameIn wsX8_cameIn) := goodIn_app (goodIn_of _ (by decide +kernel)) ggL_cameIn_X8_cameIn
theorem dL_cameIn_0 : decode cL_cameIn 0 = .ok (.aload_n 2, 1) := by decide +kernel
theorem dL_cameIn_1 : decode cL_cameIn 1 = .ok (.iconst 0, 1) := by decide +kernel
theorem dL_cameIn_2 : decode cL_cameIn 2 = .ok (.aload_n 0, 1) := by decide +kernel
theorem dL_cameIn_3 : decode cL_cameIn 3 = .ok (.iload_n 1, 1) := by decide +kernel
theorem dL_cameIn_4 : decode cL_cameIn 4 = .ok (.invokevirtual 113, 3) := by decide +kernel
theorem dL_cameIn_7 : decode cL_cameIn 7 = .ok (.i2l, 1) := by decide +kernel
theorem dL_cameIn_8 : decode cL_cameIn 8 = .ok (.lastore, 1) := by decide +kernel
theorem dL_cameIn_9 : decode cL_cameIn 9 = .ok (.goto 6, 3) := by decide +kernel
theorem dL_cameIn_12 : decode cL_cameIn 12 = .ok (.astore_n 3, 1) := by decide +kernel
theorem dL_cameIn_13 : decode cL_cameIn 13 = .ok (.iconst 1, 1) := by decide +kernel
theorem dL_cameIn_14 : decode cL_cameIn 14 = .ok (.ireturn, 1) := by decide +kernel
theorem dL_cameIn_15 : decode cL_cameIn 15 = .ok (.iconst 0, 1) := by decide +kernel
theorem dL_cameIn_16 : decode cL_cameIn 16 = .ok (.ireturn, 1) := by decide +kernel
set_option maxRecDepth 20000 in
theorem ggL_soldPieces_X8_soldPieces : GoodIn wsL_soldPieces wsX8_soldPieces := goodIn_ca (goodIn_r _ [6, 7, 8, 9, 10, 5, 11, 12, 13, 14, 15, 16, 17, 18, 19, 20, 21, 22, 23, 24, 25, 26, 27, 28, 29, 30, 31, 32] (by decide +kernel) (by decide +kernel)) (goodIn_sub (fun _ h => List.mem_cons_of_mem _ (List.mem_append_right _ h)) (by decide +kernel))
set_option maxRecDepth 20000 in
theorem gL_soldPieces_X8_soldPieces : GoodIn wsL_soldPieces (wsV RL 116 RX8 yX8_soldPieces wsX8_soldPieces) := goodIn_app (goodIn_of _ (by decide +kernel)) ggL_soldPieces_X8_soldPieces
theorem dL_soldPieces_0 : decode cL_soldPieces 0 = .ok (.aload_n 2, 1) := by decide +kernel
theorem dL_soldPieces_1 : decode cL_soldPieces 1 = .ok (.iconst 0, 1) := by decide +kernel
theorem dL_soldPieces_2 : decode cL_soldPieces 2 = .ok (.aload_n 0, 1) := by decide +kernel
theorem dL_soldPieces_3 : decode cL_soldPieces 3 = .ok (.iload_n 1, 1) := by decide +kernel
theorem dL_soldPieces_4 : decode cL_soldPieces 4 = .ok (.invokevirtual 116, 3) := by decide +kernel
theorem dL_soldPieces_7 : decode cL_soldPieces 7 = .ok (.i2l, 1) := by decide +kernel
theorem dL_soldPieces_8 : decode cL_soldPieces 8 = .ok (.lastore, 1) := by decide +kernel
theorem dL_soldPieces_9 : decode cL_soldPieces 9 = .ok (.goto 6, 3) := by decide +kernel
theorem dL_soldPieces_12 : decode cL_soldPieces 12 = .ok (.astore_n 3, 1) := by decide +kernel
theorem dL_soldPieces_13 : decode cL_soldPieces 13 = .ok (.iconst 1, 1) := by decide +kernel
theorem dL_soldPieces_14 : decode cL_soldPieces 14 = .ok (.ireturn, 1) := by decide +kernel
theorem dL_soldPieces_15 : decode cL_soldPieces 15 = .ok (.iconst 0, 1) := by decide +kernel
theorem dL_soldPieces_16 : decode cL_soldPieces 16 = .ok (.ireturn, 1) := by decide +kernel
